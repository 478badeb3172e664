theorem dX6_carryOutOrder_129 : decode cX6_carryOutOrder 129 = .ok (.iconst 0, 1) := by decide +kernel
theorem dX6_carryOutOrder_130 : decode cX6_carryOutOrder 130 = .ok (.iaload, 1) := by decide +kernel
theorem dX6_carryOutOrder_131 : decode cX6_carryOutOrder 131 = .ok (.invokevirtual 74, 3) := by decide +kernel
theorem dX6_carryOutOrder_134 : decode cX6_carryOutOrder 134 = .ok (.ireturn, 1) := by decide +kernel
theorem dX6_carryOutOrder_135 : decode cX6_carryOutOrder 135 = .ok (.aload_n 0, 1) := by decide +kernel
theorem dX6_carryOutOrder_136 : decode cX6_carryOutOrder 136 = .ok (.getfield 10, 3) := by decide +kernel
theorem dX6_carryOutOrder_139 : decode cX6_carryOutOrder 139 = .ok (.invokevirtual 77, 3) := by decide +kernel
theorem dX6_carryOutOrder_142 : decode cX6_carryOutOrder 142 = .ok (.ireturn, 1) := by decide +kernel
theorem dX6_carryOutOrder_143 : decode cX6_carryOutOrder 143 = .ok (.aload_n 0, 1) := by decide +kernel
theorem dX6_carryOutOrder_144 : decode cX6_carryOutOrder 144 = .ok (.getfield 10, 3) := by decide +kernel
theorem dX6_carryOutOrder_147 : decode cX6_carryOutOrder 147 = .ok (.aload_n 1, 1) := by decide +kernel
theorem dX6_carryOutOrder_148 : decode cX6_carryOutOrder 148 = .ok (.iconst 0, 1) := by decide +kernel
theorem dX6_carryOutOrder_149 : decode cX6_carryOutOrder 149 = .ok (.iaload, 1) := by decide +kernel
theorem dX6_carryOutOrder_150 : decode cX6_carryOutOrder 150 = .ok (.invokevirtual 61, 3) := by decide +kernel
theorem dX6_carryOutOrder_153 : decode cX6_carryOutOrder 153 = .ok (.ireturn, 1) := by decide +kernel
theorem dX6_carryOutOrder_154 : decode cX6_carryOutOrder 154 = .ok (.bipush (-3), 2) := by decide +kernel
theorem dX6_carryOutOrder_156 : decode cX6_carryOutOrder 156 = .ok (.ireturn, 1) := by decide +kernel
set_option maxRecDepth 20000 in
theorem ggX6_charactersIn_X6_codeAt : GoodIn wsX6_charactersIn wsX6_codeAt := goodIn_r _ [4] (by decide +kernel) (by decide +kernel)
set_option maxRecDepth 20000 in
theorem gX6_charactersIn_X6_codeAt : GoodIn wsX6_charactersIn (va_wsS RX6 210 yX6_codeAt wsX6_codeAt) := goodIn_app (goodIn_of _ (by decide +kernel)) ggX6_charactersIn_X6_codeAt
set_option maxRecDepth 20000 in
theorem ggX6_charactersIn_X6_within : GoodIn wsX6_charactersIn wsX6_within := goodIn_r _ [7] (by decide +kernel) (by decide +kernel)
set_option maxRecDepth 20000 in
theorem gX6_charactersIn_X6_within : GoodIn wsX6_charactersIn (va_wsS RX6 149 yX6_within wsX6_within) := goodIn_app (goodIn_of _ (by decide +kernel)) ggX6_charactersIn_X6_within
theorem dX6_charactersIn_0 : decode cX6_charactersIn 0 = .ok (.iconst 0, 1) := by decide +kernel
theorem dX6_charactersIn_1 : decode cX6_charactersIn 1 = .ok (.istore_n 2, 1) := by decide +kernel
theorem dX6_charactersIn_2 : decode cX6_charactersIn 2 = .ok (.iload_n 2, 1) := by decide +kernel
theorem dX6_charactersIn_3 : decode cX6_charactersIn 3 = .ok (.bipush 8, 2) := by decide +kernel
theorem dX6_charactersIn_5 : decode cX6_charactersIn 5 = .ok (.if_icmp .ge 24, 3) := by decide +kernel
theorem dX6_charactersIn_8 : decode cX6_charactersIn 8 = .ok (.lload_n 0, 1) := by decide +kernel
theorem dX6_charactersIn_9 : decode cX6_charactersIn 9 = .ok (.iload_n 2, 1) := by decide +kernel
theorem dX6_charactersIn_10 : decode cX6_charactersIn 10 = .ok (.invokestatic 210, 3) := by decide +kernel
theorem dX6_charactersIn_13 : decode cX6_charactersIn 13 = .ok (.bipush 33, 2) := by decide +kernel
theorem dX6_charactersIn_15 : decode cX6_charactersIn 15 = .ok (.bipush 126, 2) := by decide +kernel
theorem dX6_charactersIn_17 : decode cX6_charactersIn 17 = .ok (.invokestatic 149, 3) := by decide +kernel
theorem dX6_charactersIn_20 : decode cX6_charactersIn 20 = .ok (.ifCond .eq 9, 3) := by decide +kernel
theorem dX6_charactersIn_23 : decode cX6_charactersIn 23 = .ok (.iinc 2 1, 3) := by decide +kernel
theorem dX6_charactersIn_26 : decode cX6_charactersIn 26 = .ok (.goto (-24), 3) := by decide +kernel
theorem dX6_charactersIn_29 : decode cX6_charactersIn 29 = .ok (.iload_n 2, 1) := by decide +kernel
theorem dX6_charactersIn_30 : decode cX6_charactersIn 30 = .ok (.bipush 8, 2) := by decide +kernel
theorem dX6_charactersIn_32 : decode cX6_charactersIn 32 = .ok (.if_icmp .eq 14, 3) := by decide +kernel
theorem dX6_charactersIn_35 : decode cX6_charactersIn 35 = .ok (.lload_n 0, 1) := by decide +kernel
theorem dX6_charactersIn_36 : decode cX6_charactersIn 36 = .ok (.bipush 8, 2) := by decide +kernel
theorem dX6_charactersIn_38 : decode cX6_charactersIn 38 = .ok (.iload_n 2, 1) := by decide +kernel
theorem dX6_charactersIn_39 : decode cX6_charactersIn 39 = .ok (.imul, 1) := by decide +kernel
theorem dX6_charactersIn_40 : decode cX6_charactersIn 40 = .ok (.lushr, 1) := by decide +kernel
theorem dX6_charactersIn_41 : decode cX6_charactersIn 41 = .ok (.lconst 0, 1) := by decide +kernel
theorem dX6_charactersIn_42 : decode cX6_charactersIn 42 = .ok (.lcmp, 1) := by decide +kernel
theorem dX6_charactersIn_43 : decode cX6_charactersIn 43 = .ok (.ifCond .ne 7, 3) := by decide +kernel
theorem dX6_charactersIn_46 : decode cX6_charactersIn 46 = .ok (.iconst 1, 1) := by decide +kernel
theorem dX6_charactersIn_47 : decode cX6_charactersIn 47 = .ok (.goto 4, 3) := by decide +kernel
theorem dX6_charactersIn_50 : decode cX6_charactersIn 50 = .ok (.iconst 0, 1) := by decide +kernel
theorem dX6_charactersIn_51 : decode cX6_charactersIn 51 = .ok (.istore_n 3, 1) := by decide +kernel
theorem dX6_charactersIn_52 : decode cX6_charactersIn 52 = .ok (.iload_n 3, 1) := by decide +kernel
theorem dX6_charactersIn_53 : decode cX6_charactersIn 53 = .ok (.ifCond .eq 7, 3) := by decide +kernel
theorem dX6_charactersIn_56 : decode cX6_charactersIn 56 = .ok (.iload_n 2, 1) := by decide +kernel
theorem dX6_charactersIn_57 : decode cX6_charactersIn 57 = .ok (.goto 4, 3) := by decide +kernel
theorem dX6_charactersIn_60 : decode cX6_charactersIn 60 = .ok (.iconst 0, 1) := by decide +kernel
theorem dX6_charactersIn_61 : decode cX6_charactersIn 61 = .ok (.ireturn, 1) := by decide +kernel
theorem dX6_codeAt_0 : decode cX6_codeAt 0 = .ok (.lload_n 0, 1) := by decide +kernel
theorem dX6_codeAt_1 : decode cX6_codeAt 1 = .ok (.bipush 8, 2) := by decide +kernel
theorem dX6_codeAt_3 : decode cX6_codeAt 3 = .ok (.iload_n 2, 1) := by decide +kernel
theorem dX6_codeAt_4 : decode cX6_codeAt 4 = .ok (.imul, 1) := by decide +kernel
theorem dX6_codeAt_5 : decode cX6_codeAt 5 = .ok (.lushr, 1) := by decide +kernel
theorem dX6_codeAt_6 : decode cX6_codeAt 6 = .ok (.l2i, 1) := by decide +kernel
theorem dX6_codeAt_7 : decode cX6_codeAt 7 = .ok (.sipush 255, 3) := by decide +kernel
theorem dX6_codeAt_10 : decode cX6_codeAt 10 = .ok (.iand, 1) := by decide +kernel
theorem dX6_codeAt_11 : decode cX6_codeAt 11 = .ok (.ireturn, 1) := by decide +kernel
theorem dX6_within_0 : decode cX6_within 0 = .ok (.iload_n 0, 1) := by decide +kernel
theorem dX6_within_1 : decode cX6_within 1 = .ok (.iload_n 1, 1) := by decide +kernel
theorem dX6_within_2 : decode cX6_within 2 = .ok (.if_icmp .lt 12, 3) := by decide +kernel
theorem dX6_within_5 : decode cX6_within 5 = .ok (.iload_n 0, 1) := by decide +kernel
theorem dX6_within_6 : decode cX6_within 6 = .ok (.iload_n 2, 1) := by decide +kernel
theorem dX6_within_7 : decode cX6_within 7 = .ok (.if_icmp .gt 7, 3) := by decide +kernel
theorem dX6_within_10 : decode cX6_within 10 = .ok (.iconst 1, 1) := by decide +kernel
theorem dX6_within_11 : decode cX6_within 11 = .ok (.goto 4, 3) := by decide +kernel
theorem dX6_within_14 : decode cX6_within 14 = .ok (.iconst 0, 1) := by decide +kernel
theorem dX6_within_15 : decode cX6_within 15 = .ok (.ireturn, 1) := by decide +kernel
set_option maxRecDepth 20000 in
theorem ggX6_isDimension_X6_within : GoodIn wsX6_isDimension wsX6_within := goodIn_r _ [4] (by decide +kernel) (by decide +kernel)
set_option maxRecDepth 20000 in
theorem gX6_isDimension_X6_within : GoodIn wsX6_isDimension (va_wsS RX6 149 yX6_within wsX6_within) := goodIn_app (goodIn_of _ (by decide +kernel)) ggX6_isDimension_X6_within
theorem dX6_isDimension_0 : decode cX6_isDimension 0 = .ok (.iload_n 0, 1) := by decide +kernel
theorem dX6_isDimension_1 : decode cX6_isDimension 1 = .ok (.iconst 0, 1) := by decide +kernel
theorem dX6_isDimension_2 : decode cX6_isDimension 2 = .ok (.iconst 2, 1) := by decide +kernel
theorem dX6_isDimension_3 : decode cX6_isDimension 3 = .ok (.invokestatic 149, 3) := by decide +kernel
theorem dX6_isDimension_6 : decode cX6_isDimension 6 = .ok (.ireturn, 1) := by decide +kernel
theorem dX6_isIn_0 : decode cX6_isIn 0 = .ok (.iload_n 1, 1) := by decide +kernel
theorem dX6_isIn_1 : decode cX6_isIn 1 = .ok (.iload_n 0, 1) := by decide +kernel
theorem dX6_isIn_2 : decode cX6_isIn 2 = .ok (.ishr, 1) := by decide +kernel
theorem dX6_isIn_3 : decode cX6_isIn 3 = .ok (.iconst 1, 1) := by decide +kernel
theorem dX6_isIn_4 : decode cX6_isIn 4 = .ok (.iand, 1) := by decide +kernel
theorem dX6_isIn_5 : decode cX6_isIn 5 = .ok (.iconst 1, 1) := by decide +kernel
theorem dX6_isIn_6 : decode cX6_isIn 6 = .ok (.if_icmp .ne 7, 3) := by decide +kernel
theorem dX6_isIn_9 : decode cX6_isIn 9 = .ok (.iconst 1, 1) := by decide +kernel
theorem dX6_isIn_10 : decode cX6_isIn 10 = .ok (.goto 4, 3) := by decide +kernel
theorem dX6_isIn_13 : decode cX6_isIn 13 = .ok (.iconst 0, 1) := by decide +kernel
theorem dX6_isIn_14 : decode cX6_isIn 14 = .ok (.ireturn, 1) := by decide +kernel
theorem dX6_oneIf_0 : decode cX6_oneIf 0 = .ok (.iload_n 0, 1) := by decide +kernel
theorem dX6_oneIf_1 : decode cX6_oneIf 1 = .ok (.ifCond .eq 7, 3) := by decide +kernel
theorem dX6_oneIf_4 : decode cX6_oneIf 4 = .ok (.iconst 1, 1) := by decide +kernel
theorem dX6_oneIf_5 : decode cX6_oneIf 5 = .ok (.goto 4, 3) := by decide +kernel
theorem dX6_oneIf_8 : decode cX6_oneIf 8 = .ok (.iconst 0, 1) := by decide +kernel
theorem dX6_oneIf_9 : decode cX6_oneIf 9 = .ok (.ireturn, 1) := by decide +kernel
set_option maxRecDepth 20000 in
theorem ggX7_init_X7_forgets : GoodIn wsX7_init wsX7_forgets := goodIn_r _ [20, 5, 21, 22, 23, 19, 24, 25, 26, 27, 15, 28, 29, 30, 31, 32, 33, 34, 35, 36, 37, 38, 39, 40, 41] (by decide +kernel) (by decide +kernel)
set_option maxRecDepth 20000 in
theorem gX7_init_X7_forgets : GoodIn wsX7_init (wsV RX7 37 RX7 yX7_forgets wsX7_forgets) := goodIn_app (goodIn_of _ (by decide +kernel)) ggX7_init_X7_forgets
theorem dX7_init_0 : decode cX7_init 0 = .ok (.aload_n 0, 1) := by decide +kernel
theorem dX7_init_1 : decode cX7_init 1 = .ok (.invokespecial 1, 3) := by decide +kernel
theorem dX7_init_4 : decode cX7_init 4 = .ok (.aload_n 0, 1) := by decide +kernel
theorem dX7_init_5 : decode cX7_init 5 = .ok (.bipush 86, 2) := by decide +kernel
theorem dX7_init_7 : decode cX7_init 7 = .ok (.newarray .long, 2) := by decide +kernel
theorem dX7_init_9 : decode cX7_init 9 = .ok (.putfield 7, 3) := by decide +kernel
theorem dX7_init_12 : decode cX7_init 12 = .ok (.aload_n 0, 1) := by decide +kernel
theorem dX7_init_13 : decode cX7_init 13 = .ok (.bipush 86, 2) := by decide +kernel
theorem dX7_init_15 : decode cX7_init 15 = .ok (.newarray .long, 2) := by decide +kernel
theorem dX7_init_17 : decode cX7_init 17 = .ok (.putfield 13, 3) := by decide +kernel
theorem dX7_init_20 : decode cX7_init 20 = .ok (.aload_n 0, 1) := by decide +kernel
theorem dX7_init_21 : decode cX7_init 21 = .ok (.sipush 516, 3) := by decide +kernel
theorem dX7_init_24 : decode cX7_init 24 = .ok (.newarray .long, 2) := by decide +kernel
theorem dX7_init_26 : decode cX7_init 26 = .ok (.putfield 16, 3) := by decide +kernel
theorem dX7_init_29 : decode cX7_init 29 = .ok (.aload_n 0, 1) := by decide +kernel
theorem dX7_init_30 : decode cX7_init 30 = .ok (.sipush 172, 3) := by decide +kernel
theorem dX7_init_33 : decode cX7_init 33 = .ok (.newarray .long, 2) := by decide +kernel
theorem dX7_init_35 : decode cX7_init 35 = .ok (.putfield 19, 3) := by decide +kernel
theorem dX7_init_38 : decode cX7_init 38 = .ok (.aload_n 0, 1) := by decide +kernel
theorem dX7_init_39 : decode cX7_init 39 = .ok (.iconst 2, 1) := by decide +kernel
theorem dX7_init_40 : decode cX7_init 40 = .ok (.newarray .boolean, 2) := by decide +kernel
theorem dX7_init_42 : decode cX7_init 42 = .ok (.putfield 22, 3) := by decide +kernel
theorem dX7_init_45 : decode cX7_init 45 = .ok (.aload_n 0, 1) := by decide +kernel
theorem dX7_init_46 : decode cX7_init 46 = .ok (.bipush 80, 2) := by decide +kernel
theorem dX7_init_48 : decode cX7_init 48 = .ok (.newarray .int, 2) := by decide +kernel
theorem dX7_init_50 : decode cX7_init 50 = .ok (.putfield 26, 3) := by decide +kernel
theorem dX7_init_53 : decode cX7_init 53 = .ok (.aload_n 0, 1) := by decide +kernel
theorem dX7_init_54 : decode cX7_init 54 = .ok (.sipush 205, 3) := by decide +kernel
theorem dX7_init_57 : decode cX7_init 57 = .ok (.newarray .int, 2) := by decide +kernel
theorem dX7_init_59 : decode cX7_init 59 = .ok (.putfield 30, 3) := by decide +kernel
theorem dX7_init_62 : decode cX7_init 62 = .ok (.iconst 0, 1) := by decide +kernel
theorem dX7_init_63 : decode cX7_init 63 = .ok (.istore_n 1, 1) := by decide +kernel
theorem dX7_init_64 : decode cX7_init 64 = .ok (.iload_n 1, 1) := by decide +kernel
theorem dX7_init_65 : decode cX7_init 65 = .ok (.iconst 3, 1) := by decide +kernel
theorem dX7_init_66 : decode cX7_init 66 = .ok (.if_icmp .ge 21, 3) := by decide +kernel
theorem dX7_init_69 : decode cX7_init 69 = .ok (.aload_n 0, 1) := by decide +kernel
theorem dX7_init_70 : decode cX7_init 70 = .ok (.getfield 7, 3) := by decide +kernel
theorem dX7_init_73 : decode cX7_init 73 = .ok (.bipush 65, 2) := by decide +kernel
theorem dX7_init_75 : decode cX7_init 75 = .ok (.iload_n 1, 1) := by decide +kernel
theorem dX7_init_76 : decode cX7_init 76 = .ok (.iadd, 1) := by decide +kernel
theorem dX7_init_77 : decode cX7_init 77 = .ok (.ldc2_w 33, 3) := by decide +kernel
theorem dX7_init_80 : decode cX7_init 80 = .ok (.lastore, 1) := by decide +kernel
theorem dX7_init_81 : decode cX7_init 81 = .ok (.iinc 1 1, 3) := by decide +kernel
theorem dX7_init_84 : decode cX7_init 84 = .ok (.goto (-20), 3) := by decide +kernel
theorem dX7_init_87 : decode cX7_init 87 = .ok (.aload_n 0, 1) := by decide +kernel
theorem dX7_init_88 : decode cX7_init 88 = .ok (.getfield 7, 3) := by decide +kernel
theorem dX7_init_91 : decode cX7_init 91 = .ok (.bipush 72, 2) := by decide +kernel
theorem dX7_init_93 : decode cX7_init 93 = .ok (.ldc2_w 35, 3) := by decide +kernel
theorem dX7_init_96 : decode cX7_init 96 = .ok (.lastore, 1) := by decide +kernel
theorem dX7_init_97 : decode cX7_init 97 = .ok (.aload_n 0, 1) := by decide +kernel
theorem dX7_init_98 : decode cX7_init 98 = .ok (.invokevirtual 37, 3) := by decide +kernel
theorem dX7_init_101 : decode cX7_init 101 = .ok (.return_, 1) := by decide +kernel
theorem dX7_in_0 : decode cX7_in 0 = .ok (.iload_n 0, 1) := by decide +kernel
theorem dX7_in_1 : decode cX7_in 1 = .ok (.iload_n 1, 1) := by decide +kernel
theorem dX7_in_2 : decode cX7_in 2 = .ok (.if_icmp .lt 12, 3) := by decide +kernel
theorem dX7_in_5 : decode cX7_in 5 = .ok (.iload_n 0, 1) := by decide +kernel
theorem dX7_in_6 : decode cX7_in 6 = .ok (.iload_n 2, 1) := by decide +kernel
theorem dX7_in_7 : decode cX7_in 7 = .ok (.if_icmp .gt 7, 3) := by decide +kernel
theorem dX7_in_10 : decode cX7_in 10 = .ok (.iconst 1, 1) := by decide +kernel
theorem dX7_in_11 : decode cX7_in 11 = .ok (.goto 4, 3) := by decide +kernel
theorem dX7_in_14 : decode cX7_in 14 = .ok (.iconst 0, 1) := by decide +kernel
theorem dX7_in_15 : decode cX7_in 15 = .ok (.ireturn, 1) := by decide +kernel
set_option maxRecDepth 20000 in
theorem ggX7_isWay_X7_in : GoodIn wsX7_isWay wsX7_in := goodIn_r _ [4] (by decide +kernel) (by decide +kernel)
set_option maxRecDepth 20000 in
theorem gX7_isWay_X7_in : GoodIn wsX7_isWay (va_wsS RX7 40 yX7_in wsX7_in) := goodIn_app (goodIn_of _ (by decide +kernel)) ggX7_isWay_X7_in
theorem dX7_isWay_0 : decode cX7_isWay 0 = .ok (.iload_n 0, 1) := by decide +kernel
theorem dX7_isWay_1 : decode cX7_isWay 1 = .ok (.iconst 0, 1) := by decide +kernel
theorem dX7_isWay_2 : decode cX7_isWay 2 = .ok (.iconst 2, 1) := by decide +kernel
theorem dX7_isWay_3 : decode cX7_isWay 3 = .ok (.invokestatic 40, 3) := by decide +kernel
theorem dX7_isWay_6 : decode cX7_isWay 6 = .ok (.ireturn, 1) := by decide +kernel
set_option maxRecDepth 20000 in
theorem ggX7_isItem_X7_in : GoodIn wsX7_isItem wsX7_in := goodIn_r _ [5] (by decide +kernel) (by decide +kernel)
set_option maxRecDepth 20000 in
theorem gX7_isItem_X7_in : GoodIn wsX7_isItem (va_wsS RX7 40 yX7_in wsX7_in) := goodIn_app (goodIn_of _ (by decide +kernel)) ggX7_isItem_X7_in
theorem dX7_isItem_0 : decode cX7_isItem 0 = .ok (.iload_n 1, 1) := by decide +kernel
theorem dX7_isItem_1 : decode cX7_isItem 1 = .ok (.iconst 0, 1) := by decide +kernel
theorem dX7_isItem_2 : decode cX7_isItem 2 = .ok (.aload_n 0, 1) := by decide +kernel
theorem dX7_isItem_3 : decode cX7_isItem 3 = .ok (.getfield 7, 3) := by decide +kernel
theorem dX7_isItem_6 : decode cX7_isItem 6 = .ok (.iconst 0, 1) := by decide +kernel
theorem dX7_isItem_7 : decode cX7_isItem 7 = .ok (.laload, 1) := by decide +kernel
theorem dX7_isItem_8 : decode cX7_isItem 8 = .ok (.l2i, 1) := by decide +kernel
theorem dX7_isItem_9 : decode cX7_isItem 9 = .ok (.iconst 1, 1) := by decide +kernel
theorem dX7_isItem_10 : decode cX7_isItem 10 = .ok (.isub, 1) := by decide +kernel
theorem dX7_isItem_11 : decode cX7_isItem 11 = .ok (.invokestatic 40, 3) := by decide +kernel
theorem dX7_isItem_14 : decode cX7_isItem 14 = .ok (.ireturn, 1) := by decide +kernel
theorem dX7_of_0 : decode cX7_of 0 = .ok (.aload_n 0, 1) := by decide +kernel
theorem dX7_of_1 : decode cX7_of 1 = .ok (.iconst 1, 1) := by decide +kernel
theorem dX7_of_2 : decode cX7_of 2 = .ok (.iconst 4, 1) := by decide +kernel
theorem dX7_of_3 : decode cX7_of 3 = .ok (.iload_n 1, 1) := by decide +kernel
theorem dX7_of_4 : decode cX7_of 4 = .ok (.imul, 1) := by decide +kernel
theorem dX7_of_5 : decode cX7_of 5 = .ok (.iadd, 1) := by decide +kernel
theorem dX7_of_6 : decode cX7_of 6 = .ok (.iload_n 2, 1) := by decide +kernel
theorem dX7_of_7 : decode cX7_of 7 = .ok (.iadd, 1) := by decide +kernel
theorem dX7_of_8 : decode cX7_of 8 = .ok (.laload, 1) := by decide +kernel
theorem dX7_of_9 : decode cX7_of 9 = .ok (.l2i, 1) := by decide +kernel
theorem dX7_of_10 : decode cX7_of 10 = .ok (.ireturn, 1) := by decide +kernel
theorem dX7_lays_0 : decode cX7_lays 0 = .ok (.iconst 0, 1) := by decide +kernel
theorem dX7_lays_1 : decode cX7_lays 1 = .ok (.istore 4, 2) := by decide +kernel
theorem dX7_lays_3 : decode cX7_lays 3 = .ok (.iload 4, 2) := by decide +kernel
theorem dX7_lays_5 : decode cX7_lays 5 = .ok (.bipush 86, 2) := by decide +kernel
theorem dX7_lays_7 : decode cX7_lays 7 = .ok (.if_icmp .ge 21, 3) := by decide +kernel
theorem dX7_lays_10 : decode cX7_lays 10 = .ok (.aload_n 2, 1) := by decide +kernel
theorem dX7_lays_11 : decode cX7_lays 11 = .ok (.iload_n 3, 1) := by decide +kernel
theorem dX7_lays_12 : decode cX7_lays 12 = .ok (.iload 4, 2) := by decide +kernel
theorem dX7_lays_14 : decode cX7_lays 14 = .ok (.iadd, 1) := by decide +kernel
theorem dX7_lays_15 : decode cX7_lays 15 = .ok (.aload_n 0, 1) := by decide +kernel
theorem dX7_lays_16 : decode cX7_lays 16 = .ok (.iload_n 1, 1) := by decide +kernel
theorem dX7_lays_17 : decode cX7_lays 17 = .ok (.iload 4, 2) := by decide +kernel
theorem dX7_lays_19 : decode cX7_lays 19 = .ok (.iadd, 1) := by decide +kernel
theorem dX7_lays_20 : decode cX7_lays 20 = .ok (.laload, 1) := by decide +kernel
theorem dX7_lays_21 : decode cX7_lays 21 = .ok (.lastore, 1) := by decide +kernel
theorem dX7_lays_22 : decode cX7_lays 22 = .ok (.iinc 4 1, 3) := by decide +kernel
theorem dX7_lays_25 : decode cX7_lays 25 = .ok (.goto (-22), 3) := by decide +kernel
theorem dX7_lays_28 : decode cX7_lays 28 = .ok (.return_, 1) := by decide +kernel
set_option maxRecDepth 20000 in
theorem ggX7_records_X7_lays : GoodIn wsX7_records wsX7_lays := goodIn_r _ [7] (by decide +kernel) (by decide +kernel)
set_option maxRecDepth 20000 in
theorem gX7_records_X7_lays : GoodIn wsX7_records (va_wsS RX7 48 yX7_lays wsX7_lays) := goodIn_app (goodIn_of _ (by decide +kernel)) ggX7_records_X7_lays
theorem dX7_records_0 : decode cX7_records 0 = .ok (.aload_n 0, 1) := by decide +kernel
theorem dX7_records_1 : decode cX7_records 1 = .ok (.getfield 44, 3) := by decide +kernel
theorem dX7_records_4 : decode cX7_records 4 = .ok (.bipush 6, 2) := by decide +kernel
theorem dX7_records_6 : decode cX7_records 6 = .ok (.if_icmp .ne 43, 3) := by decide +kernel
theorem dX7_records_9 : decode cX7_records 9 = .ok (.iconst 0, 1) := by decide +kernel
theorem dX7_records_10 : decode cX7_records 10 = .ok (.istore_n 1, 1) := by decide +kernel
theorem dX7_records_11 : decode cX7_records 11 = .ok (.iload_n 1, 1) := by decide +kernel
theorem dX7_records_12 : decode cX7_records 12 = .ok (.sipush 430, 3) := by decide +kernel
theorem dX7_records_15 : decode cX7_records 15 = .ok (.if_icmp .ge 24, 3) := by decide +kernel
theorem dX7_records_18 : decode cX7_records 18 = .ok (.aload_n 0, 1) := by decide +kernel
theorem dX7_records_19 : decode cX7_records 19 = .ok (.getfield 16, 3) := by decide +kernel
theorem dX7_records_22 : decode cX7_records 22 = .ok (.iload_n 1, 1) := by decide +kernel
theorem dX7_records_23 : decode cX7_records 23 = .ok (.aload_n 0, 1) := by decide +kernel
theorem dX7_records_24 : decode cX7_records 24 = .ok (.getfield 16, 3) := by decide +kernel
theorem dX7_records_27 : decode cX7_records 27 = .ok (.iload_n 1, 1) := by decide +kernel
theorem dX7_records_28 : decode cX7_records 28 = .ok (.bipush 86, 2) := by decide +kernel
theorem dX7_records_30 : decode cX7_records 30 = .ok (.iadd, 1) := by decide +kernel
theorem dX7_records_31 : decode cX7_records 31 = .ok (.laload, 1) := by decide +kernel
theorem dX7_records_32 : decode cX7_records 32 = .ok (.lastore, 1) := by decide +kernel
theorem dX7_records_33 : decode cX7_records 33 = .ok (.iinc 1 1, 3) := by decide +kernel
theorem dX7_records_36 : decode cX7_records 36 = .ok (.goto (-25), 3) := by decide +kernel
theorem dX7_records_39 : decode cX7_records 39 = .ok (.aload_n 0, 1) := by decide +kernel
theorem dX7_records_40 : decode cX7_records 40 = .ok (.dup, 1) := by decide +kernel
theorem dX7_records_41 : decode cX7_records 41 = .ok (.getfield 44, 3) := by decide +kernel
theorem dX7_records_44 : decode cX7_records 44 = .ok (.iconst 1, 1) := by decide +kernel
theorem dX7_records_45 : decode cX7_records 45 = .ok (.isub, 1) := by decide +kernel
theorem dX7_records_46 : decode cX7_records 46 = .ok (.putfield 44, 3) := by decide +kernel
theorem dX7_records_49 : decode cX7_records 49 = .ok (.aload_n 0, 1) := by decide +kernel
theorem dX7_records_50 : decode cX7_records 50 = .ok (.getfield 7, 3) := by decide +kernel
theorem dX7_records_53 : decode cX7_records 53 = .ok (.iconst 0, 1) := by decide +kernel
theorem dX7_records_54 : decode cX7_records 54 = .ok (.aload_n 0, 1) := by decide +kernel
theorem dX7_records_55 : decode cX7_records 55 = .ok (.getfield 16, 3) := by decide +kernel
theorem dX7_records_58 : decode cX7_records 58 = .ok (.bipush 86, 2) := by decide +kernel
theorem dX7_records_60 : decode cX7_records 60 = .ok (.aload_n 0, 1) := by decide +kernel
theorem dX7_records_61 : decode cX7_records 61 = .ok (.getfield 44, 3) := by decide +kernel
theorem dX7_records_64 : decode cX7_records 64 = .ok (.imul, 1) := by decide +kernel
theorem dX7_records_65 : decode cX7_records 65 = .ok (.invokestatic 48, 3) := by decide +kernel
theorem dX7_records_68 : decode cX7_records 68 = .ok (.aload_n 0, 1) := by decide +kernel
theorem dX7_records_69 : decode cX7_records 69 = .ok (.dup, 1) := by decide +kernel
theorem dX7_records_70 : decode cX7_records 70 = .ok (.getfield 44, 3) := by decide +kernel
theorem dX7_records_73 : decode cX7_records 73 = .ok (.iconst 1, 1) := by decide +kernel
theorem dX7_records_74 : decode cX7_records 74 = .ok (.iadd, 1) := by decide +kernel
theorem dX7_records_75 : decode cX7_records 75 = .ok (.putfield 44, 3) := by decide +kernel
theorem dX7_records_78 : decode cX7_records 78 = .ok (.return_, 1) := by decide +kernel
set_option maxRecDepth 20000 in
theorem ggX7_undo_X7_lays : GoodIn wsX7_undo wsX7_lays := goodIn_r _ [7] (by decide +kernel) (by decide +kernel)
set_option maxRecDepth 20000 in
theorem gX7_undo_X7_lays : GoodIn wsX7_undo (va_wsS RX7 48 yX7_lays wsX7_lays) := goodIn_app (goodIn_of _ (by decide +kernel)) ggX7_undo_X7_lays
theorem dX7_undo_0 : decode cX7_undo 0 = .ok (.aload_n 0, 1) := by decide +kernel
theorem dX7_undo_1 : decode cX7_undo 1 = .ok (.getfield 44, 3) := by decide +kernel
theorem dX7_undo_4 : decode cX7_undo 4 = .ok (.ifCond .ne 6, 3) := by decide +kernel
theorem dX7_undo_7 : decode cX7_undo 7 = .ok (.bipush (-5), 2) := by decide +kernel
theorem dX7_undo_9 : decode cX7_undo 9 = .ok (.ireturn, 1) := by decide +kernel
theorem dX7_undo_10 : decode cX7_undo 10 = .ok (.aload_n 0, 1) := by decide +kernel
theorem dX7_undo_11 : decode cX7_undo 11 = .ok (.dup, 1) := by decide +kernel
theorem dX7_undo_12 : decode cX7_undo 12 = .ok (.getfield 44, 3) := by decide +kernel
theorem dX7_undo_15 : decode cX7_undo 15 = .ok (.iconst 1, 1) := by decide +kernel
theorem dX7_undo_16 : decode cX7_undo 16 = .ok (.isub, 1) := by decide +kernel
theorem dX7_undo_17 : decode cX7_undo 17 = .ok (.putfield 44, 3) := by decide +kernel
theorem dX7_undo_20 : decode cX7_undo 20 = .ok (.aload_n 0, 1) := by decide +kernel
theorem dX7_undo_21 : decode cX7_undo 21 = .ok (.getfield 16, 3) := by decide +kernel
theorem dX7_undo_24 : decode cX7_undo 24 = .ok (.bipush 86, 2) := by decide +kernel
theorem dX7_undo_26 : decode cX7_undo 26 = .ok (.aload_n 0, 1) := by decide +kernel
theorem dX7_undo_27 : decode cX7_undo 27 = .ok (.getfield 44, 3) := by decide +kernel
theorem dX7_undo_30 : decode cX7_undo 30 = .ok (.imul, 1) := by decide +kernel
theorem dX7_undo_31 : decode cX7_undo 31 = .ok (.aload_n 0, 1) := by decide +kernel
theorem dX7_undo_32 : decode cX7_undo 32 = .ok (.getfield 7, 3) := by decide +kernel
theorem dX7_undo_35 : decode cX7_undo 35 = .ok (.iconst 0, 1) := by decide +kernel
theorem dX7_undo_36 : decode cX7_undo 36 = .ok (.invokestatic 48, 3) := by decide +kernel
theorem dX7_undo_39 : decode cX7_undo 39 = .ok (.aload_n 0, 1) := by decide +kernel
theorem dX7_undo_40 : decode cX7_undo 40 = .ok (.getfield 44, 3) := by decide +kernel
theorem dX7_undo_43 : decode cX7_undo 43 = .ok (.ireturn, 1) := by decide +kernel
set_option maxRecDepth 20000 in
theorem ggX7_save_X7_in : GoodIn wsX7_save wsX7_in := goodIn_r _ [7] (by decide +kernel) (by decide +kernel)
set_option maxRecDepth 20000 in
theorem gX7_save_X7_in : GoodIn wsX7_save (va_wsS RX7 40 yX7_in wsX7_in) := goodIn_app (goodIn_of _ (by decide +kernel)) ggX7_save_X7_in
set_option maxRecDepth 20000 in
theorem ggX7_save_X7_lays : GoodIn wsX7_save wsX7_lays := goodIn_r _ [10] (by decide +kernel) (by decide +kernel)
set_option maxRecDepth 20000 in
theorem gX7_save_X7_lays : GoodIn wsX7_save (va_wsS RX7 48 yX7_lays wsX7_lays) := goodIn_app (goodIn_of _ (by decide +kernel)) ggX7_save_X7_lays
theorem dX7_save_0 : decode cX7_save 0 = .ok (.iload_n 1, 1) := by decide +kernel
theorem dX7_save_1 : decode cX7_save 1 = .ok (.iconst 0, 1) := by decide +kernel
theorem dX7_save_2 : decode cX7_save 2 = .ok (.iconst 1, 1) := by decide +kernel
theorem dX7_save_3 : decode cX7_save 3 = .ok (.invokestatic 40, 3) := by decide +kernel
theorem dX7_save_6 : decode cX7_save 6 = .ok (.ifCond .ne 6, 3) := by decide +kernel
theorem dX7_save_9 : decode cX7_save 9 = .ok (.bipush (-2), 2) := by decide +kernel
theorem dX7_save_11 : decode cX7_save 11 = .ok (.ireturn, 1) := by decide +kernel
theorem dX7_save_12 : decode cX7_save 12 = .ok (.aload_n 0, 1) := by decide +kernel
theorem dX7_save_13 : decode cX7_save 13 = .ok (.getfield 7, 3) := by decide +kernel
theorem dX7_save_16 : decode cX7_save 16 = .ok (.iconst 0, 1) := by decide +kernel
theorem dX7_save_17 : decode cX7_save 17 = .ok (.aload_n 0, 1) := by decide +kernel
theorem dX7_save_18 : decode cX7_save 18 = .ok (.getfield 19, 3) := by decide +kernel
theorem dX7_save_21 : decode cX7_save 21 = .ok (.bipush 86, 2) := by decide +kernel
theorem dX7_save_23 : decode cX7_save 23 = .ok (.iload_n 1, 1) := by decide +kernel
theorem dX7_save_24 : decode cX7_save 24 = .ok (.imul, 1) := by decide +kernel
theorem dX7_save_25 : decode cX7_save 25 = .ok (.invokestatic 48, 3) := by decide +kernel
theorem dX7_save_28 : decode cX7_save 28 = .ok (.aload_n 0, 1) := by decide +kernel
theorem dX7_save_29 : decode cX7_save 29 = .ok (.getfield 22, 3) := by decide +kernel
theorem dX7_save_32 : decode cX7_save 32 = .ok (.iload_n 1, 1) := by decide +kernel
theorem dX7_save_33 : decode cX7_save 33 = .ok (.iconst 1, 1) := by decide +kernel
theorem dX7_save_34 : decode cX7_save 34 = .ok (.bastore, 1) := by decide +kernel
theorem dX7_save_35 : decode cX7_save 35 = .ok (.aload_n 0, 1) := by decide +kernel
theorem dX7_save_36 : decode cX7_save 36 = .ok (.getfield 7, 3) := by decide +kernel
theorem dX7_save_39 : decode cX7_save 39 = .ok (.iconst 0, 1) := by decide +kernel
theorem dX7_save_40 : decode cX7_save 40 = .ok (.laload, 1) := by decide +kernel
theorem dX7_save_41 : decode cX7_save 41 = .ok (.l2i, 1) := by decide +kernel
theorem dX7_save_42 : decode cX7_save 42 = .ok (.ireturn, 1) := by decide +kernel
set_option maxRecDepth 20000 in
theorem ggX7_restore_X7_in : GoodIn wsX7_restore wsX7_in := goodIn_r _ [7] (by decide +kernel) (by decide +kernel)
set_option maxRecDepth 20000 in
theorem gX7_restore_X7_in : GoodIn wsX7_restore (va_wsS RX7 40 yX7_in wsX7_in) := goodIn_app (goodIn_of _ (by decide +kernel)) ggX7_restore_X7_in
set_option maxRecDepth 20000 in
theorem ggX7_restore_X7_records : GoodIn wsX7_restore wsX7_records := goodIn_r _ [11, 12, 13, 3, 14, 15, 6, 16, 17, 18, 19, 20, 21, 22, 23, 24, 25, 26, 27] (by decide +kernel) (by decide +kernel)
set_option maxRecDepth 20000 in
theorem gX7_restore_X7_records : GoodIn wsX7_restore (wsV RX7 52 RX7 yX7_records wsX7_records) := goodIn_app (goodIn_of _ (by decide +kernel)) ggX7_restore_X7_records
set_option maxRecDepth 20000 in
theorem ggX7_restore_X7_lays : GoodIn wsX7_restore wsX7_lays := goodIn_r _ [16] (by decide +kernel) (by decide +kernel)
set_option maxRecDepth 20000 in
theorem gX7_restore_X7_lays : GoodIn wsX7_restore (va_wsS RX7 48 yX7_lays wsX7_lays) := goodIn_app (goodIn_of _ (by decide +kernel)) ggX7_restore_X7_lays
theorem dX7_restore_0 : decode cX7_restore 0 = .ok (.iload_n 1, 1) := by decide +kernel
theorem dX7_restore_1 : decode cX7_restore 1 = .ok (.iconst 0, 1) := by decide +kernel
theorem dX7_restore_2 : decode cX7_restore 2 = .ok (.iconst 1, 1) := by decide +kernel
theorem dX7_restore_3 : decode cX7_restore 3 = .ok (.invokestatic 40, 3) := by decide +kernel
theorem dX7_restore_6 : decode cX7_restore 6 = .ok (.ifCond .ne 6, 3) := by decide +kernel
theorem dX7_restore_9 : decode cX7_restore 9 = .ok (.bipush (-2), 2) := by decide +kernel
theorem dX7_restore_11 : decode cX7_restore 11 = .ok (.ireturn, 1) := by decide +kernel
theorem dX7_restore_12 : decode cX7_restore 12 = .ok (.aload_n 0, 1) := by decide +kernel
theorem dX7_restore_13 : decode cX7_restore 13 = .ok (.getfield 22, 3) := by decide +kernel
theorem dX7_restore_16 : decode cX7_restore 16 = .ok (.iload_n 1, 1) := by decide +kernel
theorem dX7_restore_17 : decode cX7_restore 17 = .ok (.baload, 1) := by decide +kernel
theorem dX7_restore_18 : decode cX7_restore 18 = .ok (.ifCond .ne 6, 3) := by decide +kernel
theorem dX7_restore_21 : decode cX7_restore 21 = .ok (.bipush (-5), 2) := by decide +kernel
theorem dX7_restore_23 : decode cX7_restore 23 = .ok (.ireturn, 1) := by decide +kernel
theorem dX7_restore_24 : decode cX7_restore 24 = .ok (.aload_n 0, 1) := by decide +kernel
theorem dX7_restore_25 : decode cX7_restore 25 = .ok (.invokevirtual 52, 3) := by decide +kernel
theorem dX7_restore_28 : decode cX7_restore 28 = .ok (.aload_n 0, 1) := by decide +kernel
theorem dX7_restore_29 : decode cX7_restore 29 = .ok (.getfield 19, 3) := by decide +kernel
theorem dX7_restore_32 : decode cX7_restore 32 = .ok (.bipush 86, 2) := by decide +kernel
theorem dX7_restore_34 : decode cX7_restore 34 = .ok (.iload_n 1, 1) := by decide +kernel
theorem dX7_restore_35 : decode cX7_restore 35 = .ok (.imul, 1) := by decide +kernel
theorem dX7_restore_36 : decode cX7_restore 36 = .ok (.aload_n 0, 1) := by decide +kernel
theorem dX7_restore_37 : decode cX7_restore 37 = .ok (.getfield 7, 3) := by decide +kernel
theorem dX7_restore_40 : decode cX7_restore 40 = .ok (.iconst 0, 1) := by decide +kernel
theorem dX7_restore_41 : decode cX7_restore 41 = .ok (.invokestatic 48, 3) := by decide +kernel
theorem dX7_restore_44 : decode cX7_restore 44 = .ok (.aload_n 0, 1) := by decide +kernel
theorem dX7_restore_45 : decode cX7_restore 45 = .ok (.getfield 7, 3) := by decide +kernel
theorem dX7_restore_48 : decode cX7_restore 48 = .ok (.iconst 0, 1) := by decide +kernel
theorem dX7_restore_49 : decode cX7_restore 49 = .ok (.laload, 1) := by decide +kernel
theorem dX7_restore_50 : decode cX7_restore 50 = .ok (.l2i, 1) := by decide +kernel
theorem dX7_restore_51 : decode cX7_restore 51 = .ok (.ireturn, 1) := by decide +kernel
set_option maxRecDepth 20000 in
theorem ggX7_sum_X7_of : GoodIn wsX7_sum wsX7_of := goodIn_r _ [4] (by decide +kernel) (by decide +kernel)
set_option maxRecDepth 20000 in
theorem gX7_sum_X7_of : GoodIn wsX7_sum (va_wsS RX7 55 yX7_of wsX7_of) := goodIn_app (goodIn_of _ (by decide +kernel)) ggX7_sum_X7_of
theorem dX7_sum_0 : decode cX7_sum 0 = .ok (.iconst 0, 1) := by decide +kernel
theorem dX7_sum_1 : decode cX7_sum 1 = .ok (.istore_n 3, 1) := by decide +kernel
theorem dX7_sum_2 : decode cX7_sum 2 = .ok (.iconst 0, 1) := by decide +kernel
theorem dX7_sum_3 : decode cX7_sum 3 = .ok (.istore 4, 2) := by decide +kernel
theorem dX7_sum_5 : decode cX7_sum 5 = .ok (.iload 4, 2) := by decide +kernel
theorem dX7_sum_7 : decode cX7_sum 7 = .ok (.i2l, 1) := by decide +kernel
theorem dX7_sum_8 : decode cX7_sum 8 = .ok (.aload_n 0, 1) := by decide +kernel
theorem dX7_sum_9 : decode cX7_sum 9 = .ok (.iconst 0, 1) := by decide +kernel
theorem dX7_sum_10 : decode cX7_sum 10 = .ok (.laload, 1) := by decide +kernel
theorem dX7_sum_11 : decode cX7_sum 11 = .ok (.lcmp, 1) := by decide +kernel
theorem dX7_sum_12 : decode cX7_sum 12 = .ok (.ifCond .ge 33, 3) := by decide +kernel
theorem dX7_sum_15 : decode cX7_sum 15 = .ok (.iload_n 3, 1) := by decide +kernel
theorem dX7_sum_16 : decode cX7_sum 16 = .ok (.iload_n 1, 1) := by decide +kernel
theorem dX7_sum_17 : decode cX7_sum 17 = .ok (.iload 4, 2) := by decide +kernel
theorem dX7_sum_19 : decode cX7_sum 19 = .ok (.ishr, 1) := by decide +kernel
theorem dX7_sum_20 : decode cX7_sum 20 = .ok (.iconst 1, 1) := by decide +kernel
theorem dX7_sum_21 : decode cX7_sum 21 = .ok (.iand, 1) := by decide +kernel
theorem dX7_sum_22 : decode cX7_sum 22 = .ok (.iconst 1, 1) := by decide +kernel
theorem dX7_sum_23 : decode cX7_sum 23 = .ok (.if_icmp .ne 13, 3) := by decide +kernel
theorem dX7_sum_26 : decode cX7_sum 26 = .ok (.aload_n 0, 1) := by decide +kernel
theorem dX7_sum_27 : decode cX7_sum 27 = .ok (.iload 4, 2) := by decide +kernel
theorem dX7_sum_29 : decode cX7_sum 29 = .ok (.iload_n 2, 1) := by decide +kernel
theorem dX7_sum_30 : decode cX7_sum 30 = .ok (.invokestatic 55, 3) := by decide +kernel
theorem dX7_sum_33 : decode cX7_sum 33 = .ok (.goto 4, 3) := by decide +kernel
theorem dX7_sum_36 : decode cX7_sum 36 = .ok (.iconst 0, 1) := by decide +kernel
theorem dX7_sum_37 : decode cX7_sum 37 = .ok (.iadd, 1) := by decide +kernel
theorem dX7_sum_38 : decode cX7_sum 38 = .ok (.istore_n 3, 1) := by decide +kernel
theorem dX7_sum_39 : decode cX7_sum 39 = .ok (.iinc 4 1, 3) := by decide +kernel
theorem dX7_sum_42 : decode cX7_sum 42 = .ok (.goto (-37), 3) := by decide +kernel
theorem dX7_sum_45 : decode cX7_sum 45 = .ok (.iload_n 3, 1) := by decide +kernel
theorem dX7_sum_46 : decode cX7_sum 46 = .ok (.ireturn, 1) := by decide +kernel
set_option maxRecDepth 20000 in
theorem ggX7_fits_X7_sum : GoodIn wsX7_fits wsX7_sum := goodIn_r _ [4, 5, 6, 3, 7] (by decide +kernel) (by decide +kernel)
set_option maxRecDepth 20000 in
theorem gX7_fits_X7_sum : GoodIn wsX7_fits (va_wsS RX7 59 yX7_sum wsX7_sum) := goodIn_app (goodIn_of _ (by decide +kernel)) ggX7_fits_X7_sum
theorem dX7_fits_0 : decode cX7_fits 0 = .ok (.iconst 1, 1) := by decide +kernel
theorem dX7_fits_1 : decode cX7_fits 1 = .ok (.istore_n 2, 1) := by decide +kernel
theorem dX7_fits_2 : decode cX7_fits 2 = .ok (.iconst 0, 1) := by decide +kernel
theorem dX7_fits_3 : decode cX7_fits 3 = .ok (.istore_n 3, 1) := by decide +kernel
theorem dX7_fits_4 : decode cX7_fits 4 = .ok (.iload_n 3, 1) := by decide +kernel
theorem dX7_fits_5 : decode cX7_fits 5 = .ok (.iconst 3, 1) := by decide +kernel
theorem dX7_fits_6 : decode cX7_fits 6 = .ok (.if_icmp .ge 38, 3) := by decide +kernel
theorem dX7_fits_9 : decode cX7_fits 9 = .ok (.iload_n 2, 1) := by decide +kernel
theorem dX7_fits_10 : decode cX7_fits 10 = .ok (.ifCond .eq 26, 3) := by decide +kernel
theorem dX7_fits_13 : decode cX7_fits 13 = .ok (.aload_n 0, 1) := by decide +kernel
theorem dX7_fits_14 : decode cX7_fits 14 = .ok (.iload_n 1, 1) := by decide +kernel
theorem dX7_fits_15 : decode cX7_fits 15 = .ok (.iconst 1, 1) := by decide +kernel
theorem dX7_fits_16 : decode cX7_fits 16 = .ok (.iload_n 3, 1) := by decide +kernel
theorem dX7_fits_17 : decode cX7_fits 17 = .ok (.iadd, 1) := by decide +kernel
theorem dX7_fits_18 : decode cX7_fits 18 = .ok (.invokestatic 59, 3) := by decide +kernel
theorem dX7_fits_21 : decode cX7_fits 21 = .ok (.i2l, 1) := by decide +kernel
theorem dX7_fits_22 : decode cX7_fits 22 = .ok (.aload_n 0, 1) := by decide +kernel
theorem dX7_fits_23 : decode cX7_fits 23 = .ok (.bipush 65, 2) := by decide +kernel
theorem dX7_fits_25 : decode cX7_fits 25 = .ok (.iload_n 3, 1) := by decide +kernel
theorem dX7_fits_26 : decode cX7_fits 26 = .ok (.iadd, 1) := by decide +kernel
theorem dX7_fits_27 : decode cX7_fits 27 = .ok (.laload, 1) := by decide +kernel
theorem dX7_fits_28 : decode cX7_fits 28 = .ok (.lcmp, 1) := by decide +kernel
theorem dX7_fits_29 : decode cX7_fits 29 = .ok (.ifCond .gt 7, 3) := by decide +kernel
theorem dX7_fits_32 : decode cX7_fits 32 = .ok (.iconst 1, 1) := by decide +kernel
theorem dX7_fits_33 : decode cX7_fits 33 = .ok (.goto 4, 3) := by decide +kernel
theorem dX7_fits_36 : decode cX7_fits 36 = .ok (.iconst 0, 1) := by decide +kernel
theorem dX7_fits_37 : decode cX7_fits 37 = .ok (.istore_n 2, 1) := by decide +kernel
theorem dX7_fits_38 : decode cX7_fits 38 = .ok (.iinc 3 1, 3) := by decide +kernel
theorem dX7_fits_41 : decode cX7_fits 41 = .ok (.goto (-37), 3) := by decide +kernel
theorem dX7_fits_44 : decode cX7_fits 44 = .ok (.iload_n 2, 1) := by decide +kernel
theorem dX7_fits_45 : decode cX7_fits 45 = .ok (.ireturn, 1) := by decide +kernel
set_option maxRecDepth 20000 in
theorem ggX7_size_X7_of : GoodIn wsX7_size wsX7_of := goodIn_r _ [4] (by decide +kernel) (by decide +kernel)
set_option maxRecDepth 20000 in
theorem gX7_size_X7_of : GoodIn wsX7_size (va_wsS RX7 55 yX7_of wsX7_of) := goodIn_app (goodIn_of _ (by decide +kernel)) ggX7_size_X7_of
theorem dX7_size_0 : decode cX7_size 0 = .ok (.aload_n 0, 1) := by decide +kernel
theorem dX7_size_1 : decode cX7_size 1 = .ok (.iload_n 1, 1) := by decide +kernel
theorem dX7_size_2 : decode cX7_size 2 = .ok (.iconst 1, 1) := by decide +kernel
theorem dX7_size_3 : decode cX7_size 3 = .ok (.invokestatic 55, 3) := by decide +kernel
theorem dX7_size_6 : decode cX7_size 6 = .ok (.aload_n 0, 1) := by decide +kernel
theorem dX7_size_7 : decode cX7_size 7 = .ok (.iload_n 1, 1) := by decide +kernel
theorem dX7_size_8 : decode cX7_size 8 = .ok (.iconst 2, 1) := by decide +kernel
theorem dX7_size_9 : decode cX7_size 9 = .ok (.invokestatic 55, 3) := by decide +kernel
theorem dX7_size_12 : decode cX7_size 12 = .ok (.iadd, 1) := by decide +kernel
theorem dX7_size_13 : decode cX7_size 13 = .ok (.aload_n 0, 1) := by decide +kernel
theorem dX7_size_14 : decode cX7_size 14 = .ok (.iload_n 1, 1) := by decide +kernel
theorem dX7_size_15 : decode cX7_size 15 = .ok (.iconst 3, 1) := by decide +kernel
theorem dX7_size_16 : decode cX7_size 16 = .ok (.invokestatic 55, 3) := by decide +kernel
theorem dX7_size_19 : decode cX7_size 19 = .ok (.iadd, 1) := by decide +kernel
theorem dX7_size_20 : decode cX7_size 20 = .ok (.ireturn, 1) := by decide +kernel
set_option maxRecDepth 20000 in
theorem ggX7_first_X7_size : GoodIn wsX7_first wsX7_size := goodIn_r _ [4, 5, 6, 3, 7] (by decide +kernel) (by decide +kernel)
set_option maxRecDepth 20000 in
theorem gX7_first_X7_size : GoodIn wsX7_first (va_wsS RX7 62 yX7_size wsX7_size) := goodIn_app (goodIn_of _ (by decide +kernel)) ggX7_first_X7_size
set_option maxRecDepth 20000 in
theorem ggX7_first_X7_of : GoodIn wsX7_first wsX7_of := goodIn_r _ [7] (by decide +kernel) (by decide +kernel)
set_option maxRecDepth 20000 in
theorem gX7_first_X7_of : GoodIn wsX7_first (va_wsS RX7 55 yX7_of wsX7_of) := goodIn_app (goodIn_of _ (by decide +kernel)) ggX7_first_X7_of
theorem dX7_first_0 : decode cX7_first 0 = .ok (.bipush (-6), 2) := by decide +kernel
theorem dX7_first_2 : decode cX7_first 2 = .ok (.istore_n 2, 1) := by decide +kernel
theorem dX7_first_3 : decode cX7_first 3 = .ok (.iconst 0, 1) := by decide +kernel
theorem dX7_first_4 : decode cX7_first 4 = .ok (.istore_n 3, 1) := by decide +kernel
theorem dX7_first_5 : decode cX7_first 5 = .ok (.iload_n 3, 1) := by decide +kernel
theorem dX7_first_6 : decode cX7_first 6 = .ok (.i2l, 1) := by decide +kernel
theorem dX7_first_7 : decode cX7_first 7 = .ok (.aload_n 0, 1) := by decide +kernel
theorem dX7_first_8 : decode cX7_first 8 = .ok (.iconst 0, 1) := by decide +kernel
theorem dX7_first_9 : decode cX7_first 9 = .ok (.laload, 1) := by decide +kernel
theorem dX7_first_10 : decode cX7_first 10 = .ok (.lcmp, 1) := by decide +kernel
theorem dX7_first_11 : decode cX7_first 11 = .ok (.ifCond .ge 65, 3) := by decide +kernel
theorem dX7_first_14 : decode cX7_first 14 = .ok (.iload_n 1, 1) := by decide +kernel
theorem dX7_first_15 : decode cX7_first 15 = .ok (.iload_n 3, 1) := by decide +kernel
theorem dX7_first_16 : decode cX7_first 16 = .ok (.ishr, 1) := by decide +kernel
theorem dX7_first_17 : decode cX7_first 17 = .ok (.iconst 1, 1) := by decide +kernel
theorem dX7_first_18 : decode cX7_first 18 = .ok (.iand, 1) := by decide +kernel
theorem dX7_first_19 : decode cX7_first 19 = .ok (.iconst 1, 1) := by decide +kernel
theorem dX7_first_20 : decode cX7_first 20 = .ok (.if_icmp .ne 50, 3) := by decide +kernel
theorem dX7_first_23 : decode cX7_first 23 = .ok (.aload_n 0, 1) := by decide +kernel
theorem dX7_first_24 : decode cX7_first 24 = .ok (.iload_n 3, 1) := by decide +kernel
theorem dX7_first_25 : decode cX7_first 25 = .ok (.invokestatic 62, 3) := by decide +kernel
theorem dX7_first_28 : decode cX7_first 28 = .ok (.ifCond .le 42, 3) := by decide +kernel
theorem dX7_first_31 : decode cX7_first 31 = .ok (.iload_n 2, 1) := by decide +kernel
theorem dX7_first_32 : decode cX7_first 32 = .ok (.bipush (-6), 2) := by decide +kernel
theorem dX7_first_34 : decode cX7_first 34 = .ok (.if_icmp .eq 30, 3) := by decide +kernel
theorem dX7_first_37 : decode cX7_first 37 = .ok (.aload_n 0, 1) := by decide +kernel
theorem dX7_first_38 : decode cX7_first 38 = .ok (.iload_n 3, 1) := by decide +kernel
theorem dX7_first_39 : decode cX7_first 39 = .ok (.iconst 0, 1) := by decide +kernel
theorem dX7_first_40 : decode cX7_first 40 = .ok (.invokestatic 55, 3) := by decide +kernel
theorem dX7_first_43 : decode cX7_first 43 = .ok (.aload_n 0, 1) := by decide +kernel
theorem dX7_first_44 : decode cX7_first 44 = .ok (.iload_n 2, 1) := by decide +kernel
theorem dX7_first_45 : decode cX7_first 45 = .ok (.invokestatic 62, 3) := by decide +kernel
theorem dX7_first_48 : decode cX7_first 48 = .ok (.imul, 1) := by decide +kernel
theorem dX7_first_49 : decode cX7_first 49 = .ok (.aload_n 0, 1) := by decide +kernel
theorem dX7_first_50 : decode cX7_first 50 = .ok (.iload_n 2, 1) := by decide +kernel
theorem dX7_first_51 : decode cX7_first 51 = .ok (.iconst 0, 1) := by decide +kernel
theorem dX7_first_52 : decode cX7_first 52 = .ok (.invokestatic 55, 3) := by decide +kernel
theorem dX7_first_55 : decode cX7_first 55 = .ok (.aload_n 0, 1) := by decide +kernel
theorem dX7_first_56 : decode cX7_first 56 = .ok (.iload_n 3, 1) := by decide +kernel
theorem dX7_first_57 : decode cX7_first 57 = .ok (.invokestatic 62, 3) := by decide +kernel
theorem dX7_first_60 : decode cX7_first 60 = .ok (.imul, 1) := by decide +kernel
theorem dX7_first_61 : decode cX7_first 61 = .ok (.if_icmp .ge 7, 3) := by decide +kernel
theorem dX7_first_64 : decode cX7_first 64 = .ok (.iload_n 3, 1) := by decide +kernel
theorem dX7_first_65 : decode cX7_first 65 = .ok (.goto 4, 3) := by decide +kernel
theorem dX7_first_68 : decode cX7_first 68 = .ok (.iload_n 2, 1) := by decide +kernel
theorem dX7_first_69 : decode cX7_first 69 = .ok (.istore_n 2, 1) := by decide +kernel
theorem dX7_first_70 : decode cX7_first 70 = .ok (.iinc 3 1, 3) := by decide +kernel
theorem dX7_first_73 : decode cX7_first 73 = .ok (.goto (-68), 3) := by decide +kernel
theorem dX7_first_76 : decode cX7_first 76 = .ok (.iload_n 2, 1) := by decide +kernel
theorem dX7_first_77 : decode cX7_first 77 = .ok (.ireturn, 1) := by decide +kernel
set_option maxRecDepth 20000 in
theorem ggX7_repairs_X7_fits : GoodIn wsX7_repairs wsX7_fits := goodIn_r _ [4, 5, 6, 3, 7, 8, 9, 10] (by decide +kernel) (by decide +kernel)
set_option maxRecDepth 20000 in
theorem gX7_repairs_X7_fits : GoodIn wsX7_repairs (va_wsS RX7 66 yX7_fits wsX7_fits) := goodIn_app (goodIn_of _ (by decide +kernel)) ggX7_repairs_X7_fits
set_option maxRecDepth 20000 in
theorem ggX7_repairs_X7_first : GoodIn wsX7_repairs wsX7_first := goodIn_r _ [13, 14, 15, 3, 16, 8, 9, 10] (by decide +kernel) (by decide +kernel)
set_option maxRecDepth 20000 in
theorem gX7_repairs_X7_first : GoodIn wsX7_repairs (va_wsS RX7 70 yX7_first wsX7_first) := goodIn_app (goodIn_of _ (by decide +kernel)) ggX7_repairs_X7_first
theorem dX7_repairs_0 : decode cX7_repairs 0 = .ok (.iload_n 1, 1) := by decide +kernel
theorem dX7_repairs_1 : decode cX7_repairs 1 = .ok (.istore_n 2, 1) := by decide +kernel
theorem dX7_repairs_2 : decode cX7_repairs 2 = .ok (.aload_n 0, 1) := by decide +kernel
theorem dX7_repairs_3 : decode cX7_repairs 3 = .ok (.iload_n 2, 1) := by decide +kernel
theorem dX7_repairs_4 : decode cX7_repairs 4 = .ok (.invokestatic 66, 3) := by decide +kernel
theorem dX7_repairs_7 : decode cX7_repairs 7 = .ok (.ifCond .ne 18, 3) := by decide +kernel
theorem dX7_repairs_10 : decode cX7_repairs 10 = .ok (.iload_n 2, 1) := by decide +kernel
theorem dX7_repairs_11 : decode cX7_repairs 11 = .ok (.iconst 1, 1) := by decide +kernel
theorem dX7_repairs_12 : decode cX7_repairs 12 = .ok (.aload_n 0, 1) := by decide +kernel
theorem dX7_repairs_13 : decode cX7_repairs 13 = .ok (.iload_n 2, 1) := by decide +kernel
theorem dX7_repairs_14 : decode cX7_repairs 14 = .ok (.invokestatic 70, 3) := by decide +kernel
theorem dX7_repairs_17 : decode cX7_repairs 17 = .ok (.ishl, 1) := by decide +kernel
theorem dX7_repairs_18 : decode cX7_repairs 18 = .ok (.iconst (-1), 1) := by decide +kernel
theorem dX7_repairs_19 : decode cX7_repairs 19 = .ok (.ixor, 1) := by decide +kernel
theorem dX7_repairs_20 : decode cX7_repairs 20 = .ok (.iand, 1) := by decide +kernel
theorem dX7_repairs_21 : decode cX7_repairs 21 = .ok (.istore_n 2, 1) := by decide +kernel
theorem dX7_repairs_22 : decode cX7_repairs 22 = .ok (.goto (-20), 3) := by decide +kernel
theorem dX7_repairs_25 : decode cX7_repairs 25 = .ok (.iconst 0, 1) := by decide +kernel
theorem dX7_repairs_26 : decode cX7_repairs 26 = .ok (.istore_n 3, 1) := by decide +kernel
theorem dX7_repairs_27 : decode cX7_repairs 27 = .ok (.iload_n 3, 1) := by decide +kernel
theorem dX7_repairs_28 : decode cX7_repairs 28 = .ok (.i2l, 1) := by decide +kernel
theorem dX7_repairs_29 : decode cX7_repairs 29 = .ok (.aload_n 0, 1) := by decide +kernel
theorem dX7_repairs_30 : decode cX7_repairs 30 = .ok (.iconst 0, 1) := by decide +kernel
theorem dX7_repairs_31 : decode cX7_repairs 31 = .ok (.laload, 1) := by decide +kernel
theorem dX7_repairs_32 : decode cX7_repairs 32 = .ok (.lcmp, 1) := by decide +kernel
theorem dX7_repairs_33 : decode cX7_repairs 33 = .ok (.ifCond .ge 31, 3) := by decide +kernel
theorem dX7_repairs_36 : decode cX7_repairs 36 = .ok (.iload_n 2, 1) := by decide +kernel
theorem dX7_repairs_37 : decode cX7_repairs 37 = .ok (.aload_n 0, 1) := by decide +kernel
theorem dX7_repairs_38 : decode cX7_repairs 38 = .ok (.iload_n 2, 1) := by decide +kernel
theorem dX7_repairs_39 : decode cX7_repairs 39 = .ok (.iconst 1, 1) := by decide +kernel
theorem dX7_repairs_40 : decode cX7_repairs 40 = .ok (.iload_n 3, 1) := by decide +kernel
theorem dX7_repairs_41 : decode cX7_repairs 41 = .ok (.ishl, 1) := by decide +kernel
theorem dX7_repairs_42 : decode cX7_repairs 42 = .ok (.ior, 1) := by decide +kernel
theorem dX7_repairs_43 : decode cX7_repairs 43 = .ok (.invokestatic 66, 3) := by decide +kernel
theorem dX7_repairs_46 : decode cX7_repairs 46 = .ok (.ifCond .eq 9, 3) := by decide +kernel
theorem dX7_repairs_49 : decode cX7_repairs 49 = .ok (.iconst 1, 1) := by decide +kernel
theorem dX7_repairs_50 : decode cX7_repairs 50 = .ok (.iload_n 3, 1) := by decide +kernel
theorem dX7_repairs_51 : decode cX7_repairs 51 = .ok (.ishl, 1) := by decide +kernel
theorem dX7_repairs_52 : decode cX7_repairs 52 = .ok (.goto 4, 3) := by decide +kernel
theorem dX7_repairs_55 : decode cX7_repairs 55 = .ok (.iconst 0, 1) := by decide +kernel
theorem dX7_repairs_56 : decode cX7_repairs 56 = .ok (.ior, 1) := by decide +kernel
theorem dX7_repairs_57 : decode cX7_repairs 57 = .ok (.istore_n 2, 1) := by decide +kernel
theorem dX7_repairs_58 : decode cX7_repairs 58 = .ok (.iinc 3 1, 3) := by decide +kernel
theorem dX7_repairs_61 : decode cX7_repairs 61 = .ok (.goto (-34), 3) := by decide +kernel
theorem dX7_repairs_64 : decode cX7_repairs 64 = .ok (.iload_n 2, 1) := by decide +kernel
theorem dX7_repairs_65 : decode cX7_repairs 65 = .ok (.ireturn, 1) := by decide +kernel
set_option maxRecDepth 20000 in
theorem ggX7_price_X7_of : GoodIn wsX7_price wsX7_of := goodIn_r _ [5] (by decide +kernel) (by decide +kernel)
set_option maxRecDepth 20000 in
theorem gX7_price_X7_of : GoodIn wsX7_price (va_wsS RX7 55 yX7_of wsX7_of) := goodIn_app (goodIn_of _ (by decide +kernel)) ggX7_price_X7_of
theorem dX7_price_0 : decode cX7_price 0 = .ok (.ldc2_w 35, 3) := by decide +kernel
theorem dX7_price_3 : decode cX7_price 3 = .ok (.aload_n 0, 1) := by decide +kernel
theorem dX7_price_4 : decode cX7_price 4 = .ok (.iload_n 1, 1) := by decide +kernel
theorem dX7_price_5 : decode cX7_price 5 = .ok (.iconst 0, 1) := by decide +kernel
theorem dX7_price_6 : decode cX7_price 6 = .ok (.invokestatic 55, 3) := by decide +kernel
theorem dX7_price_9 : decode cX7_price 9 = .ok (.i2l, 1) := by decide +kernel
theorem dX7_price_10 : decode cX7_price 10 = .ok (.lmul, 1) := by decide +kernel
theorem dX7_price_11 : decode cX7_price 11 = .ok (.lstore_n 2, 1) := by decide +kernel
theorem dX7_price_12 : decode cX7_price 12 = .ok (.iconst 0, 1) := by decide +kernel
theorem dX7_price_13 : decode cX7_price 13 = .ok (.istore 4, 2) := by decide +kernel
theorem dX7_price_15 : decode cX7_price 15 = .ok (.iload 4, 2) := by decide +kernel
theorem dX7_price_17 : decode cX7_price 17 = .ok (.iconst 3, 1) := by decide +kernel
theorem dX7_price_18 : decode cX7_price 18 = .ok (.if_icmp .ge 30, 3) := by decide +kernel
theorem dX7_price_21 : decode cX7_price 21 = .ok (.lload_n 2, 1) := by decide +kernel
theorem dX7_price_22 : decode cX7_price 22 = .ok (.aload_n 0, 1) := by decide +kernel
theorem dX7_price_23 : decode cX7_price 23 = .ok (.bipush 68, 2) := by decide +kernel
theorem dX7_price_25 : decode cX7_price 25 = .ok (.iload 4, 2) := by decide +kernel
theorem dX7_price_27 : decode cX7_price 27 = .ok (.iadd, 1) := by decide +kernel
theorem dX7_price_28 : decode cX7_price 28 = .ok (.laload, 1) := by decide +kernel
theorem dX7_price_29 : decode cX7_price 29 = .ok (.aload_n 0, 1) := by decide +kernel
theorem dX7_price_30 : decode cX7_price 30 = .ok (.iload_n 1, 1) := by decide +kernel
theorem dX7_price_31 : decode cX7_price 31 = .ok (.iconst 1, 1) := by decide +kernel
theorem dX7_price_32 : decode cX7_price 32 = .ok (.iload 4, 2) := by decide +kernel
theorem dX7_price_34 : decode cX7_price 34 = .ok (.iadd, 1) := by decide +kernel
theorem dX7_price_35 : decode cX7_price 35 = .ok (.invokestatic 55, 3) := by decide +kernel
theorem dX7_price_38 : decode cX7_price 38 = .ok (.i2l, 1) := by decide +kernel
theorem dX7_price_39 : decode cX7_price 39 = .ok (.lmul, 1) := by decide +kernel
theorem dX7_price_40 : decode cX7_price 40 = .ok (.lsub, 1) := by decide +kernel
theorem dX7_price_41 : decode cX7_price 41 = .ok (.lstore_n 2, 1) := by decide +kernel
theorem dX7_price_42 : decode cX7_price 42 = .ok (.iinc 4 1, 3) := by decide +kernel
theorem dX7_price_45 : decode cX7_price 45 = .ok (.goto (-30), 3) := by decide +kernel
theorem dX7_price_48 : decode cX7_price 48 = .ok (.lload_n 2, 1) := by decide +kernel
theorem dX7_price_49 : decode cX7_price 49 = .ok (.lreturn, 1) := by decide +kernel
set_option maxRecDepth 20000 in
theorem ggX7_relaxed_X7_price : GoodIn wsX7_relaxed wsX7_price := goodIn_r _ [4, 5, 6, 7, 3, 8] (by decide +kernel) (by decide +kernel)
set_option maxRecDepth 20000 in
theorem gX7_relaxed_X7_price : GoodIn wsX7_relaxed (va_wsS RX7 73 yX7_price wsX7_price) := goodIn_app (goodIn_of _ (by decide +kernel)) ggX7_relaxed_X7_price
theorem dX7_relaxed_0 : decode cX7_relaxed 0 = .ok (.iconst 0, 1) := by decide +kernel
theorem dX7_relaxed_1 : decode cX7_relaxed 1 = .ok (.istore_n 1, 1) := by decide +kernel
theorem dX7_relaxed_2 : decode cX7_relaxed 2 = .ok (.iconst 0, 1) := by decide +kernel
theorem dX7_relaxed_3 : decode cX7_relaxed 3 = .ok (.istore_n 2, 1) := by decide +kernel
theorem dX7_relaxed_4 : decode cX7_relaxed 4 = .ok (.iload_n 2, 1) := by decide +kernel
theorem dX7_relaxed_5 : decode cX7_relaxed 5 = .ok (.i2l, 1) := by decide +kernel
theorem dX7_relaxed_6 : decode cX7_relaxed 6 = .ok (.aload_n 0, 1) := by decide +kernel
theorem dX7_relaxed_7 : decode cX7_relaxed 7 = .ok (.iconst 0, 1) := by decide +kernel
theorem dX7_relaxed_8 : decode cX7_relaxed 8 = .ok (.laload, 1) := by decide +kernel
theorem dX7_relaxed_9 : decode cX7_relaxed 9 = .ok (.lcmp, 1) := by decide +kernel
theorem dX7_relaxed_10 : decode cX7_relaxed 10 = .ok (.ifCond .ge 29, 3) := by decide +kernel
theorem dX7_relaxed_13 : decode cX7_relaxed 13 = .ok (.iload_n 1, 1) := by decide +kernel
theorem dX7_relaxed_14 : decode cX7_relaxed 14 = .ok (.aload_n 0, 1) := by decide +kernel
theorem dX7_relaxed_15 : decode cX7_relaxed 15 = .ok (.iload_n 2, 1) := by decide +kernel
theorem dX7_relaxed_16 : decode cX7_relaxed 16 = .ok (.invokestatic 73, 3) := by decide +kernel
theorem dX7_relaxed_19 : decode cX7_relaxed 19 = .ok (.lconst 0, 1) := by decide +kernel
theorem dX7_relaxed_20 : decode cX7_relaxed 20 = .ok (.lcmp, 1) := by decide +kernel
theorem dX7_relaxed_21 : decode cX7_relaxed 21 = .ok (.ifCond .le 9, 3) := by decide +kernel
theorem dX7_relaxed_24 : decode cX7_relaxed 24 = .ok (.iconst 1, 1) := by decide +kernel
theorem dX7_relaxed_25 : decode cX7_relaxed 25 = .ok (.iload_n 2, 1) := by decide +kernel
theorem dX7_relaxed_26 : decode cX7_relaxed 26 = .ok (.ishl, 1) := by decide +kernel
theorem dX7_relaxed_27 : decode cX7_relaxed 27 = .ok (.goto 4, 3) := by decide +kernel
theorem dX7_relaxed_30 : decode cX7_relaxed 30 = .ok (.iconst 0, 1) := by decide +kernel
theorem dX7_relaxed_31 : decode cX7_relaxed 31 = .ok (.ior, 1) := by decide +kernel
theorem dX7_relaxed_32 : decode cX7_relaxed 32 = .ok (.istore_n 1, 1) := by decide +kernel
theorem dX7_relaxed_33 : decode cX7_relaxed 33 = .ok (.iinc 2 1, 3) := by decide +kernel
theorem dX7_relaxed_36 : decode cX7_relaxed 36 = .ok (.goto (-32), 3) := by decide +kernel
theorem dX7_relaxed_39 : decode cX7_relaxed 39 = .ok (.iload_n 1, 1) := by decide +kernel
theorem dX7_relaxed_40 : decode cX7_relaxed 40 = .ok (.ireturn, 1) := by decide +kernel
set_option maxRecDepth 20000 in
theorem ggX7_boundOf_X7_price : GoodIn wsX7_boundOf wsX7_price := goodIn_r _ [4, 5, 6, 7, 3, 8] (by decide +kernel) (by decide +kernel)
set_option maxRecDepth 20000 in
theorem gX7_boundOf_X7_price : GoodIn wsX7_boundOf (va_wsS RX7 73 yX7_price wsX7_price) := goodIn_app (goodIn_of _ (by decide +kernel)) ggX7_boundOf_X7_price
theorem dX7_boundOf_0 : decode cX7_boundOf 0 = .ok (.lconst 0, 1) := by decide +kernel
theorem dX7_boundOf_1 : decode cX7_boundOf 1 = .ok (.lstore_n 1, 1) := by decide +kernel
theorem dX7_boundOf_2 : decode cX7_boundOf 2 = .ok (.iconst 0, 1) := by decide +kernel
theorem dX7_boundOf_3 : decode cX7_boundOf 3 = .ok (.istore_n 3, 1) := by decide +kernel
theorem dX7_boundOf_4 : decode cX7_boundOf 4 = .ok (.iload_n 3, 1) := by decide +kernel
theorem dX7_boundOf_5 : decode cX7_boundOf 5 = .ok (.i2l, 1) := by decide +kernel
theorem dX7_boundOf_6 : decode cX7_boundOf 6 = .ok (.aload_n 0, 1) := by decide +kernel
theorem dX7_boundOf_7 : decode cX7_boundOf 7 = .ok (.iconst 0, 1) := by decide +kernel
theorem dX7_boundOf_8 : decode cX7_boundOf 8 = .ok (.laload, 1) := by decide +kernel
theorem dX7_boundOf_9 : decode cX7_boundOf 9 = .ok (.lcmp, 1) := by decide +kernel
theorem dX7_boundOf_10 : decode cX7_boundOf 10 = .ok (.ifCond .ge 31, 3) := by decide +kernel
theorem dX7_boundOf_13 : decode cX7_boundOf 13 = .ok (.lload_n 1, 1) := by decide +kernel
theorem dX7_boundOf_14 : decode cX7_boundOf 14 = .ok (.aload_n 0, 1) := by decide +kernel
theorem dX7_boundOf_15 : decode cX7_boundOf 15 = .ok (.iload_n 3, 1) := by decide +kernel
theorem dX7_boundOf_16 : decode cX7_boundOf 16 = .ok (.invokestatic 73, 3) := by decide +kernel
theorem dX7_boundOf_19 : decode cX7_boundOf 19 = .ok (.lconst 0, 1) := by decide +kernel
theorem dX7_boundOf_20 : decode cX7_boundOf 20 = .ok (.lcmp, 1) := by decide +kernel
theorem dX7_boundOf_21 : decode cX7_boundOf 21 = .ok (.ifCond .le 11, 3) := by decide +kernel
theorem dX7_boundOf_24 : decode cX7_boundOf 24 = .ok (.aload_n 0, 1) := by decide +kernel
theorem dX7_boundOf_25 : decode cX7_boundOf 25 = .ok (.iload_n 3, 1) := by decide +kernel
theorem dX7_boundOf_26 : decode cX7_boundOf 26 = .ok (.invokestatic 73, 3) := by decide +kernel
theorem dX7_boundOf_29 : decode cX7_boundOf 29 = .ok (.goto 4, 3) := by decide +kernel
theorem dX7_boundOf_32 : decode cX7_boundOf 32 = .ok (.lconst 0, 1) := by decide +kernel
theorem dX7_boundOf_33 : decode cX7_boundOf 33 = .ok (.ladd, 1) := by decide +kernel
theorem dX7_boundOf_34 : decode cX7_boundOf 34 = .ok (.lstore_n 1, 1) := by decide +kernel
theorem dX7_boundOf_35 : decode cX7_boundOf 35 = .ok (.iinc 3 1, 3) := by decide +kernel
theorem dX7_boundOf_38 : decode cX7_boundOf 38 = .ok (.goto (-34), 3) := by decide +kernel
theorem dX7_boundOf_41 : decode cX7_boundOf 41 = .ok (.iconst 0, 1) := by decide +kernel
theorem dX7_boundOf_42 : decode cX7_boundOf 42 = .ok (.istore_n 3, 1) := by decide +kernel
theorem dX7_boundOf_43 : decode cX7_boundOf 43 = .ok (.iload_n 3, 1) := by decide +kernel
theorem dX7_boundOf_44 : decode cX7_boundOf 44 = .ok (.iconst 3, 1) := by decide +kernel
theorem dX7_boundOf_45 : decode cX7_boundOf 45 = .ok (.if_icmp .ge 25, 3) := by decide +kernel
theorem dX7_boundOf_48 : decode cX7_boundOf 48 = .ok (.lload_n 1, 1) := by decide +kernel
theorem dX7_boundOf_49 : decode cX7_boundOf 49 = .ok (.aload_n 0, 1) := by decide +kernel
theorem dX7_boundOf_50 : decode cX7_boundOf 50 = .ok (.bipush 68, 2) := by decide +kernel
theorem dX7_boundOf_52 : decode cX7_boundOf 52 = .ok (.iload_n 3, 1) := by decide +kernel
theorem dX7_boundOf_53 : decode cX7_boundOf 53 = .ok (.iadd, 1) := by decide +kernel
theorem dX7_boundOf_54 : decode cX7_boundOf 54 = .ok (.laload, 1) := by decide +kernel
theorem dX7_boundOf_55 : decode cX7_boundOf 55 = .ok (.aload_n 0, 1) := by decide +kernel
theorem dX7_boundOf_56 : decode cX7_boundOf 56 = .ok (.bipush 65, 2) := by decide +kernel
theorem dX7_boundOf_58 : decode cX7_boundOf 58 = .ok (.iload_n 3, 1) := by decide +kernel
theorem dX7_boundOf_59 : decode cX7_boundOf 59 = .ok (.iadd, 1) := by decide +kernel
theorem dX7_boundOf_60 : decode cX7_boundOf 60 = .ok (.laload, 1) := by decide +kernel
theorem dX7_boundOf_61 : decode cX7_boundOf 61 = .ok (.lmul, 1) := by decide +kernel
theorem dX7_boundOf_62 : decode cX7_boundOf 62 = .ok (.ladd, 1) := by decide +kernel
theorem dX7_boundOf_63 : decode cX7_boundOf 63 = .ok (.lstore_n 1, 1) := by decide +kernel
theorem dX7_boundOf_64 : decode cX7_boundOf 64 = .ok (.iinc 3 1, 3) := by decide +kernel
theorem dX7_boundOf_67 : decode cX7_boundOf 67 = .ok (.goto (-24), 3) := by decide +kernel
theorem dX7_boundOf_70 : decode cX7_boundOf 70 = .ok (.lload_n 1, 1) := by decide +kernel
theorem dX7_boundOf_71 : decode cX7_boundOf 71 = .ok (.lreturn, 1) := by decide +kernel
set_option maxRecDepth 20000 in
theorem ggX7_slope_X7_relaxed : GoodIn wsX7_slope wsX7_relaxed := goodIn_r _ [4, 5, 6, 3, 7, 8, 9, 10, 11] (by decide +kernel) (by decide +kernel)
set_option maxRecDepth 20000 in
theorem gX7_slope_X7_relaxed : GoodIn wsX7_slope (va_wsS RX7 77 yX7_relaxed wsX7_relaxed) := goodIn_app (goodIn_of _ (by decide +kernel)) ggX7_slope_X7_relaxed
set_option maxRecDepth 20000 in
theorem ggX7_slope_X7_sum : GoodIn wsX7_slope wsX7_sum := goodIn_r _ [14, 9, 10, 3, 11] (by decide +kernel) (by decide +kernel)
set_option maxRecDepth 20000 in
theorem gX7_slope_X7_sum : GoodIn wsX7_slope (va_wsS RX7 59 yX7_sum wsX7_sum) := goodIn_app (goodIn_of _ (by decide +kernel)) ggX7_slope_X7_sum
theorem dX7_slope_0 : decode cX7_slope 0 = .ok (.aload_n 0, 1) := by decide +kernel
theorem dX7_slope_1 : decode cX7_slope 1 = .ok (.aload_n 0, 1) := by decide +kernel
theorem dX7_slope_2 : decode cX7_slope 2 = .ok (.invokestatic 77, 3) := by decide +kernel
theorem dX7_slope_5 : decode cX7_slope 5 = .ok (.iconst 1, 1) := by decide +kernel
theorem dX7_slope_6 : decode cX7_slope 6 = .ok (.iload_n 1, 1) := by decide +kernel
theorem dX7_slope_7 : decode cX7_slope 7 = .ok (.iadd, 1) := by decide +kernel
theorem dX7_slope_8 : decode cX7_slope 8 = .ok (.invokestatic 59, 3) := by decide +kernel
theorem dX7_slope_11 : decode cX7_slope 11 = .ok (.aload_n 0, 1) := by decide +kernel
theorem dX7_slope_12 : decode cX7_slope 12 = .ok (.bipush 65, 2) := by decide +kernel
theorem dX7_slope_14 : decode cX7_slope 14 = .ok (.iload_n 1, 1) := by decide +kernel
theorem dX7_slope_15 : decode cX7_slope 15 = .ok (.iadd, 1) := by decide +kernel
theorem dX7_slope_16 : decode cX7_slope 16 = .ok (.laload, 1) := by decide +kernel
theorem dX7_slope_17 : decode cX7_slope 17 = .ok (.l2i, 1) := by decide +kernel
theorem dX7_slope_18 : decode cX7_slope 18 = .ok (.isub, 1) := by decide +kernel
theorem dX7_slope_19 : decode cX7_slope 19 = .ok (.ireturn, 1) := by decide +kernel
set_option maxRecDepth 20000 in
theorem ggX7_bestWorth_X7_sum : GoodIn wsX7_bestWorth wsX7_sum := goodIn_r _ [5, 6, 7, 4, 8] (by decide +kernel) (by decide +kernel)
set_option maxRecDepth 20000 in
theorem gX7_bestWorth_X7_sum : GoodIn wsX7_bestWorth (va_wsS RX7 59 yX7_sum wsX7_sum) := goodIn_app (goodIn_of _ (by decide +kernel)) ggX7_bestWorth_X7_sum
theorem dX7_bestWorth_0 : decode cX7_bestWorth 0 = .ok (.aload_n 0, 1) := by decide +kernel
theorem dX7_bestWorth_1 : decode cX7_bestWorth 1 = .ok (.bipush 76, 2) := by decide +kernel
theorem dX7_bestWorth_3 : decode cX7_bestWorth 3 = .ok (.laload, 1) := by decide +kernel
theorem dX7_bestWorth_4 : decode cX7_bestWorth 4 = .ok (.ldc2_w 81, 3) := by decide +kernel
theorem dX7_bestWorth_7 : decode cX7_bestWorth 7 = .ok (.lcmp, 1) := by decide +kernel
theorem dX7_bestWorth_8 : decode cX7_bestWorth 8 = .ok (.ifCond .ne 7, 3) := by decide +kernel
theorem dX7_bestWorth_11 : decode cX7_bestWorth 11 = .ok (.iconst 0, 1) := by decide +kernel
theorem dX7_bestWorth_12 : decode cX7_bestWorth 12 = .ok (.goto 13, 3) := by decide +kernel
theorem dX7_bestWorth_15 : decode cX7_bestWorth 15 = .ok (.aload_n 0, 1) := by decide +kernel
theorem dX7_bestWorth_16 : decode cX7_bestWorth 16 = .ok (.aload_n 0, 1) := by decide +kernel
theorem dX7_bestWorth_17 : decode cX7_bestWorth 17 = .ok (.bipush 76, 2) := by decide +kernel
theorem dX7_bestWorth_19 : decode cX7_bestWorth 19 = .ok (.laload, 1) := by decide +kernel
theorem dX7_bestWorth_20 : decode cX7_bestWorth 20 = .ok (.l2i, 1) := by decide +kernel
theorem dX7_bestWorth_21 : decode cX7_bestWorth 21 = .ok (.iconst 0, 1) := by decide +kernel
theorem dX7_bestWorth_22 : decode cX7_bestWorth 22 = .ok (.invokestatic 59, 3) := by decide +kernel
theorem dX7_bestWorth_25 : decode cX7_bestWorth 25 = .ok (.ireturn, 1) := by decide +kernel
set_option maxRecDepth 20000 in
theorem ggX7_forgets_X7_boundOf : GoodIn wsX7_forgets wsX7_boundOf := goodIn_r _ [6, 7, 8, 5, 9, 10, 11, 12, 13] (by decide +kernel) (by decide +kernel)
set_option maxRecDepth 20000 in
theorem gX7_forgets_X7_boundOf : GoodIn wsX7_forgets (va_wsS RX7 83 yX7_boundOf wsX7_boundOf) := goodIn_app (goodIn_of _ (by decide +kernel)) ggX7_forgets_X7_boundOf
theorem dX7_forgets_0 : decode cX7_forgets 0 = .ok (.aload_n 0, 1) := by decide +kernel
theorem dX7_forgets_1 : decode cX7_forgets 1 = .ok (.getfield 7, 3) := by decide +kernel
theorem dX7_forgets_4 : decode cX7_forgets 4 = .ok (.bipush 73, 2) := by decide +kernel
theorem dX7_forgets_6 : decode cX7_forgets 6 = .ok (.lconst 0, 1) := by decide +kernel
theorem dX7_forgets_7 : decode cX7_forgets 7 = .ok (.lastore, 1) := by decide +kernel
theorem dX7_forgets_8 : decode cX7_forgets 8 = .ok (.aload_n 0, 1) := by decide +kernel
theorem dX7_forgets_9 : decode cX7_forgets 9 = .ok (.getfield 7, 3) := by decide +kernel
theorem dX7_forgets_12 : decode cX7_forgets 12 = .ok (.bipush 76, 2) := by decide +kernel
theorem dX7_forgets_14 : decode cX7_forgets 14 = .ok (.ldc2_w 81, 3) := by decide +kernel
theorem dX7_forgets_17 : decode cX7_forgets 17 = .ok (.lastore, 1) := by decide +kernel
theorem dX7_forgets_18 : decode cX7_forgets 18 = .ok (.aload_n 0, 1) := by decide +kernel
theorem dX7_forgets_19 : decode cX7_forgets 19 = .ok (.getfield 7, 3) := by decide +kernel
theorem dX7_forgets_22 : decode cX7_forgets 22 = .ok (.bipush 75, 2) := by decide +kernel
theorem dX7_forgets_24 : decode cX7_forgets 24 = .ok (.aload_n 0, 1) := by decide +kernel
theorem dX7_forgets_25 : decode cX7_forgets 25 = .ok (.getfield 7, 3) := by decide +kernel
theorem dX7_forgets_28 : decode cX7_forgets 28 = .ok (.invokestatic 83, 3) := by decide +kernel
theorem dX7_forgets_31 : decode cX7_forgets 31 = .ok (.lastore, 1) := by decide +kernel
theorem dX7_forgets_32 : decode cX7_forgets 32 = .ok (.return_, 1) := by decide +kernel
set_option maxRecDepth 20000 in
theorem ggX7_length_X7_slope : GoodIn wsX7_length wsX7_slope := goodIn_r _ [5, 6, 7, 4, 8, 9, 10, 11, 1, 12, 13, 14, 15, 16, 17] (by decide +kernel) (by decide +kernel)
set_option maxRecDepth 20000 in
theorem gX7_length_X7_slope : GoodIn wsX7_length (va_wsS RX7 87 yX7_slope wsX7_slope) := goodIn_app (goodIn_of _ (by decide +kernel)) ggX7_length_X7_slope
set_option maxRecDepth 20000 in
theorem ggX7_length_X7_boundOf : GoodIn wsX7_length wsX7_boundOf := goodIn_r _ [20, 9, 10, 4, 11, 1, 12, 13, 14] (by decide +kernel) (by decide +kernel)
set_option maxRecDepth 20000 in
theorem gX7_length_X7_boundOf : GoodIn wsX7_length (va_wsS RX7 83 yX7_boundOf wsX7_boundOf) := goodIn_app (goodIn_of _ (by decide +kernel)) ggX7_length_X7_boundOf
set_option maxRecDepth 20000 in
theorem ggX7_length_X7_bestWorth : GoodIn wsX7_length wsX7_bestWorth := goodIn_r _ [23, 24, 15, 16, 4, 17, 12, 13, 14] (by decide +kernel) (by decide +kernel)
set_option maxRecDepth 20000 in
theorem gX7_length_X7_bestWorth : GoodIn wsX7_length (va_wsS RX7 90 yX7_bestWorth wsX7_bestWorth) := goodIn_app (goodIn_of _ (by decide +kernel)) ggX7_length_X7_bestWorth
theorem dX7_length_0 : decode cX7_length 0 = .ok (.aload_n 0, 1) := by decide +kernel
theorem dX7_length_1 : decode cX7_length 1 = .ok (.bipush 71, 2) := by decide +kernel
theorem dX7_length_3 : decode cX7_length 3 = .ok (.laload, 1) := by decide +kernel
theorem dX7_length_4 : decode cX7_length 4 = .ok (.lconst 0, 1) := by decide +kernel
theorem dX7_length_5 : decode cX7_length 5 = .ok (.lcmp, 1) := by decide +kernel
theorem dX7_length_6 : decode cX7_length 6 = .ok (.ifCond .ne 8, 3) := by decide +kernel
theorem dX7_length_9 : decode cX7_length 9 = .ok (.aload_n 0, 1) := by decide +kernel
theorem dX7_length_10 : decode cX7_length 10 = .ok (.bipush 72, 2) := by decide +kernel
theorem dX7_length_12 : decode cX7_length 12 = .ok (.laload, 1) := by decide +kernel
theorem dX7_length_13 : decode cX7_length 13 = .ok (.lreturn, 1) := by decide +kernel
theorem dX7_length_14 : decode cX7_length 14 = .ok (.aload_n 0, 1) := by decide +kernel
theorem dX7_length_15 : decode cX7_length 15 = .ok (.bipush 71, 2) := by decide +kernel
theorem dX7_length_17 : decode cX7_length 17 = .ok (.laload, 1) := by decide +kernel
theorem dX7_length_18 : decode cX7_length 18 = .ok (.lconst 1, 1) := by decide +kernel
theorem dX7_length_19 : decode cX7_length 19 = .ok (.lcmp, 1) := by decide +kernel
theorem dX7_length_20 : decode cX7_length 20 = .ok (.ifCond .ne 27, 3) := by decide +kernel
theorem dX7_length_23 : decode cX7_length 23 = .ok (.aload_n 0, 1) := by decide +kernel
theorem dX7_length_24 : decode cX7_length 24 = .ok (.bipush 72, 2) := by decide +kernel
theorem dX7_length_26 : decode cX7_length 26 = .ok (.laload, 1) := by decide +kernel
theorem dX7_length_27 : decode cX7_length 27 = .ok (.aload_n 0, 1) := by decide +kernel
theorem dX7_length_28 : decode cX7_length 28 = .ok (.bipush 73, 2) := by decide +kernel
theorem dX7_length_30 : decode cX7_length 30 = .ok (.laload, 1) := by decide +kernel
theorem dX7_length_31 : decode cX7_length 31 = .ok (.lconst 1, 1) := by decide +kernel
theorem dX7_length_32 : decode cX7_length 32 = .ok (.ladd, 1) := by decide +kernel
theorem dX7_length_33 : decode cX7_length 33 = .ok (.ldiv, 1) := by decide +kernel
theorem dX7_length_34 : decode cX7_length 34 = .ok (.lstore_n 1, 1) := by decide +kernel
theorem dX7_length_35 : decode cX7_length 35 = .ok (.lload_n 1, 1) := by decide +kernel
theorem dX7_length_36 : decode cX7_length 36 = .ok (.lconst 1, 1) := by decide +kernel
theorem dX7_length_37 : decode cX7_length 37 = .ok (.lcmp, 1) := by decide +kernel
theorem dX7_length_38 : decode cX7_length 38 = .ok (.ifCond .ge 7, 3) := by decide +kernel
theorem dX7_length_41 : decode cX7_length 41 = .ok (.lconst 1, 1) := by decide +kernel
theorem dX7_length_42 : decode cX7_length 42 = .ok (.goto 4, 3) := by decide +kernel
theorem dX7_length_45 : decode cX7_length 45 = .ok (.lload_n 1, 1) := by decide +kernel
theorem dX7_length_46 : decode cX7_length 46 = .ok (.lreturn, 1) := by decide +kernel
theorem dX7_length_47 : decode cX7_length 47 = .ok (.lconst 0, 1) := by decide +kernel
theorem dX7_length_48 : decode cX7_length 48 = .ok (.lstore_n 1, 1) := by decide +kernel
theorem dX7_length_49 : decode cX7_length 49 = .ok (.iconst 0, 1) := by decide +kernel
theorem dX7_length_50 : decode cX7_length 50 = .ok (.istore_n 3, 1) := by decide +kernel
theorem dX7_length_51 : decode cX7_length 51 = .ok (.iload_n 3, 1) := by decide +kernel
theorem dX7_length_52 : decode cX7_length 52 = .ok (.iconst 3, 1) := by decide +kernel
theorem dX7_length_53 : decode cX7_length 53 = .ok (.if_icmp .ge 25, 3) := by decide +kernel
theorem dX7_length_56 : decode cX7_length 56 = .ok (.lload_n 1, 1) := by decide +kernel
theorem dX7_length_57 : decode cX7_length 57 = .ok (.aload_n 0, 1) := by decide +kernel
theorem dX7_length_58 : decode cX7_length 58 = .ok (.iload_n 3, 1) := by decide +kernel
theorem dX7_length_59 : decode cX7_length 59 = .ok (.invokestatic 87, 3) := by decide +kernel
theorem dX7_length_62 : decode cX7_length 62 = .ok (.i2l, 1) := by decide +kernel
theorem dX7_length_63 : decode cX7_length 63 = .ok (.aload_n 0, 1) := by decide +kernel
theorem dX7_length_64 : decode cX7_length 64 = .ok (.iload_n 3, 1) := by decide +kernel
theorem dX7_length_65 : decode cX7_length 65 = .ok (.invokestatic 87, 3) := by decide +kernel
theorem dX7_length_68 : decode cX7_length 68 = .ok (.i2l, 1) := by decide +kernel
theorem dX7_length_69 : decode cX7_length 69 = .ok (.lmul, 1) := by decide +kernel
theorem dX7_length_70 : decode cX7_length 70 = .ok (.ladd, 1) := by decide +kernel
theorem dX7_length_71 : decode cX7_length 71 = .ok (.lstore_n 1, 1) := by decide +kernel
theorem dX7_length_72 : decode cX7_length 72 = .ok (.iinc 3 1, 3) := by decide +kernel
theorem dX7_length_75 : decode cX7_length 75 = .ok (.goto (-24), 3) := by decide +kernel
theorem dX7_length_78 : decode cX7_length 78 = .ok (.lload_n 1, 1) := by decide +kernel
theorem dX7_length_79 : decode cX7_length 79 = .ok (.lconst 0, 1) := by decide +kernel
theorem dX7_length_80 : decode cX7_length 80 = .ok (.lcmp, 1) := by decide +kernel
theorem dX7_length_81 : decode cX7_length 81 = .ok (.ifCond .ne 5, 3) := by decide +kernel
theorem dX7_length_84 : decode cX7_length 84 = .ok (.lconst 0, 1) := by decide +kernel
theorem dX7_length_85 : decode cX7_length 85 = .ok (.lreturn, 1) := by decide +kernel
theorem dX7_length_86 : decode cX7_length 86 = .ok (.aload_n 0, 1) := by decide +kernel
theorem dX7_length_87 : decode cX7_length 87 = .ok (.invokestatic 83, 3) := by decide +kernel
theorem dX7_length_90 : decode cX7_length 90 = .ok (.ldc2_w 35, 3) := by decide +kernel
theorem dX7_length_93 : decode cX7_length 93 = .ok (.aload_n 0, 1) := by decide +kernel
theorem dX7_length_94 : decode cX7_length 94 = .ok (.invokestatic 90, 3) := by decide +kernel
theorem dX7_length_97 : decode cX7_length 97 = .ok (.i2l, 1) := by decide +kernel
theorem dX7_length_98 : decode cX7_length 98 = .ok (.lmul, 1) := by decide +kernel
theorem dX7_length_99 : decode cX7_length 99 = .ok (.lsub, 1) := by decide +kernel
theorem dX7_length_100 : decode cX7_length 100 = .ok (.lload_n 1, 1) := by decide +kernel
theorem dX7_length_101 : decode cX7_length 101 = .ok (.ldiv, 1) := by decide +kernel
theorem dX7_length_102 : decode cX7_length 102 = .ok (.lstore_n 3, 1) := by decide +kernel
theorem dX7_length_103 : decode cX7_length 103 = .ok (.lload_n 3, 1) := by decide +kernel
theorem dX7_length_104 : decode cX7_length 104 = .ok (.lconst 1, 1) := by decide +kernel
theorem dX7_length_105 : decode cX7_length 105 = .ok (.lcmp, 1) := by decide +kernel
theorem dX7_length_106 : decode cX7_length 106 = .ok (.ifCond .ge 7, 3) := by decide +kernel
theorem dX7_length_109 : decode cX7_length 109 = .ok (.lconst 1, 1) := by decide +kernel
theorem dX7_length_110 : decode cX7_length 110 = .ok (.goto 4, 3) := by decide +kernel
theorem dX7_length_113 : decode cX7_length 113 = .ok (.lload_n 3, 1) := by decide +kernel
theorem dX7_length_114 : decode cX7_length 114 = .ok (.lreturn, 1) := by decide +kernel
theorem dX7_bundles_0 : decode cX7_bundles 0 = .ok (.iconst 0, 1) := by decide +kernel
theorem dX7_bundles_1 : decode cX7_bundles 1 = .ok (.istore_n 2, 1) := by decide +kernel
theorem dX7_bundles_2 : decode cX7_bundles 2 = .ok (.aload_n 0, 1) := by decide +kernel
theorem dX7_bundles_3 : decode cX7_bundles 3 = .ok (.bipush 77, 2) := by decide +kernel
theorem dX7_bundles_5 : decode cX7_bundles 5 = .ok (.laload, 1) := by decide +kernel
theorem dX7_bundles_6 : decode cX7_bundles 6 = .ok (.l2i, 1) := by decide +kernel
theorem dX7_bundles_7 : decode cX7_bundles 7 = .ok (.istore_n 3, 1) := by decide +kernel
theorem dX7_bundles_8 : decode cX7_bundles 8 = .ok (.iconst 0, 1) := by decide +kernel
theorem dX7_bundles_9 : decode cX7_bundles 9 = .ok (.istore 4, 2) := by decide +kernel
theorem dX7_bundles_11 : decode cX7_bundles 11 = .ok (.iload 4, 2) := by decide +kernel
theorem dX7_bundles_13 : decode cX7_bundles 13 = .ok (.iload_n 3, 1) := by decide +kernel
theorem dX7_bundles_14 : decode cX7_bundles 14 = .ok (.if_icmp .ge 38, 3) := by decide +kernel
theorem dX7_bundles_17 : decode cX7_bundles 17 = .ok (.aload_n 0, 1) := by decide +kernel
theorem dX7_bundles_18 : decode cX7_bundles 18 = .ok (.bipush 78, 2) := by decide +kernel
theorem dX7_bundles_20 : decode cX7_bundles 20 = .ok (.iload 4, 2) := by decide +kernel
theorem dX7_bundles_22 : decode cX7_bundles 22 = .ok (.iadd, 1) := by decide +kernel
theorem dX7_bundles_23 : decode cX7_bundles 23 = .ok (.laload, 1) := by decide +kernel
theorem dX7_bundles_24 : decode cX7_bundles 24 = .ok (.iload_n 1, 1) := by decide +kernel
theorem dX7_bundles_25 : decode cX7_bundles 25 = .ok (.i2l, 1) := by decide +kernel
theorem dX7_bundles_26 : decode cX7_bundles 26 = .ok (.lcmp, 1) := by decide +kernel
theorem dX7_bundles_27 : decode cX7_bundles 27 = .ok (.ifCond .eq 19, 3) := by decide +kernel
theorem dX7_bundles_30 : decode cX7_bundles 30 = .ok (.aload_n 0, 1) := by decide +kernel
theorem dX7_bundles_31 : decode cX7_bundles 31 = .ok (.bipush 78, 2) := by decide +kernel
theorem dX7_bundles_33 : decode cX7_bundles 33 = .ok (.iload_n 2, 1) := by decide +kernel
theorem dX7_bundles_34 : decode cX7_bundles 34 = .ok (.iadd, 1) := by decide +kernel
theorem dX7_bundles_35 : decode cX7_bundles 35 = .ok (.aload_n 0, 1) := by decide +kernel
theorem dX7_bundles_36 : decode cX7_bundles 36 = .ok (.bipush 78, 2) := by decide +kernel
theorem dX7_bundles_38 : decode cX7_bundles 38 = .ok (.iload 4, 2) := by decide +kernel
theorem dX7_bundles_40 : decode cX7_bundles 40 = .ok (.iadd, 1) := by decide +kernel
theorem dX7_bundles_41 : decode cX7_bundles 41 = .ok (.laload, 1) := by decide +kernel
theorem dX7_bundles_42 : decode cX7_bundles 42 = .ok (.lastore, 1) := by decide +kernel
theorem dX7_bundles_43 : decode cX7_bundles 43 = .ok (.iinc 2 1, 3) := by decide +kernel
theorem dX7_bundles_46 : decode cX7_bundles 46 = .ok (.iinc 4 1, 3) := by decide +kernel
theorem dX7_bundles_49 : decode cX7_bundles 49 = .ok (.goto (-38), 3) := by decide +kernel
theorem dX7_bundles_52 : decode cX7_bundles 52 = .ok (.iload_n 2, 1) := by decide +kernel
theorem dX7_bundles_53 : decode cX7_bundles 53 = .ok (.bipush 8, 2) := by decide +kernel
theorem dX7_bundles_55 : decode cX7_bundles 55 = .ok (.if_icmp .ne 38, 3) := by decide +kernel
theorem dX7_bundles_58 : decode cX7_bundles 58 = .ok (.iconst 1, 1) := by decide +kernel
theorem dX7_bundles_59 : decode cX7_bundles 59 = .ok (.istore 4, 2) := by decide +kernel
theorem dX7_bundles_61 : decode cX7_bundles 61 = .ok (.iload 4, 2) := by decide +kernel
theorem dX7_bundles_63 : decode cX7_bundles 63 = .ok (.bipush 8, 2) := by decide +kernel
theorem dX7_bundles_65 : decode cX7_bundles 65 = .ok (.if_icmp .ge 25, 3) := by decide +kernel
theorem dX7_bundles_68 : decode cX7_bundles 68 = .ok (.aload_n 0, 1) := by decide +kernel
theorem dX7_bundles_69 : decode cX7_bundles 69 = .ok (.bipush 78, 2) := by decide +kernel
theorem dX7_bundles_71 : decode cX7_bundles 71 = .ok (.iload 4, 2) := by decide +kernel
theorem dX7_bundles_73 : decode cX7_bundles 73 = .ok (.iadd, 1) := by decide +kernel
theorem dX7_bundles_74 : decode cX7_bundles 74 = .ok (.iconst 1, 1) := by decide +kernel
theorem dX7_bundles_75 : decode cX7_bundles 75 = .ok (.isub, 1) := by decide +kernel
theorem dX7_bundles_76 : decode cX7_bundles 76 = .ok (.aload_n 0, 1) := by decide +kernel
theorem dX7_bundles_77 : decode cX7_bundles 77 = .ok (.bipush 78, 2) := by decide +kernel
theorem dX7_bundles_79 : decode cX7_bundles 79 = .ok (.iload 4, 2) := by decide +kernel
theorem dX7_bundles_81 : decode cX7_bundles 81 = .ok (.iadd, 1) := by decide +kernel
theorem dX7_bundles_82 : decode cX7_bundles 82 = .ok (.laload, 1) := by decide +kernel
theorem dX7_bundles_83 : decode cX7_bundles 83 = .ok (.lastore, 1) := by decide +kernel
theorem dX7_bundles_84 : decode cX7_bundles 84 = .ok (.iinc 4 1, 3) := by decide +kernel
theorem dX7_bundles_87 : decode cX7_bundles 87 = .ok (.goto (-26), 3) := by decide +kernel
theorem dX7_bundles_90 : decode cX7_bundles 90 = .ok (.iinc 2 (-1), 3) := by decide +kernel
theorem dX7_bundles_93 : decode cX7_bundles 93 = .ok (.aload_n 0, 1) := by decide +kernel
theorem dX7_bundles_94 : decode cX7_bundles 94 = .ok (.bipush 78, 2) := by decide +kernel
theorem dX7_bundles_96 : decode cX7_bundles 96 = .ok (.iload_n 2, 1) := by decide +kernel
theorem dX7_bundles_97 : decode cX7_bundles 97 = .ok (.iadd, 1) := by decide +kernel
theorem dX7_bundles_98 : decode cX7_bundles 98 = .ok (.iload_n 1, 1) := by decide +kernel
theorem dX7_bundles_99 : decode cX7_bundles 99 = .ok (.i2l, 1) := by decide +kernel
theorem dX7_bundles_100 : decode cX7_bundles 100 = .ok (.lastore, 1) := by decide +kernel
theorem dX7_bundles_101 : decode cX7_bundles 101 = .ok (.aload_n 0, 1) := by decide +kernel
theorem dX7_bundles_102 : decode cX7_bundles 102 = .ok (.bipush 77, 2) := by decide +kernel
theorem dX7_bundles_104 : decode cX7_bundles 104 = .ok (.iload_n 2, 1) := by decide +kernel
theorem dX7_bundles_105 : decode cX7_bundles 105 = .ok (.iconst 1, 1) := by decide +kernel
theorem dX7_bundles_106 : decode cX7_bundles 106 = .ok (.iadd, 1) := by decide +kernel
theorem dX7_bundles_107 : decode cX7_bundles 107 = .ok (.i2l, 1) := by decide +kernel
theorem dX7_bundles_108 : decode cX7_bundles 108 = .ok (.lastore, 1) := by decide +kernel
theorem dX7_bundles_109 : decode cX7_bundles 109 = .ok (.return_, 1) := by decide +kernel
theorem dX7_within_0 : decode cX7_within 0 = .ok (.lload_n 0, 1) := by decide +kernel
theorem dX7_within_1 : decode cX7_within 1 = .ok (.lconst 0, 1) := by decide +kernel
theorem dX7_within_2 : decode cX7_within 2 = .ok (.lcmp, 1) := by decide +kernel
theorem dX7_within_3 : decode cX7_within 3 = .ok (.ifCond .ge 7, 3) := by decide +kernel
theorem dX7_within_6 : decode cX7_within 6 = .ok (.lconst 0, 1) := by decide +kernel
theorem dX7_within_7 : decode cX7_within 7 = .ok (.goto 18, 3) := by decide +kernel
theorem dX7_within_10 : decode cX7_within 10 = .ok (.lload_n 0, 1) := by decide +kernel
theorem dX7_within_11 : decode cX7_within 11 = .ok (.ldc2_w 93, 3) := by decide +kernel
theorem dX7_within_14 : decode cX7_within 14 = .ok (.lcmp, 1) := by decide +kernel
theorem dX7_within_15 : decode cX7_within 15 = .ok (.ifCond .le 9, 3) := by decide +kernel
theorem dX7_within_18 : decode cX7_within 18 = .ok (.ldc2_w 93, 3) := by decide +kernel
theorem dX7_within_21 : decode cX7_within 21 = .ok (.goto 4, 3) := by decide +kernel
theorem dX7_within_24 : decode cX7_within 24 = .ok (.lload_n 0, 1) := by decide +kernel
theorem dX7_within_25 : decode cX7_within 25 = .ok (.lreturn, 1) := by decide +kernel
set_option maxRecDepth 20000 in
theorem ggX7_steps_X7_length : GoodIn wsX7_steps wsX7_length := goodIn_r _ [4, 5, 6, 7, 3, 8, 9, 10, 11, 12, 13, 14, 15, 16, 17, 18, 19, 20, 21, 22, 23, 24, 25, 26, 27] (by decide +kernel) (by decide +kernel)
set_option maxRecDepth 20000 in
theorem gX7_steps_X7_length : GoodIn wsX7_steps (va_wsS RX7 95 yX7_length wsX7_length) := goodIn_app (goodIn_of _ (by decide +kernel)) ggX7_steps_X7_length
set_option maxRecDepth 20000 in
theorem ggX7_steps_X7_slope : GoodIn wsX7_steps wsX7_slope := goodIn_r _ [8, 9, 10, 3, 11, 12, 13, 14, 5, 15, 16, 17, 18, 19, 20] (by decide +kernel) (by decide +kernel)
set_option maxRecDepth 20000 in
theorem gX7_steps_X7_slope : GoodIn wsX7_steps (va_wsS RX7 87 yX7_slope wsX7_slope) := goodIn_app (goodIn_of _ (by decide +kernel)) ggX7_steps_X7_slope
set_option maxRecDepth 20000 in
theorem ggX7_steps_X7_relaxed : GoodIn wsX7_steps wsX7_relaxed := goodIn_r _ [11, 12, 13, 3, 14, 5, 15, 16, 17] (by decide +kernel) (by decide +kernel)
set_option maxRecDepth 20000 in
theorem gX7_steps_X7_relaxed : GoodIn wsX7_steps (va_wsS RX7 77 yX7_relaxed wsX7_relaxed) := goodIn_app (goodIn_of _ (by decide +kernel)) ggX7_steps_X7_relaxed
set_option maxRecDepth 20000 in
theorem ggX7_steps_X7_bundles : GoodIn wsX7_steps wsX7_bundles := goodIn_r _ [30] (by decide +kernel) (by decide +kernel)
set_option maxRecDepth 20000 in
theorem gX7_steps_X7_bundles : GoodIn wsX7_steps (va_wsS RX7 98 yX7_bundles wsX7_bundles) := goodIn_app (goodIn_of _ (by decide +kernel)) ggX7_steps_X7_bundles
set_option maxRecDepth 20000 in
theorem ggX7_steps_X7_within : GoodIn wsX7_steps wsX7_within := goodIn_r _ [33, 34] (by decide +kernel) (by decide +kernel)
set_option maxRecDepth 20000 in
theorem gX7_steps_X7_within : GoodIn wsX7_steps (va_wsS RX7 102 yX7_within wsX7_within) := goodIn_app (goodIn_of _ (by decide +kernel)) ggX7_steps_X7_within
set_option maxRecDepth 20000 in
theorem ggX7_steps_X7_isLess : GoodIn wsX7_steps wsX7_isLess := goodIn_r _ [37, 21, 22, 3, 23, 12, 13, 14, 5, 15, 16, 17] (by decide +kernel) (by decide +kernel)
set_option maxRecDepth 20000 in
theorem gX7_steps_X7_isLess : GoodIn wsX7_steps (va_wsS RX7 106 yX7_isLess wsX7_isLess) := goodIn_app (goodIn_of _ (by decide +kernel)) ggX7_steps_X7_isLess
theorem dX7_steps_0 : decode cX7_steps 0 = .ok (.aload_n 0, 1) := by decide +kernel
theorem dX7_steps_1 : decode cX7_steps 1 = .ok (.invokestatic 95, 3) := by decide +kernel
theorem dX7_steps_4 : decode cX7_steps 4 = .ok (.lstore_n 1, 1) := by decide +kernel
theorem dX7_steps_5 : decode cX7_steps 5 = .ok (.aload_n 0, 1) := by decide +kernel
theorem dX7_steps_6 : decode cX7_steps 6 = .ok (.iconst 0, 1) := by decide +kernel
theorem dX7_steps_7 : decode cX7_steps 7 = .ok (.invokestatic 87, 3) := by decide +kernel
theorem dX7_steps_10 : decode cX7_steps 10 = .ok (.istore_n 3, 1) := by decide +kernel
theorem dX7_steps_11 : decode cX7_steps 11 = .ok (.aload_n 0, 1) := by decide +kernel
theorem dX7_steps_12 : decode cX7_steps 12 = .ok (.iconst 1, 1) := by decide +kernel
theorem dX7_steps_13 : decode cX7_steps 13 = .ok (.invokestatic 87, 3) := by decide +kernel
theorem dX7_steps_16 : decode cX7_steps 16 = .ok (.istore 4, 2) := by decide +kernel
theorem dX7_steps_18 : decode cX7_steps 18 = .ok (.aload_n 0, 1) := by decide +kernel
theorem dX7_steps_19 : decode cX7_steps 19 = .ok (.iconst 2, 1) := by decide +kernel
theorem dX7_steps_20 : decode cX7_steps 20 = .ok (.invokestatic 87, 3) := by decide +kernel
theorem dX7_steps_23 : decode cX7_steps 23 = .ok (.istore 5, 2) := by decide +kernel
theorem dX7_steps_25 : decode cX7_steps 25 = .ok (.aload_n 0, 1) := by decide +kernel
theorem dX7_steps_26 : decode cX7_steps 26 = .ok (.aload_n 0, 1) := by decide +kernel
theorem dX7_steps_27 : decode cX7_steps 27 = .ok (.invokestatic 77, 3) := by decide +kernel
theorem dX7_steps_30 : decode cX7_steps 30 = .ok (.invokestatic 98, 3) := by decide +kernel
theorem dX7_steps_33 : decode cX7_steps 33 = .ok (.aload_n 0, 1) := by decide +kernel
theorem dX7_steps_34 : decode cX7_steps 34 = .ok (.bipush 68, 2) := by decide +kernel
theorem dX7_steps_36 : decode cX7_steps 36 = .ok (.aload_n 0, 1) := by decide +kernel
theorem dX7_steps_37 : decode cX7_steps 37 = .ok (.bipush 68, 2) := by decide +kernel
theorem dX7_steps_39 : decode cX7_steps 39 = .ok (.laload, 1) := by decide +kernel
theorem dX7_steps_40 : decode cX7_steps 40 = .ok (.lload_n 1, 1) := by decide +kernel
theorem dX7_steps_41 : decode cX7_steps 41 = .ok (.iload_n 3, 1) := by decide +kernel
theorem dX7_steps_42 : decode cX7_steps 42 = .ok (.i2l, 1) := by decide +kernel
theorem dX7_steps_43 : decode cX7_steps 43 = .ok (.lmul, 1) := by decide +kernel
theorem dX7_steps_44 : decode cX7_steps 44 = .ok (.ladd, 1) := by decide +kernel
theorem dX7_steps_45 : decode cX7_steps 45 = .ok (.invokestatic 102, 3) := by decide +kernel
theorem dX7_steps_48 : decode cX7_steps 48 = .ok (.lastore, 1) := by decide +kernel
theorem dX7_steps_49 : decode cX7_steps 49 = .ok (.aload_n 0, 1) := by decide +kernel
theorem dX7_steps_50 : decode cX7_steps 50 = .ok (.bipush 69, 2) := by decide +kernel
theorem dX7_steps_52 : decode cX7_steps 52 = .ok (.aload_n 0, 1) := by decide +kernel
theorem dX7_steps_53 : decode cX7_steps 53 = .ok (.bipush 69, 2) := by decide +kernel
theorem dX7_steps_55 : decode cX7_steps 55 = .ok (.laload, 1) := by decide +kernel
theorem dX7_steps_56 : decode cX7_steps 56 = .ok (.lload_n 1, 1) := by decide +kernel
theorem dX7_steps_57 : decode cX7_steps 57 = .ok (.iload 4, 2) := by decide +kernel
theorem dX7_steps_59 : decode cX7_steps 59 = .ok (.i2l, 1) := by decide +kernel
theorem dX7_steps_60 : decode cX7_steps 60 = .ok (.lmul, 1) := by decide +kernel
theorem dX7_steps_61 : decode cX7_steps 61 = .ok (.ladd, 1) := by decide +kernel
theorem dX7_steps_62 : decode cX7_steps 62 = .ok (.invokestatic 102, 3) := by decide +kernel
theorem dX7_steps_65 : decode cX7_steps 65 = .ok (.lastore, 1) := by decide +kernel
theorem dX7_steps_66 : decode cX7_steps 66 = .ok (.aload_n 0, 1) := by decide +kernel
theorem dX7_steps_67 : decode cX7_steps 67 = .ok (.bipush 70, 2) := by decide +kernel
theorem dX7_steps_69 : decode cX7_steps 69 = .ok (.aload_n 0, 1) := by decide +kernel
theorem dX7_steps_70 : decode cX7_steps 70 = .ok (.bipush 70, 2) := by decide +kernel
theorem dX7_steps_72 : decode cX7_steps 72 = .ok (.laload, 1) := by decide +kernel
theorem dX7_steps_73 : decode cX7_steps 73 = .ok (.lload_n 1, 1) := by decide +kernel
theorem dX7_steps_74 : decode cX7_steps 74 = .ok (.iload 5, 2) := by decide +kernel
theorem dX7_steps_76 : decode cX7_steps 76 = .ok (.i2l, 1) := by decide +kernel
theorem dX7_steps_77 : decode cX7_steps 77 = .ok (.lmul, 1) := by decide +kernel
theorem dX7_steps_78 : decode cX7_steps 78 = .ok (.ladd, 1) := by decide +kernel
theorem dX7_steps_79 : decode cX7_steps 79 = .ok (.invokestatic 102, 3) := by decide +kernel
theorem dX7_steps_82 : decode cX7_steps 82 = .ok (.lastore, 1) := by decide +kernel
theorem dX7_steps_83 : decode cX7_steps 83 = .ok (.aload_n 0, 1) := by decide +kernel
theorem dX7_steps_84 : decode cX7_steps 84 = .ok (.bipush 73, 2) := by decide +kernel
theorem dX7_steps_86 : decode cX7_steps 86 = .ok (.dup2, 1) := by decide +kernel
theorem dX7_steps_87 : decode cX7_steps 87 = .ok (.laload, 1) := by decide +kernel
theorem dX7_steps_88 : decode cX7_steps 88 = .ok (.lconst 1, 1) := by decide +kernel
theorem dX7_steps_89 : decode cX7_steps 89 = .ok (.ladd, 1) := by decide +kernel
theorem dX7_steps_90 : decode cX7_steps 90 = .ok (.lastore, 1) := by decide +kernel
theorem dX7_steps_91 : decode cX7_steps 91 = .ok (.aload_n 0, 1) := by decide +kernel
theorem dX7_steps_92 : decode cX7_steps 92 = .ok (.bipush 74, 2) := by decide +kernel
theorem dX7_steps_94 : decode cX7_steps 94 = .ok (.dup2, 1) := by decide +kernel
theorem dX7_steps_95 : decode cX7_steps 95 = .ok (.laload, 1) := by decide +kernel
theorem dX7_steps_96 : decode cX7_steps 96 = .ok (.lconst 1, 1) := by decide +kernel
theorem dX7_steps_97 : decode cX7_steps 97 = .ok (.ladd, 1) := by decide +kernel
theorem dX7_steps_98 : decode cX7_steps 98 = .ok (.lastore, 1) := by decide +kernel
theorem dX7_steps_99 : decode cX7_steps 99 = .ok (.aload_n 0, 1) := by decide +kernel
theorem dX7_steps_100 : decode cX7_steps 100 = .ok (.invokestatic 106, 3) := by decide +kernel
theorem dX7_steps_103 : decode cX7_steps 103 = .ok (.ireturn, 1) := by decide +kernel
set_option maxRecDepth 20000 in
theorem ggX7_isLess_X7_boundOf : GoodIn wsX7_isLess wsX7_boundOf := goodIn_r _ [4, 5, 6, 3, 7, 8, 9, 10, 11] (by decide +kernel) (by decide +kernel)
set_option maxRecDepth 20000 in
theorem gX7_isLess_X7_boundOf : GoodIn wsX7_isLess (va_wsS RX7 83 yX7_boundOf wsX7_boundOf) := goodIn_app (goodIn_of _ (by decide +kernel)) ggX7_isLess_X7_boundOf
theorem dX7_isLess_0 : decode cX7_isLess 0 = .ok (.aload_n 0, 1) := by decide +kernel
theorem dX7_isLess_1 : decode cX7_isLess 1 = .ok (.invokestatic 83, 3) := by decide +kernel
theorem dX7_isLess_4 : decode cX7_isLess 4 = .ok (.lstore_n 1, 1) := by decide +kernel
theorem dX7_isLess_5 : decode cX7_isLess 5 = .ok (.lload_n 1, 1) := by decide +kernel
theorem dX7_isLess_6 : decode cX7_isLess 6 = .ok (.aload_n 0, 1) := by decide +kernel
theorem dX7_isLess_7 : decode cX7_isLess 7 = .ok (.bipush 75, 2) := by decide +kernel
theorem dX7_isLess_9 : decode cX7_isLess 9 = .ok (.laload, 1) := by decide +kernel
theorem dX7_isLess_10 : decode cX7_isLess 10 = .ok (.lcmp, 1) := by decide +kernel
theorem dX7_isLess_11 : decode cX7_isLess 11 = .ok (.ifCond .ge 7, 3) := by decide +kernel
theorem dX7_isLess_14 : decode cX7_isLess 14 = .ok (.iconst 1, 1) := by decide +kernel
theorem dX7_isLess_15 : decode cX7_isLess 15 = .ok (.goto 4, 3) := by decide +kernel
theorem dX7_isLess_18 : decode cX7_isLess 18 = .ok (.iconst 0, 1) := by decide +kernel
theorem dX7_isLess_19 : decode cX7_isLess 19 = .ok (.istore_n 3, 1) := by decide +kernel
theorem dX7_isLess_20 : decode cX7_isLess 20 = .ok (.aload_n 0, 1) := by decide +kernel
theorem dX7_isLess_21 : decode cX7_isLess 21 = .ok (.bipush 75, 2) := by decide +kernel
theorem dX7_isLess_23 : decode cX7_isLess 23 = .ok (.iload_n 3, 1) := by decide +kernel
theorem dX7_isLess_24 : decode cX7_isLess 24 = .ok (.ifCond .eq 7, 3) := by decide +kernel
theorem dX7_isLess_27 : decode cX7_isLess 27 = .ok (.lload_n 1, 1) := by decide +kernel
theorem dX7_isLess_28 : decode cX7_isLess 28 = .ok (.goto 7, 3) := by decide +kernel
theorem dX7_isLess_31 : decode cX7_isLess 31 = .ok (.aload_n 0, 1) := by decide +kernel
theorem dX7_isLess_32 : decode cX7_isLess 32 = .ok (.bipush 75, 2) := by decide +kernel
theorem dX7_isLess_34 : decode cX7_isLess 34 = .ok (.laload, 1) := by decide +kernel
theorem dX7_isLess_35 : decode cX7_isLess 35 = .ok (.lastore, 1) := by decide +kernel
theorem dX7_isLess_36 : decode cX7_isLess 36 = .ok (.iload_n 3, 1) := by decide +kernel
theorem dX7_isLess_37 : decode cX7_isLess 37 = .ok (.ireturn, 1) := by decide +kernel
set_option maxRecDepth 20000 in
theorem ggX7_stepsMany_X7_steps : GoodIn wsX7_stepsMany wsX7_steps := goodIn_r _ [5, 6, 7, 4, 8, 9, 10, 11, 12, 13, 14, 15, 16, 17, 18, 19, 20, 21, 22, 23, 24, 25, 26, 27, 28, 29, 30, 31, 32, 33, 34, 35, 36, 37, 38, 39, 40, 41] (by decide +kernel) (by decide +kernel)
set_option maxRecDepth 20000 in
theorem gX7_stepsMany_X7_steps : GoodIn wsX7_stepsMany (va_wsS RX7 110 yX7_steps wsX7_steps) := goodIn_app (goodIn_of _ (by decide +kernel)) ggX7_stepsMany_X7_steps
theorem dX7_stepsMany_0 : decode cX7_stepsMany 0 = .ok (.iconst 0, 1) := by decide +kernel
theorem dX7_stepsMany_1 : decode cX7_stepsMany 1 = .ok (.istore_n 2, 1) := by decide +kernel
theorem dX7_stepsMany_2 : decode cX7_stepsMany 2 = .ok (.iconst 0, 1) := by decide +kernel
theorem dX7_stepsMany_3 : decode cX7_stepsMany 3 = .ok (.istore_n 3, 1) := by decide +kernel
theorem dX7_stepsMany_4 : decode cX7_stepsMany 4 = .ok (.iload_n 3, 1) := by decide +kernel
theorem dX7_stepsMany_5 : decode cX7_stepsMany 5 = .ok (.iload_n 1, 1) := by decide +kernel
theorem dX7_stepsMany_6 : decode cX7_stepsMany 6 = .ok (.if_icmp .ge 27, 3) := by decide +kernel
theorem dX7_stepsMany_9 : decode cX7_stepsMany 9 = .ok (.iload_n 2, 1) := by decide +kernel
theorem dX7_stepsMany_10 : decode cX7_stepsMany 10 = .ok (.aload_n 0, 1) := by decide +kernel
theorem dX7_stepsMany_11 : decode cX7_stepsMany 11 = .ok (.getfield 7, 3) := by decide +kernel
theorem dX7_stepsMany_14 : decode cX7_stepsMany 14 = .ok (.invokestatic 110, 3) := by decide +kernel
theorem dX7_stepsMany_17 : decode cX7_stepsMany 17 = .ok (.ifCond .eq 7, 3) := by decide +kernel
theorem dX7_stepsMany_20 : decode cX7_stepsMany 20 = .ok (.iconst 1, 1) := by decide +kernel
theorem dX7_stepsMany_21 : decode cX7_stepsMany 21 = .ok (.goto 4, 3) := by decide +kernel
theorem dX7_stepsMany_24 : decode cX7_stepsMany 24 = .ok (.iconst 0, 1) := by decide +kernel
theorem dX7_stepsMany_25 : decode cX7_stepsMany 25 = .ok (.iadd, 1) := by decide +kernel
theorem dX7_stepsMany_26 : decode cX7_stepsMany 26 = .ok (.istore_n 2, 1) := by decide +kernel
theorem dX7_stepsMany_27 : decode cX7_stepsMany 27 = .ok (.iinc 3 1, 3) := by decide +kernel
theorem dX7_stepsMany_30 : decode cX7_stepsMany 30 = .ok (.goto (-26), 3) := by decide +kernel
theorem dX7_stepsMany_33 : decode cX7_stepsMany 33 = .ok (.iload_n 2, 1) := by decide +kernel
theorem dX7_stepsMany_34 : decode cX7_stepsMany 34 = .ok (.ireturn, 1) := by decide +kernel
set_option maxRecDepth 20000 in
theorem ggX7_mayCome_X7_in : GoodIn wsX7_mayCome wsX7_in := goodIn_r _ [6] (by decide +kernel) (by decide +kernel)
set_option maxRecDepth 20000 in
theorem gX7_mayCome_X7_in : GoodIn wsX7_mayCome (va_wsS RX7 40 yX7_in wsX7_in) := goodIn_app (goodIn_of _ (by decide +kernel)) ggX7_mayCome_X7_in
theorem dX7_mayCome_0 : decode cX7_mayCome 0 = .ok (.iload_n 1, 1) := by decide +kernel
theorem dX7_mayCome_1 : decode cX7_mayCome 1 = .ok (.iconst 0, 1) := by decide +kernel
theorem dX7_mayCome_2 : decode cX7_mayCome 2 = .ok (.sipush 999, 3) := by decide +kernel
theorem dX7_mayCome_5 : decode cX7_mayCome 5 = .ok (.invokestatic 40, 3) := by decide +kernel
theorem dX7_mayCome_8 : decode cX7_mayCome 8 = .ok (.ifCond .eq 34, 3) := by decide +kernel
theorem dX7_mayCome_11 : decode cX7_mayCome 11 = .ok (.iload_n 2, 1) := by decide +kernel
theorem dX7_mayCome_12 : decode cX7_mayCome 12 = .ok (.iconst 0, 1) := by decide +kernel
theorem dX7_mayCome_13 : decode cX7_mayCome 13 = .ok (.bipush 99, 2) := by decide +kernel
theorem dX7_mayCome_15 : decode cX7_mayCome 15 = .ok (.invokestatic 40, 3) := by decide +kernel
theorem dX7_mayCome_18 : decode cX7_mayCome 18 = .ok (.ifCond .eq 24, 3) := by decide +kernel
theorem dX7_mayCome_21 : decode cX7_mayCome 21 = .ok (.iload_n 3, 1) := by decide +kernel
theorem dX7_mayCome_22 : decode cX7_mayCome 22 = .ok (.iconst 0, 1) := by decide +kernel
theorem dX7_mayCome_23 : decode cX7_mayCome 23 = .ok (.bipush 99, 2) := by decide +kernel
theorem dX7_mayCome_25 : decode cX7_mayCome 25 = .ok (.invokestatic 40, 3) := by decide +kernel
theorem dX7_mayCome_28 : decode cX7_mayCome 28 = .ok (.ifCond .eq 14, 3) := by decide +kernel
theorem dX7_mayCome_31 : decode cX7_mayCome 31 = .ok (.iload 4, 2) := by decide +kernel
theorem dX7_mayCome_33 : decode cX7_mayCome 33 = .ok (.iconst 0, 1) := by decide +kernel
theorem dX7_mayCome_34 : decode cX7_mayCome 34 = .ok (.bipush 99, 2) := by decide +kernel
theorem dX7_mayCome_36 : decode cX7_mayCome 36 = .ok (.invokestatic 40, 3) := by decide +kernel
theorem dX7_mayCome_39 : decode cX7_mayCome 39 = .ok (.ifCond .ne 6, 3) := by decide +kernel
theorem dX7_mayCome_42 : decode cX7_mayCome 42 = .ok (.bipush (-2), 2) := by decide +kernel
theorem dX7_mayCome_44 : decode cX7_mayCome 44 = .ok (.ireturn, 1) := by decide +kernel
theorem dX7_mayCome_45 : decode cX7_mayCome 45 = .ok (.aload_n 0, 1) := by decide +kernel
theorem dX7_mayCome_46 : decode cX7_mayCome 46 = .ok (.getfield 7, 3) := by decide +kernel
theorem dX7_mayCome_49 : decode cX7_mayCome 49 = .ok (.iconst 0, 1) := by decide +kernel
theorem dX7_mayCome_50 : decode cX7_mayCome 50 = .ok (.laload, 1) := by decide +kernel
theorem dX7_mayCome_51 : decode cX7_mayCome 51 = .ok (.ldc2_w 113, 3) := by decide +kernel
theorem dX7_mayCome_54 : decode cX7_mayCome 54 = .ok (.lcmp, 1) := by decide +kernel
theorem dX7_mayCome_55 : decode cX7_mayCome 55 = .ok (.ifCond .ne 8, 3) := by decide +kernel
theorem dX7_mayCome_58 : decode cX7_mayCome 58 = .ok (.bipush (-4), 2) := by decide +kernel
theorem dX7_mayCome_60 : decode cX7_mayCome 60 = .ok (.goto 4, 3) := by decide +kernel
theorem dX7_mayCome_63 : decode cX7_mayCome 63 = .ok (.iconst 0, 1) := by decide +kernel
theorem dX7_mayCome_64 : decode cX7_mayCome 64 = .ok (.ireturn, 1) := by decide +kernel
set_option maxRecDepth 20000 in
theorem ggX7_comes_X7_forgets : GoodIn wsX7_comes wsX7_forgets := goodIn_r _ [6, 1, 7, 8, 9, 5, 10, 11, 12, 13, 14, 15, 16, 17, 18, 19, 20, 21, 22, 23, 24, 25, 26, 27, 28] (by decide +kernel) (by decide +kernel)
set_option maxRecDepth 20000 in
theorem gX7_comes_X7_forgets : GoodIn wsX7_comes (wsV RX7 37 RX7 yX7_forgets wsX7_forgets) := goodIn_app (goodIn_of _ (by decide +kernel)) ggX7_comes_X7_forgets
theorem dX7_comes_0 : decode cX7_comes 0 = .ok (.iconst 1, 1) := by decide +kernel
theorem dX7_comes_1 : decode cX7_comes 1 = .ok (.iconst 4, 1) := by decide +kernel
theorem dX7_comes_2 : decode cX7_comes 2 = .ok (.aload_n 0, 1) := by decide +kernel
theorem dX7_comes_3 : decode cX7_comes 3 = .ok (.getfield 7, 3) := by decide +kernel
theorem dX7_comes_6 : decode cX7_comes 6 = .ok (.iconst 0, 1) := by decide +kernel
theorem dX7_comes_7 : decode cX7_comes 7 = .ok (.laload, 1) := by decide +kernel
theorem dX7_comes_8 : decode cX7_comes 8 = .ok (.l2i, 1) := by decide +kernel
theorem dX7_comes_9 : decode cX7_comes 9 = .ok (.imul, 1) := by decide +kernel
theorem dX7_comes_10 : decode cX7_comes 10 = .ok (.iadd, 1) := by decide +kernel
theorem dX7_comes_11 : decode cX7_comes 11 = .ok (.istore 5, 2) := by decide +kernel
theorem dX7_comes_13 : decode cX7_comes 13 = .ok (.aload_n 0, 1) := by decide +kernel
theorem dX7_comes_14 : decode cX7_comes 14 = .ok (.getfield 7, 3) := by decide +kernel
theorem dX7_comes_17 : decode cX7_comes 17 = .ok (.iload 5, 2) := by decide +kernel
theorem dX7_comes_19 : decode cX7_comes 19 = .ok (.iload_n 1, 1) := by decide +kernel
theorem dX7_comes_20 : decode cX7_comes 20 = .ok (.i2l, 1) := by decide +kernel
theorem dX7_comes_21 : decode cX7_comes 21 = .ok (.lastore, 1) := by decide +kernel
theorem dX7_comes_22 : decode cX7_comes 22 = .ok (.aload_n 0, 1) := by decide +kernel
theorem dX7_comes_23 : decode cX7_comes 23 = .ok (.getfield 7, 3) := by decide +kernel
theorem dX7_comes_26 : decode cX7_comes 26 = .ok (.iload 5, 2) := by decide +kernel
theorem dX7_comes_28 : decode cX7_comes 28 = .ok (.iconst 1, 1) := by decide +kernel
theorem dX7_comes_29 : decode cX7_comes 29 = .ok (.iadd, 1) := by decide +kernel
theorem dX7_comes_30 : decode cX7_comes 30 = .ok (.iload_n 2, 1) := by decide +kernel
theorem dX7_comes_31 : decode cX7_comes 31 = .ok (.i2l, 1) := by decide +kernel
theorem dX7_comes_32 : decode cX7_comes 32 = .ok (.lastore, 1) := by decide +kernel
theorem dX7_comes_33 : decode cX7_comes 33 = .ok (.aload_n 0, 1) := by decide +kernel
theorem dX7_comes_34 : decode cX7_comes 34 = .ok (.getfield 7, 3) := by decide +kernel
theorem dX7_comes_37 : decode cX7_comes 37 = .ok (.iload 5, 2) := by decide +kernel
theorem dX7_comes_39 : decode cX7_comes 39 = .ok (.iconst 2, 1) := by decide +kernel
theorem dX7_comes_40 : decode cX7_comes 40 = .ok (.iadd, 1) := by decide +kernel
theorem dX7_comes_41 : decode cX7_comes 41 = .ok (.iload_n 3, 1) := by decide +kernel
theorem dX7_comes_42 : decode cX7_comes 42 = .ok (.i2l, 1) := by decide +kernel
theorem dX7_comes_43 : decode cX7_comes 43 = .ok (.lastore, 1) := by decide +kernel
theorem dX7_comes_44 : decode cX7_comes 44 = .ok (.aload_n 0, 1) := by decide +kernel
theorem dX7_comes_45 : decode cX7_comes 45 = .ok (.getfield 7, 3) := by decide +kernel
theorem dX7_comes_48 : decode cX7_comes 48 = .ok (.iload 5, 2) := by decide +kernel
theorem dX7_comes_50 : decode cX7_comes 50 = .ok (.iconst 3, 1) := by decide +kernel
theorem dX7_comes_51 : decode cX7_comes 51 = .ok (.iadd, 1) := by decide +kernel
theorem dX7_comes_52 : decode cX7_comes 52 = .ok (.iload 4, 2) := by decide +kernel
theorem dX7_comes_54 : decode cX7_comes 54 = .ok (.i2l, 1) := by decide +kernel
theorem dX7_comes_55 : decode cX7_comes 55 = .ok (.lastore, 1) := by decide +kernel
theorem dX7_comes_56 : decode cX7_comes 56 = .ok (.aload_n 0, 1) := by decide +kernel
theorem dX7_comes_57 : decode cX7_comes 57 = .ok (.getfield 7, 3) := by decide +kernel
theorem dX7_comes_60 : decode cX7_comes 60 = .ok (.iconst 0, 1) := by decide +kernel
theorem dX7_comes_61 : decode cX7_comes 61 = .ok (.dup2, 1) := by decide +kernel
theorem dX7_comes_62 : decode cX7_comes 62 = .ok (.laload, 1) := by decide +kernel
theorem dX7_comes_63 : decode cX7_comes 63 = .ok (.lconst 1, 1) := by decide +kernel
theorem dX7_comes_64 : decode cX7_comes 64 = .ok (.ladd, 1) := by decide +kernel
theorem dX7_comes_65 : decode cX7_comes 65 = .ok (.lastore, 1) := by decide +kernel
theorem dX7_comes_66 : decode cX7_comes 66 = .ok (.aload_n 0, 1) := by decide +kernel
theorem dX7_comes_67 : decode cX7_comes 67 = .ok (.getfield 7, 3) := by decide +kernel
theorem dX7_comes_70 : decode cX7_comes 70 = .ok (.bipush 77, 2) := by decide +kernel
theorem dX7_comes_72 : decode cX7_comes 72 = .ok (.lconst 0, 1) := by decide +kernel
theorem dX7_comes_73 : decode cX7_comes 73 = .ok (.lastore, 1) := by decide +kernel
theorem dX7_comes_74 : decode cX7_comes 74 = .ok (.aload_n 0, 1) := by decide +kernel
theorem dX7_comes_75 : decode cX7_comes 75 = .ok (.invokevirtual 37, 3) := by decide +kernel
theorem dX7_comes_78 : decode cX7_comes 78 = .ok (.aload_n 0, 1) := by decide +kernel
theorem dX7_comes_79 : decode cX7_comes 79 = .ok (.getfield 7, 3) := by decide +kernel
theorem dX7_comes_82 : decode cX7_comes 82 = .ok (.iconst 0, 1) := by decide +kernel
theorem dX7_comes_83 : decode cX7_comes 83 = .ok (.laload, 1) := by decide +kernel
theorem dX7_comes_84 : decode cX7_comes 84 = .ok (.l2i, 1) := by decide +kernel
theorem dX7_comes_85 : decode cX7_comes 85 = .ok (.iconst 1, 1) := by decide +kernel
theorem dX7_comes_86 : decode cX7_comes 86 = .ok (.isub, 1) := by decide +kernel
theorem dX7_comes_87 : decode cX7_comes 87 = .ok (.ireturn, 1) := by decide +kernel
set_option maxRecDepth 20000 in
theorem ggX7_item_X7_mayCome : GoodIn wsX7_item wsX7_mayCome := goodIn_r _ [5, 6, 7, 8, 9, 4, 10, 39, 40, 41, 42, 43, 44, 45, 46, 47, 48, 49] (by decide +kernel) (by decide +kernel)
set_option maxRecDepth 20000 in
theorem gX7_item_X7_mayCome : GoodIn wsX7_item (wsV RX7 115 RX7 yX7_mayCome wsX7_mayCome) := goodIn_app (goodIn_of _ (by decide +kernel)) ggX7_item_X7_mayCome
set_option maxRecDepth 20000 in
theorem ggX7_item_X7_records : GoodIn wsX7_item wsX7_records := goodIn_r _ [14, 15, 16, 6, 17, 18, 4, 19, 39, 40, 41, 42, 43, 44, 45, 46, 47, 48, 49] (by decide +kernel) (by decide +kernel)
set_option maxRecDepth 20000 in
theorem gX7_item_X7_records : GoodIn wsX7_item (wsV RX7 52 RX7 yX7_records wsX7_records) := goodIn_app (goodIn_of _ (by decide +kernel)) ggX7_item_X7_records
set_option maxRecDepth 20000 in
theorem ggX7_item_X7_comes : GoodIn wsX7_item wsX7_comes := goodIn_r _ [23, 6, 24, 25, 26, 4, 27, 28, 29, 30, 31, 32, 33, 34, 35, 36, 37, 38, 39, 40, 41, 42, 43, 44, 45, 46, 47, 48, 49] (by decide +kernel) (by decide +kernel)
set_option maxRecDepth 20000 in
theorem gX7_item_X7_comes : GoodIn wsX7_item (wsV RX7 119 RX7 yX7_comes wsX7_comes) := goodIn_app (goodIn_of _ (by decide +kernel)) ggX7_item_X7_comes
theorem dX7_item_0 : decode cX7_item 0 = .ok (.aload_n 0, 1) := by decide +kernel
theorem dX7_item_1 : decode cX7_item 1 = .ok (.iload_n 1, 1) := by decide +kernel
theorem dX7_item_2 : decode cX7_item 2 = .ok (.iload_n 2, 1) := by decide +kernel
theorem dX7_item_3 : decode cX7_item 3 = .ok (.iload_n 3, 1) := by decide +kernel
theorem dX7_item_4 : decode cX7_item 4 = .ok (.iload 4, 2) := by decide +kernel
theorem dX7_item_6 : decode cX7_item 6 = .ok (.invokevirtual 115, 3) := by decide +kernel
theorem dX7_item_9 : decode cX7_item 9 = .ok (.istore 5, 2) := by decide +kernel
theorem dX7_item_11 : decode cX7_item 11 = .ok (.iload 5, 2) := by decide +kernel
theorem dX7_item_13 : decode cX7_item 13 = .ok (.ifCond .eq 6, 3) := by decide +kernel
theorem dX7_item_16 : decode cX7_item 16 = .ok (.iload 5, 2) := by decide +kernel
theorem dX7_item_18 : decode cX7_item 18 = .ok (.ireturn, 1) := by decide +kernel
theorem dX7_item_19 : decode cX7_item 19 = .ok (.aload_n 0, 1) := by decide +kernel
theorem dX7_item_20 : decode cX7_item 20 = .ok (.invokevirtual 52, 3) := by decide +kernel
theorem dX7_item_23 : decode cX7_item 23 = .ok (.aload_n 0, 1) := by decide +kernel
theorem dX7_item_24 : decode cX7_item 24 = .ok (.iload_n 1, 1) := by decide +kernel
theorem dX7_item_25 : decode cX7_item 25 = .ok (.iload_n 2, 1) := by decide +kernel
theorem dX7_item_26 : decode cX7_item 26 = .ok (.iload_n 3, 1) := by decide +kernel
theorem dX7_item_27 : decode cX7_item 27 = .ok (.iload 4, 2) := by decide +kernel
theorem dX7_item_29 : decode cX7_item 29 = .ok (.invokevirtual 119, 3) := by decide +kernel
theorem dX7_item_32 : decode cX7_item 32 = .ok (.ireturn, 1) := by decide +kernel
set_option maxRecDepth 20000 in
theorem ggX7_drops_X7_forgets : GoodIn wsX7_drops wsX7_forgets := goodIn_r _ [6, 1, 7, 8, 9, 5, 10, 11, 12, 13, 14, 15, 16, 17, 18, 19, 20, 21, 22, 23, 24, 25, 26, 27, 28] (by decide +kernel) (by decide +kernel)
set_option maxRecDepth 20000 in
theorem gX7_drops_X7_forgets : GoodIn wsX7_drops (wsV RX7 37 RX7 yX7_forgets wsX7_forgets) := goodIn_app (goodIn_of _ (by decide +kernel)) ggX7_drops_X7_forgets
theorem dX7_drops_0 : decode cX7_drops 0 = .ok (.aload_n 0, 1) := by decide +kernel
theorem dX7_drops_1 : decode cX7_drops 1 = .ok (.getfield 7, 3) := by decide +kernel
theorem dX7_drops_4 : decode cX7_drops 4 = .ok (.iconst 0, 1) := by decide +kernel
theorem dX7_drops_5 : decode cX7_drops 5 = .ok (.dup2, 1) := by decide +kernel
theorem dX7_drops_6 : decode cX7_drops 6 = .ok (.laload, 1) := by decide +kernel
theorem dX7_drops_7 : decode cX7_drops 7 = .ok (.lconst 1, 1) := by decide +kernel
theorem dX7_drops_8 : decode cX7_drops 8 = .ok (.lsub, 1) := by decide +kernel
theorem dX7_drops_9 : decode cX7_drops 9 = .ok (.lastore, 1) := by decide +kernel
theorem dX7_drops_10 : decode cX7_drops 10 = .ok (.iconst 1, 1) := by decide +kernel
theorem dX7_drops_11 : decode cX7_drops 11 = .ok (.iconst 4, 1) := by decide +kernel
theorem dX7_drops_12 : decode cX7_drops 12 = .ok (.aload_n 0, 1) := by decide +kernel
theorem dX7_drops_13 : decode cX7_drops 13 = .ok (.getfield 7, 3) := by decide +kernel
theorem dX7_drops_16 : decode cX7_drops 16 = .ok (.iconst 0, 1) := by decide +kernel
theorem dX7_drops_17 : decode cX7_drops 17 = .ok (.laload, 1) := by decide +kernel
theorem dX7_drops_18 : decode cX7_drops 18 = .ok (.l2i, 1) := by decide +kernel
theorem dX7_drops_19 : decode cX7_drops 19 = .ok (.imul, 1) := by decide +kernel
theorem dX7_drops_20 : decode cX7_drops 20 = .ok (.iadd, 1) := by decide +kernel
theorem dX7_drops_21 : decode cX7_drops 21 = .ok (.istore_n 2, 1) := by decide +kernel
theorem dX7_drops_22 : decode cX7_drops 22 = .ok (.iconst 1, 1) := by decide +kernel
theorem dX7_drops_23 : decode cX7_drops 23 = .ok (.iconst 4, 1) := by decide +kernel
theorem dX7_drops_24 : decode cX7_drops 24 = .ok (.iload_n 1, 1) := by decide +kernel
theorem dX7_drops_25 : decode cX7_drops 25 = .ok (.imul, 1) := by decide +kernel
theorem dX7_drops_26 : decode cX7_drops 26 = .ok (.iadd, 1) := by decide +kernel
theorem dX7_drops_27 : decode cX7_drops 27 = .ok (.istore_n 3, 1) := by decide +kernel
theorem dX7_drops_28 : decode cX7_drops 28 = .ok (.iload_n 3, 1) := by decide +kernel
theorem dX7_drops_29 : decode cX7_drops 29 = .ok (.iload_n 2, 1) := by decide +kernel
theorem dX7_drops_30 : decode cX7_drops 30 = .ok (.if_icmp .ge 23, 3) := by decide +kernel
theorem dX7_drops_33 : decode cX7_drops 33 = .ok (.aload_n 0, 1) := by decide +kernel
theorem dX7_drops_34 : decode cX7_drops 34 = .ok (.getfield 7, 3) := by decide +kernel
theorem dX7_drops_37 : decode cX7_drops 37 = .ok (.iload_n 3, 1) := by decide +kernel
theorem dX7_drops_38 : decode cX7_drops 38 = .ok (.aload_n 0, 1) := by decide +kernel
theorem dX7_drops_39 : decode cX7_drops 39 = .ok (.getfield 7, 3) := by decide +kernel
theorem dX7_drops_42 : decode cX7_drops 42 = .ok (.iload_n 3, 1) := by decide +kernel
theorem dX7_drops_43 : decode cX7_drops 43 = .ok (.iconst 4, 1) := by decide +kernel
theorem dX7_drops_44 : decode cX7_drops 44 = .ok (.iadd, 1) := by decide +kernel
theorem dX7_drops_45 : decode cX7_drops 45 = .ok (.laload, 1) := by decide +kernel
theorem dX7_drops_46 : decode cX7_drops 46 = .ok (.lastore, 1) := by decide +kernel
theorem dX7_drops_47 : decode cX7_drops 47 = .ok (.iinc 3 1, 3) := by decide +kernel
theorem dX7_drops_50 : decode cX7_drops 50 = .ok (.goto (-22), 3) := by decide +kernel
theorem dX7_drops_53 : decode cX7_drops 53 = .ok (.aload_n 0, 1) := by decide +kernel
theorem dX7_drops_54 : decode cX7_drops 54 = .ok (.getfield 7, 3) := by decide +kernel
theorem dX7_drops_57 : decode cX7_drops 57 = .ok (.bipush 77, 2) := by decide +kernel
theorem dX7_drops_59 : decode cX7_drops 59 = .ok (.lconst 0, 1) := by decide +kernel
theorem dX7_drops_60 : decode cX7_drops 60 = .ok (.lastore, 1) := by decide +kernel
theorem dX7_drops_61 : decode cX7_drops 61 = .ok (.aload_n 0, 1) := by decide +kernel
theorem dX7_drops_62 : decode cX7_drops 62 = .ok (.invokevirtual 37, 3) := by decide +kernel
theorem dX7_drops_65 : decode cX7_drops 65 = .ok (.aload_n 0, 1) := by decide +kernel
theorem dX7_drops_66 : decode cX7_drops 66 = .ok (.getfield 7, 3) := by decide +kernel
theorem dX7_drops_69 : decode cX7_drops 69 = .ok (.iconst 0, 1) := by decide +kernel
theorem dX7_drops_70 : decode cX7_drops 70 = .ok (.laload, 1) := by decide +kernel
theorem dX7_drops_71 : decode cX7_drops 71 = .ok (.l2i, 1) := by decide +kernel
theorem dX7_drops_72 : decode cX7_drops 72 = .ok (.ireturn, 1) := by decide +kernel
set_option maxRecDepth 20000 in
theorem ggX7_drop_X7_isItem : GoodIn wsX7_drop wsX7_isItem := goodIn_r _ [5, 6, 7, 8, 4, 9, 38, 39, 40, 41, 42, 43, 44, 45, 46, 47, 48] (by decide +kernel) (by decide +kernel)
set_option maxRecDepth 20000 in
theorem gX7_drop_X7_isItem : GoodIn wsX7_drop (wsV RX7 122 RX7 yX7_isItem wsX7_isItem) := goodIn_app (goodIn_of _ (by decide +kernel)) ggX7_drop_X7_isItem
set_option maxRecDepth 20000 in
theorem ggX7_drop_X7_records : GoodIn wsX7_drop wsX7_records := goodIn_r _ [13, 14, 15, 6, 16, 17, 4, 18, 38, 39, 40, 41, 42, 43, 44, 45, 46, 47, 48] (by decide +kernel) (by decide +kernel)
set_option maxRecDepth 20000 in
theorem gX7_drop_X7_records : GoodIn wsX7_drop (wsV RX7 52 RX7 yX7_records wsX7_records) := goodIn_app (goodIn_of _ (by decide +kernel)) ggX7_drop_X7_records
set_option maxRecDepth 20000 in
theorem ggX7_drop_X7_drops : GoodIn wsX7_drop wsX7_drops := goodIn_r _ [22, 6, 23, 24, 25, 4, 26, 27, 28, 29, 30, 31, 32, 33, 34, 35, 36, 37, 38, 39, 40, 41, 42, 43, 44, 45, 46, 47, 48] (by decide +kernel) (by decide +kernel)
set_option maxRecDepth 20000 in
theorem gX7_drop_X7_drops : GoodIn wsX7_drop (wsV RX7 126 RX7 yX7_drops wsX7_drops) := goodIn_app (goodIn_of _ (by decide +kernel)) ggX7_drop_X7_drops
theorem dX7_drop_0 : decode cX7_drop 0 = .ok (.aload_n 0, 1) := by decide +kernel
theorem dX7_drop_1 : decode cX7_drop 1 = .ok (.iload_n 1, 1) := by decide +kernel
theorem dX7_drop_2 : decode cX7_drop 2 = .ok (.invokevirtual 122, 3) := by decide +kernel
theorem dX7_drop_5 : decode cX7_drop 5 = .ok (.ifCond .ne 5, 3) := by decide +kernel
theorem dX7_drop_8 : decode cX7_drop 8 = .ok (.iconst (-1), 1) := by decide +kernel
theorem dX7_drop_9 : decode cX7_drop 9 = .ok (.ireturn, 1) := by decide +kernel
theorem dX7_drop_10 : decode cX7_drop 10 = .ok (.aload_n 0, 1) := by decide +kernel
theorem dX7_drop_11 : decode cX7_drop 11 = .ok (.invokevirtual 52, 3) := by decide +kernel
theorem dX7_drop_14 : decode cX7_drop 14 = .ok (.aload_n 0, 1) := by decide +kernel
theorem dX7_drop_15 : decode cX7_drop 15 = .ok (.iload_n 1, 1) := by decide +kernel
theorem dX7_drop_16 : decode cX7_drop 16 = .ok (.invokevirtual 126, 3) := by decide +kernel
theorem dX7_drop_19 : decode cX7_drop 19 = .ok (.ireturn, 1) := by decide +kernel
theorem dX7_changes_0 : decode cX7_changes 0 = .ok (.aload_n 0, 1) := by decide +kernel
theorem dX7_changes_1 : decode cX7_changes 1 = .ok (.getfield 7, 3) := by decide +kernel
theorem dX7_changes_4 : decode cX7_changes 4 = .ok (.iload_n 1, 1) := by decide +kernel
theorem dX7_changes_5 : decode cX7_changes 5 = .ok (.laload, 1) := by decide +kernel
theorem dX7_changes_6 : decode cX7_changes 6 = .ok (.l2i, 1) := by decide +kernel
theorem dX7_changes_7 : decode cX7_changes 7 = .ok (.istore_n 3, 1) := by decide +kernel
theorem dX7_changes_8 : decode cX7_changes 8 = .ok (.aload_n 0, 1) := by decide +kernel
theorem dX7_changes_9 : decode cX7_changes 9 = .ok (.getfield 7, 3) := by decide +kernel
theorem dX7_changes_12 : decode cX7_changes 12 = .ok (.iload_n 1, 1) := by decide +kernel
theorem dX7_changes_13 : decode cX7_changes 13 = .ok (.iload_n 2, 1) := by decide +kernel
theorem dX7_changes_14 : decode cX7_changes 14 = .ok (.i2l, 1) := by decide +kernel
theorem dX7_changes_15 : decode cX7_changes 15 = .ok (.lastore, 1) := by decide +kernel
theorem dX7_changes_16 : decode cX7_changes 16 = .ok (.iload_n 3, 1) := by decide +kernel
theorem dX7_changes_17 : decode cX7_changes 17 = .ok (.ireturn, 1) := by decide +kernel
set_option maxRecDepth 20000 in
theorem ggX7_mayLimit_X7_isWay : GoodIn wsX7_mayLimit wsX7_isWay := goodIn_r _ [4, 5, 6, 3, 7] (by decide +kernel) (by decide +kernel)
set_option maxRecDepth 20000 in
theorem gX7_mayLimit_X7_isWay : GoodIn wsX7_mayLimit (va_wsS RX7 130 yX7_isWay wsX7_isWay) := goodIn_app (goodIn_of _ (by decide +kernel)) ggX7_mayLimit_X7_isWay
set_option maxRecDepth 20000 in
theorem ggX7_mayLimit_X7_in : GoodIn wsX7_mayLimit wsX7_in := goodIn_r _ [7] (by decide +kernel) (by decide +kernel)
set_option maxRecDepth 20000 in
theorem gX7_mayLimit_X7_in : GoodIn wsX7_mayLimit (va_wsS RX7 40 yX7_in wsX7_in) := goodIn_app (goodIn_of _ (by decide +kernel)) ggX7_mayLimit_X7_in
theorem dX7_mayLimit_0 : decode cX7_mayLimit 0 = .ok (.iload_n 0, 1) := by decide +kernel
theorem dX7_mayLimit_1 : decode cX7_mayLimit 1 = .ok (.invokestatic 130, 3) := by decide +kernel
theorem dX7_mayLimit_4 : decode cX7_mayLimit 4 = .ok (.ifCond .ne 7, 3) := by decide +kernel
theorem dX7_mayLimit_7 : decode cX7_mayLimit 7 = .ok (.iconst (-1), 1) := by decide +kernel
theorem dX7_mayLimit_8 : decode cX7_mayLimit 8 = .ok (.goto 20, 3) := by decide +kernel
theorem dX7_mayLimit_11 : decode cX7_mayLimit 11 = .ok (.iload_n 1, 1) := by decide +kernel
theorem dX7_mayLimit_12 : decode cX7_mayLimit 12 = .ok (.iconst 0, 1) := by decide +kernel
theorem dX7_mayLimit_13 : decode cX7_mayLimit 13 = .ok (.sipush 999, 3) := by decide +kernel
theorem dX7_mayLimit_16 : decode cX7_mayLimit 16 = .ok (.invokestatic 40, 3) := by decide +kernel
theorem dX7_mayLimit_19 : decode cX7_mayLimit 19 = .ok (.ifCond .eq 7, 3) := by decide +kernel
theorem dX7_mayLimit_22 : decode cX7_mayLimit 22 = .ok (.iconst 0, 1) := by decide +kernel
theorem dX7_mayLimit_23 : decode cX7_mayLimit 23 = .ok (.goto 5, 3) := by decide +kernel
theorem dX7_mayLimit_26 : decode cX7_mayLimit 26 = .ok (.bipush (-2), 2) := by decide +kernel
theorem dX7_mayLimit_28 : decode cX7_mayLimit 28 = .ok (.ireturn, 1) := by decide +kernel
set_option maxRecDepth 20000 in
theorem ggX7_limits_X7_changes : GoodIn wsX7_limits wsX7_changes := goodIn_r _ [5, 6, 22, 23, 24, 25, 26, 27, 28, 29, 30, 31, 32] (by decide +kernel) (by decide +kernel)
set_option maxRecDepth 20000 in
theorem gX7_limits_X7_changes : GoodIn wsX7_limits (wsV RX7 133 RX7 yX7_changes wsX7_changes) := goodIn_app (goodIn_of _ (by decide +kernel)) ggX7_limits_X7_changes
set_option maxRecDepth 20000 in
theorem ggX7_limits_X7_forgets : GoodIn wsX7_limits wsX7_forgets := goodIn_r _ [10, 6, 11, 12, 13, 4, 14, 15, 16, 17, 18, 19, 20, 21, 22, 23, 24, 25, 26, 27, 28, 29, 30, 31, 32] (by decide +kernel) (by decide +kernel)
set_option maxRecDepth 20000 in
theorem gX7_limits_X7_forgets : GoodIn wsX7_limits (wsV RX7 37 RX7 yX7_forgets wsX7_forgets) := goodIn_app (goodIn_of _ (by decide +kernel)) ggX7_limits_X7_forgets
theorem dX7_limits_0 : decode cX7_limits 0 = .ok (.aload_n 0, 1) := by decide +kernel
theorem dX7_limits_1 : decode cX7_limits 1 = .ok (.bipush 65, 2) := by decide +kernel
theorem dX7_limits_3 : decode cX7_limits 3 = .ok (.iload_n 1, 1) := by decide +kernel
theorem dX7_limits_4 : decode cX7_limits 4 = .ok (.iadd, 1) := by decide +kernel
theorem dX7_limits_5 : decode cX7_limits 5 = .ok (.iload_n 2, 1) := by decide +kernel
theorem dX7_limits_6 : decode cX7_limits 6 = .ok (.invokevirtual 133, 3) := by decide +kernel
theorem dX7_limits_9 : decode cX7_limits 9 = .ok (.istore_n 3, 1) := by decide +kernel
theorem dX7_limits_10 : decode cX7_limits 10 = .ok (.aload_n 0, 1) := by decide +kernel
theorem dX7_limits_11 : decode cX7_limits 11 = .ok (.invokevirtual 37, 3) := by decide +kernel
theorem dX7_limits_14 : decode cX7_limits 14 = .ok (.iload_n 3, 1) := by decide +kernel
theorem dX7_limits_15 : decode cX7_limits 15 = .ok (.ireturn, 1) := by decide +kernel
set_option maxRecDepth 20000 in
theorem ggX7_limit_X7_mayLimit : GoodIn wsX7_limit wsX7_mayLimit := goodIn_r _ [4, 5, 6, 3, 7, 8, 9, 10] (by decide +kernel) (by decide +kernel)
set_option maxRecDepth 20000 in
theorem gX7_limit_X7_mayLimit : GoodIn wsX7_limit (va_wsS RX7 137 yX7_mayLimit wsX7_mayLimit) := goodIn_app (goodIn_of _ (by decide +kernel)) ggX7_limit_X7_mayLimit
set_option maxRecDepth 20000 in
theorem ggX7_limit_X7_records : GoodIn wsX7_limit wsX7_records := goodIn_r _ [14, 15, 16, 17, 18, 19, 3, 20, 44, 45, 46, 47, 48, 49, 50, 51, 52, 53, 54] (by decide +kernel) (by decide +kernel)
set_option maxRecDepth 20000 in
theorem gX7_limit_X7_records : GoodIn wsX7_limit (wsV RX7 52 RX7 yX7_records wsX7_records) := goodIn_app (goodIn_of _ (by decide +kernel)) ggX7_limit_X7_records
set_option maxRecDepth 20000 in
theorem ggX7_limit_X7_limits : GoodIn wsX7_limit wsX7_limits := goodIn_r _ [24, 25, 26, 27, 3, 28, 17, 29, 30, 31, 32, 33, 34, 35, 36, 37, 38, 39, 40, 41, 42, 43, 44, 45, 46, 47, 48, 49, 50, 51, 52, 53, 54] (by decide +kernel) (by decide +kernel)
set_option maxRecDepth 20000 in
theorem gX7_limit_X7_limits : GoodIn wsX7_limit (wsV RX7 140 RX7 yX7_limits wsX7_limits) := goodIn_app (goodIn_of _ (by decide +kernel)) ggX7_limit_X7_limits
theorem dX7_limit_0 : decode cX7_limit 0 = .ok (.iload_n 1, 1) := by decide +kernel
theorem dX7_limit_1 : decode cX7_limit 1 = .ok (.iload_n 2, 1) := by decide +kernel
theorem dX7_limit_2 : decode cX7_limit 2 = .ok (.invokestatic 137, 3) := by decide +kernel
theorem dX7_limit_5 : decode cX7_limit 5 = .ok (.istore_n 3, 1) := by decide +kernel
theorem dX7_limit_6 : decode cX7_limit 6 = .ok (.iload_n 3, 1) := by decide +kernel
theorem dX7_limit_7 : decode cX7_limit 7 = .ok (.ifCond .eq 5, 3) := by decide +kernel
theorem dX7_limit_10 : decode cX7_limit 10 = .ok (.iload_n 3, 1) := by decide +kernel
theorem dX7_limit_11 : decode cX7_limit 11 = .ok (.ireturn, 1) := by decide +kernel
theorem dX7_limit_12 : decode cX7_limit 12 = .ok (.aload_n 0, 1) := by decide +kernel
theorem dX7_limit_13 : decode cX7_limit 13 = .ok (.invokevirtual 52, 3) := by decide +kernel
theorem dX7_limit_16 : decode cX7_limit 16 = .ok (.aload_n 0, 1) := by decide +kernel
theorem dX7_limit_17 : decode cX7_limit 17 = .ok (.iload_n 1, 1) := by decide +kernel
theorem dX7_limit_18 : decode cX7_limit 18 = .ok (.iload_n 2, 1) := by decide +kernel
theorem dX7_limit_19 : decode cX7_limit 19 = .ok (.invokevirtual 140, 3) := by decide +kernel
theorem dX7_limit_22 : decode cX7_limit 22 = .ok (.ireturn, 1) := by decide +kernel
set_option maxRecDepth 20000 in
theorem ggX7_rule_X7_in : GoodIn wsX7_rule wsX7_in := goodIn_r _ [5] (by decide +kernel) (by decide +kernel)
set_option maxRecDepth 20000 in
theorem gX7_rule_X7_in : GoodIn wsX7_rule (va_wsS RX7 40 yX7_in wsX7_in) := goodIn_app (goodIn_of _ (by decide +kernel)) ggX7_rule_X7_in
set_option maxRecDepth 20000 in
theorem ggX7_rule_X7_records : GoodIn wsX7_rule wsX7_records := goodIn_r _ [9, 10, 11, 1, 12, 13, 4, 14, 19, 20, 21, 22, 23, 24, 25, 26, 27, 28, 29] (by decide +kernel) (by decide +kernel)
set_option maxRecDepth 20000 in
theorem gX7_rule_X7_records : GoodIn wsX7_rule (wsV RX7 52 RX7 yX7_records wsX7_records) := goodIn_app (goodIn_of _ (by decide +kernel)) ggX7_rule_X7_records
set_option maxRecDepth 20000 in
theorem ggX7_rule_X7_changes : GoodIn wsX7_rule wsX7_changes := goodIn_r _ [18, 1, 19, 20, 21, 22, 23, 24, 25, 26, 27, 28, 29] (by decide +kernel) (by decide +kernel)
set_option maxRecDepth 20000 in
theorem gX7_rule_X7_changes : GoodIn wsX7_rule (wsV RX7 133 RX7 yX7_changes wsX7_changes) := goodIn_app (goodIn_of _ (by decide +kernel)) ggX7_rule_X7_changes
theorem dX7_rule_0 : decode cX7_rule 0 = .ok (.iload_n 1, 1) := by decide +kernel
theorem dX7_rule_1 : decode cX7_rule 1 = .ok (.iconst 0, 1) := by decide +kernel
theorem dX7_rule_2 : decode cX7_rule 2 = .ok (.iconst 2, 1) := by decide +kernel
theorem dX7_rule_3 : decode cX7_rule 3 = .ok (.invokestatic 40, 3) := by decide +kernel
theorem dX7_rule_6 : decode cX7_rule 6 = .ok (.ifCond .eq 14, 3) := by decide +kernel
theorem dX7_rule_9 : decode cX7_rule 9 = .ok (.iload_n 2, 1) := by decide +kernel
theorem dX7_rule_10 : decode cX7_rule 10 = .ok (.iconst 1, 1) := by decide +kernel
theorem dX7_rule_11 : decode cX7_rule 11 = .ok (.sipush 9999, 3) := by decide +kernel
theorem dX7_rule_14 : decode cX7_rule 14 = .ok (.invokestatic 40, 3) := by decide +kernel
theorem dX7_rule_17 : decode cX7_rule 17 = .ok (.ifCond .ne 6, 3) := by decide +kernel
theorem dX7_rule_20 : decode cX7_rule 20 = .ok (.bipush (-2), 2) := by decide +kernel
theorem dX7_rule_22 : decode cX7_rule 22 = .ok (.ireturn, 1) := by decide +kernel
theorem dX7_rule_23 : decode cX7_rule 23 = .ok (.aload_n 0, 1) := by decide +kernel
theorem dX7_rule_24 : decode cX7_rule 24 = .ok (.invokevirtual 52, 3) := by decide +kernel
theorem dX7_rule_27 : decode cX7_rule 27 = .ok (.aload_n 0, 1) := by decide +kernel
theorem dX7_rule_28 : decode cX7_rule 28 = .ok (.getfield 7, 3) := by decide +kernel
theorem dX7_rule_31 : decode cX7_rule 31 = .ok (.bipush 72, 2) := by decide +kernel
theorem dX7_rule_33 : decode cX7_rule 33 = .ok (.iload_n 2, 1) := by decide +kernel
theorem dX7_rule_34 : decode cX7_rule 34 = .ok (.i2l, 1) := by decide +kernel
theorem dX7_rule_35 : decode cX7_rule 35 = .ok (.lastore, 1) := by decide +kernel
theorem dX7_rule_36 : decode cX7_rule 36 = .ok (.aload_n 0, 1) := by decide +kernel
theorem dX7_rule_37 : decode cX7_rule 37 = .ok (.bipush 71, 2) := by decide +kernel
theorem dX7_rule_39 : decode cX7_rule 39 = .ok (.iload_n 1, 1) := by decide +kernel
theorem dX7_rule_40 : decode cX7_rule 40 = .ok (.invokevirtual 133, 3) := by decide +kernel
theorem dX7_rule_43 : decode cX7_rule 43 = .ok (.ireturn, 1) := by decide +kernel
set_option maxRecDepth 20000 in
theorem ggX7_multiplier_X7_isWay : GoodIn wsX7_multiplier wsX7_isWay := goodIn_r _ [6, 7, 8, 5, 9] (by decide +kernel) (by decide +kernel)
set_option maxRecDepth 20000 in
theorem gX7_multiplier_X7_isWay : GoodIn wsX7_multiplier (va_wsS RX7 130 yX7_isWay wsX7_isWay) := goodIn_app (goodIn_of _ (by decide +kernel)) ggX7_multiplier_X7_isWay
set_option maxRecDepth 20000 in
theorem ggX7_multiplier_X7_in : GoodIn wsX7_multiplier wsX7_in := goodIn_r _ [9] (by decide +kernel) (by decide +kernel)
set_option maxRecDepth 20000 in
theorem gX7_multiplier_X7_in : GoodIn wsX7_multiplier (va_wsS RX7 40 yX7_in wsX7_in) := goodIn_app (goodIn_of _ (by decide +kernel)) ggX7_multiplier_X7_in
set_option maxRecDepth 20000 in
theorem ggX7_multiplier_X7_records : GoodIn wsX7_multiplier wsX7_records := goodIn_r _ [13, 14, 15, 2, 16, 17, 5, 18, 36, 37, 38, 39, 40, 41, 42, 43, 44, 45, 46] (by decide +kernel) (by decide +kernel)
set_option maxRecDepth 20000 in
theorem gX7_multiplier_X7_records : GoodIn wsX7_multiplier (wsV RX7 52 RX7 yX7_records wsX7_records) := goodIn_app (goodIn_of _ (by decide +kernel)) ggX7_multiplier_X7_records
set_option maxRecDepth 20000 in
theorem ggX7_multiplier_X7_changes : GoodIn wsX7_multiplier wsX7_changes := goodIn_r _ [22, 2, 36, 37, 38, 39, 40, 41, 42, 43, 44, 45, 46] (by decide +kernel) (by decide +kernel)
set_option maxRecDepth 20000 in
theorem gX7_multiplier_X7_changes : GoodIn wsX7_multiplier (wsV RX7 133 RX7 yX7_changes wsX7_changes) := goodIn_app (goodIn_of _ (by decide +kernel)) ggX7_multiplier_X7_changes
set_option maxRecDepth 20000 in
theorem ggX7_multiplier_X7_isLess : GoodIn wsX7_multiplier wsX7_isLess := goodIn_r _ [25, 26, 27, 5, 28, 29, 30, 31, 32, 33, 34, 35] (by decide +kernel) (by decide +kernel)
set_option maxRecDepth 20000 in
theorem gX7_multiplier_X7_isLess : GoodIn wsX7_multiplier (va_wsS RX7 106 yX7_isLess wsX7_isLess) := goodIn_app (goodIn_of _ (by decide +kernel)) ggX7_multiplier_X7_isLess
theorem dX7_multiplier_0 : decode cX7_multiplier 0 = .ok (.iload_n 1, 1) := by decide +kernel
theorem dX7_multiplier_1 : decode cX7_multiplier 1 = .ok (.invokestatic 130, 3) := by decide +kernel
theorem dX7_multiplier_4 : decode cX7_multiplier 4 = .ok (.ifCond .ne 5, 3) := by decide +kernel
theorem dX7_multiplier_7 : decode cX7_multiplier 7 = .ok (.iconst (-1), 1) := by decide +kernel
theorem dX7_multiplier_8 : decode cX7_multiplier 8 = .ok (.ireturn, 1) := by decide +kernel
theorem dX7_multiplier_9 : decode cX7_multiplier 9 = .ok (.iload_n 2, 1) := by decide +kernel
theorem dX7_multiplier_10 : decode cX7_multiplier 10 = .ok (.iconst 0, 1) := by decide +kernel
theorem dX7_multiplier_11 : decode cX7_multiplier 11 = .ok (.ldc 143, 2) := by decide +kernel
theorem dX7_multiplier_13 : decode cX7_multiplier 13 = .ok (.invokestatic 40, 3) := by decide +kernel
theorem dX7_multiplier_16 : decode cX7_multiplier 16 = .ok (.ifCond .ne 6, 3) := by decide +kernel
theorem dX7_multiplier_19 : decode cX7_multiplier 19 = .ok (.bipush (-2), 2) := by decide +kernel
theorem dX7_multiplier_21 : decode cX7_multiplier 21 = .ok (.ireturn, 1) := by decide +kernel
theorem dX7_multiplier_22 : decode cX7_multiplier 22 = .ok (.aload_n 0, 1) := by decide +kernel
theorem dX7_multiplier_23 : decode cX7_multiplier 23 = .ok (.invokevirtual 52, 3) := by decide +kernel
theorem dX7_multiplier_26 : decode cX7_multiplier 26 = .ok (.aload_n 0, 1) := by decide +kernel
theorem dX7_multiplier_27 : decode cX7_multiplier 27 = .ok (.bipush 68, 2) := by decide +kernel
theorem dX7_multiplier_29 : decode cX7_multiplier 29 = .ok (.iload_n 1, 1) := by decide +kernel
theorem dX7_multiplier_30 : decode cX7_multiplier 30 = .ok (.iadd, 1) := by decide +kernel
theorem dX7_multiplier_31 : decode cX7_multiplier 31 = .ok (.iload_n 2, 1) := by decide +kernel
theorem dX7_multiplier_32 : decode cX7_multiplier 32 = .ok (.invokevirtual 133, 3) := by decide +kernel
theorem dX7_multiplier_35 : decode cX7_multiplier 35 = .ok (.istore_n 3, 1) := by decide +kernel
theorem dX7_multiplier_36 : decode cX7_multiplier 36 = .ok (.aload_n 0, 1) := by decide +kernel
theorem dX7_multiplier_37 : decode cX7_multiplier 37 = .ok (.getfield 7, 3) := by decide +kernel
theorem dX7_multiplier_40 : decode cX7_multiplier 40 = .ok (.invokestatic 106, 3) := by decide +kernel
theorem dX7_multiplier_43 : decode cX7_multiplier 43 = .ok (.pop, 1) := by decide +kernel
theorem dX7_multiplier_44 : decode cX7_multiplier 44 = .ok (.iload_n 3, 1) := by decide +kernel
theorem dX7_multiplier_45 : decode cX7_multiplier 45 = .ok (.ireturn, 1) := by decide +kernel
set_option maxRecDepth 20000 in
theorem ggX7_step_X7_in : GoodIn wsX7_step wsX7_in := goodIn_r _ [4] (by decide +kernel) (by decide +kernel)
set_option maxRecDepth 20000 in
theorem gX7_step_X7_in : GoodIn wsX7_step (va_wsS RX7 40 yX7_in wsX7_in) := goodIn_app (goodIn_of _ (by decide +kernel)) ggX7_step_X7_in
set_option maxRecDepth 20000 in
theorem ggX7_step_X7_records : GoodIn wsX7_step wsX7_records := goodIn_r _ [8, 9, 10, 11, 12, 13, 3, 14, 58, 59, 60, 61, 62, 63, 64, 65, 66, 67, 68] (by decide +kernel) (by decide +kernel)
set_option maxRecDepth 20000 in
theorem gX7_step_X7_records : GoodIn wsX7_step (wsV RX7 52 RX7 yX7_records wsX7_records) := goodIn_app (goodIn_of _ (by decide +kernel)) ggX7_step_X7_records
set_option maxRecDepth 20000 in
theorem ggX7_step_X7_stepsMany : GoodIn wsX7_step wsX7_stepsMany := goodIn_r _ [18, 11, 19, 20, 3, 21, 22, 23, 24, 25, 26, 27, 28, 29, 30, 31, 32, 33, 34, 35, 36, 37, 38, 39, 40, 41, 42, 43, 44, 45, 46, 47, 48, 49, 50, 51, 52, 53, 54, 55, 56, 57, 58, 59, 60, 61, 62, 63, 64, 65, 66, 67, 68] (by decide +kernel) (by decide +kernel)
set_option maxRecDepth 20000 in
theorem gX7_step_X7_stepsMany : GoodIn wsX7_step (wsV RX7 144 RX7 yX7_stepsMany wsX7_stepsMany) := goodIn_app (goodIn_of _ (by decide +kernel)) ggX7_step_X7_stepsMany
theorem dX7_step_0 : decode cX7_step 0 = .ok (.iload_n 1, 1) := by decide +kernel
theorem dX7_step_1 : decode cX7_step 1 = .ok (.iconst 1, 1) := by decide +kernel
theorem dX7_step_2 : decode cX7_step 2 = .ok (.bipush 99, 2) := by decide +kernel
theorem dX7_step_4 : decode cX7_step 4 = .ok (.invokestatic 40, 3) := by decide +kernel
theorem dX7_step_7 : decode cX7_step 7 = .ok (.ifCond .ne 6, 3) := by decide +kernel
theorem dX7_step_10 : decode cX7_step 10 = .ok (.bipush (-2), 2) := by decide +kernel
theorem dX7_step_12 : decode cX7_step 12 = .ok (.ireturn, 1) := by decide +kernel
theorem dX7_step_13 : decode cX7_step 13 = .ok (.aload_n 0, 1) := by decide +kernel
theorem dX7_step_14 : decode cX7_step 14 = .ok (.invokevirtual 52, 3) := by decide +kernel
theorem dX7_step_17 : decode cX7_step 17 = .ok (.aload_n 0, 1) := by decide +kernel
