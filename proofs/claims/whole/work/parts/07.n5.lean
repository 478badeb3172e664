theorem dX7_step_18 : decode cX7_step 18 = .ok (.iload_n 1, 1) := by decide +kernel
theorem dX7_step_19 : decode cX7_step 19 = .ok (.invokevirtual 144, 3) := by decide +kernel
theorem dX7_step_22 : decode cX7_step 22 = .ok (.ireturn, 1) := by decide +kernel
set_option maxRecDepth 20000 in
theorem ggX7_repairsNow_X7_relaxed : GoodIn wsX7_repairsNow wsX7_relaxed := goodIn_r _ [6, 7, 8, 5, 9, 10, 11, 12, 13] (by decide +kernel) (by decide +kernel)
set_option maxRecDepth 20000 in
theorem gX7_repairsNow_X7_relaxed : GoodIn wsX7_repairsNow (va_wsS RX7 77 yX7_relaxed wsX7_relaxed) := goodIn_app (goodIn_of _ (by decide +kernel)) ggX7_repairsNow_X7_relaxed
set_option maxRecDepth 20000 in
theorem ggX7_repairsNow_X7_repairs : GoodIn wsX7_repairsNow wsX7_repairs := goodIn_r _ [16, 17, 18, 5, 19, 20, 21, 22, 11, 12, 13, 23, 24, 25, 26, 27, 28] (by decide +kernel) (by decide +kernel)
set_option maxRecDepth 20000 in
theorem gX7_repairsNow_X7_repairs : GoodIn wsX7_repairsNow (va_wsS RX7 147 yX7_repairs wsX7_repairs) := goodIn_app (goodIn_of _ (by decide +kernel)) ggX7_repairsNow_X7_repairs
set_option maxRecDepth 20000 in
theorem ggX7_repairsNow_X7_sum : GoodIn wsX7_repairsNow wsX7_sum := goodIn_r _ [22, 11, 12, 5, 13] (by decide +kernel) (by decide +kernel)
set_option maxRecDepth 20000 in
theorem gX7_repairsNow_X7_sum : GoodIn wsX7_repairsNow (va_wsS RX7 59 yX7_sum wsX7_sum) := goodIn_app (goodIn_of _ (by decide +kernel)) ggX7_repairsNow_X7_sum
set_option maxRecDepth 20000 in
theorem ggX7_repairsNow_X7_bestWorth : GoodIn wsX7_repairsNow wsX7_bestWorth := goodIn_r _ [31, 2, 20, 21, 5, 22, 11, 12, 13] (by decide +kernel) (by decide +kernel)
set_option maxRecDepth 20000 in
theorem gX7_repairsNow_X7_bestWorth : GoodIn wsX7_repairsNow (va_wsS RX7 90 yX7_bestWorth wsX7_bestWorth) := goodIn_app (goodIn_of _ (by decide +kernel)) ggX7_repairsNow_X7_bestWorth
theorem dX7_repairsNow_0 : decode cX7_repairsNow 0 = .ok (.aload_n 0, 1) := by decide +kernel
theorem dX7_repairsNow_1 : decode cX7_repairsNow 1 = .ok (.getfield 7, 3) := by decide +kernel
theorem dX7_repairsNow_4 : decode cX7_repairsNow 4 = .ok (.aload_n 0, 1) := by decide +kernel
theorem dX7_repairsNow_5 : decode cX7_repairsNow 5 = .ok (.getfield 7, 3) := by decide +kernel
theorem dX7_repairsNow_8 : decode cX7_repairsNow 8 = .ok (.invokestatic 77, 3) := by decide +kernel
theorem dX7_repairsNow_11 : decode cX7_repairsNow 11 = .ok (.invokestatic 147, 3) := by decide +kernel
theorem dX7_repairsNow_14 : decode cX7_repairsNow 14 = .ok (.istore_n 1, 1) := by decide +kernel
theorem dX7_repairsNow_15 : decode cX7_repairsNow 15 = .ok (.aload_n 0, 1) := by decide +kernel
theorem dX7_repairsNow_16 : decode cX7_repairsNow 16 = .ok (.getfield 7, 3) := by decide +kernel
theorem dX7_repairsNow_19 : decode cX7_repairsNow 19 = .ok (.iload_n 1, 1) := by decide +kernel
theorem dX7_repairsNow_20 : decode cX7_repairsNow 20 = .ok (.iconst 0, 1) := by decide +kernel
theorem dX7_repairsNow_21 : decode cX7_repairsNow 21 = .ok (.invokestatic 59, 3) := by decide +kernel
theorem dX7_repairsNow_24 : decode cX7_repairsNow 24 = .ok (.istore_n 2, 1) := by decide +kernel
theorem dX7_repairsNow_25 : decode cX7_repairsNow 25 = .ok (.aload_n 0, 1) := by decide +kernel
theorem dX7_repairsNow_26 : decode cX7_repairsNow 26 = .ok (.getfield 7, 3) := by decide +kernel
theorem dX7_repairsNow_29 : decode cX7_repairsNow 29 = .ok (.bipush 76, 2) := by decide +kernel
theorem dX7_repairsNow_31 : decode cX7_repairsNow 31 = .ok (.aload_n 0, 1) := by decide +kernel
theorem dX7_repairsNow_32 : decode cX7_repairsNow 32 = .ok (.getfield 7, 3) := by decide +kernel
theorem dX7_repairsNow_35 : decode cX7_repairsNow 35 = .ok (.bipush 76, 2) := by decide +kernel
theorem dX7_repairsNow_37 : decode cX7_repairsNow 37 = .ok (.laload, 1) := by decide +kernel
theorem dX7_repairsNow_38 : decode cX7_repairsNow 38 = .ok (.ldc2_w 81, 3) := by decide +kernel
theorem dX7_repairsNow_41 : decode cX7_repairsNow 41 = .ok (.lcmp, 1) := by decide +kernel
theorem dX7_repairsNow_42 : decode cX7_repairsNow 42 = .ok (.ifCond .eq 14, 3) := by decide +kernel
theorem dX7_repairsNow_45 : decode cX7_repairsNow 45 = .ok (.iload_n 2, 1) := by decide +kernel
theorem dX7_repairsNow_46 : decode cX7_repairsNow 46 = .ok (.aload_n 0, 1) := by decide +kernel
theorem dX7_repairsNow_47 : decode cX7_repairsNow 47 = .ok (.getfield 7, 3) := by decide +kernel
theorem dX7_repairsNow_50 : decode cX7_repairsNow 50 = .ok (.invokestatic 90, 3) := by decide +kernel
theorem dX7_repairsNow_53 : decode cX7_repairsNow 53 = .ok (.if_icmp .le 8, 3) := by decide +kernel
theorem dX7_repairsNow_56 : decode cX7_repairsNow 56 = .ok (.iload_n 1, 1) := by decide +kernel
theorem dX7_repairsNow_57 : decode cX7_repairsNow 57 = .ok (.i2l, 1) := by decide +kernel
theorem dX7_repairsNow_58 : decode cX7_repairsNow 58 = .ok (.goto 10, 3) := by decide +kernel
theorem dX7_repairsNow_61 : decode cX7_repairsNow 61 = .ok (.aload_n 0, 1) := by decide +kernel
theorem dX7_repairsNow_62 : decode cX7_repairsNow 62 = .ok (.getfield 7, 3) := by decide +kernel
theorem dX7_repairsNow_65 : decode cX7_repairsNow 65 = .ok (.bipush 76, 2) := by decide +kernel
theorem dX7_repairsNow_67 : decode cX7_repairsNow 67 = .ok (.laload, 1) := by decide +kernel
theorem dX7_repairsNow_68 : decode cX7_repairsNow 68 = .ok (.lastore, 1) := by decide +kernel
theorem dX7_repairsNow_69 : decode cX7_repairsNow 69 = .ok (.iload_n 2, 1) := by decide +kernel
theorem dX7_repairsNow_70 : decode cX7_repairsNow 70 = .ok (.ireturn, 1) := by decide +kernel
set_option maxRecDepth 20000 in
theorem ggX7_repair_X7_records : GoodIn wsX7_repair wsX7_records := goodIn_r _ [5, 6, 7, 8, 9, 10, 4, 11, 45, 46, 47, 48, 49, 50, 51, 52, 53, 54, 55] (by decide +kernel) (by decide +kernel)
set_option maxRecDepth 20000 in
theorem gX7_repair_X7_records : GoodIn wsX7_repair (wsV RX7 52 RX7 yX7_records wsX7_records) := goodIn_app (goodIn_of _ (by decide +kernel)) ggX7_repair_X7_records
set_option maxRecDepth 20000 in
theorem ggX7_repair_X7_repairsNow : GoodIn wsX7_repair wsX7_repairsNow := goodIn_r _ [15, 8, 16, 17, 18, 4, 19, 20, 21, 22, 23, 24, 25, 26, 27, 28, 29, 30, 31, 32, 33, 34, 35, 36, 37, 38, 39, 40, 41, 42, 43, 44, 45, 46, 47, 48, 49, 50, 51, 52, 53, 54, 55] (by decide +kernel) (by decide +kernel)
set_option maxRecDepth 20000 in
theorem gX7_repair_X7_repairsNow : GoodIn wsX7_repair (wsV RX7 150 RX7 yX7_repairsNow wsX7_repairsNow) := goodIn_app (goodIn_of _ (by decide +kernel)) ggX7_repair_X7_repairsNow
theorem dX7_repair_0 : decode cX7_repair 0 = .ok (.aload_n 0, 1) := by decide +kernel
theorem dX7_repair_1 : decode cX7_repair 1 = .ok (.invokevirtual 52, 3) := by decide +kernel
theorem dX7_repair_4 : decode cX7_repair 4 = .ok (.aload_n 0, 1) := by decide +kernel
theorem dX7_repair_5 : decode cX7_repair 5 = .ok (.invokevirtual 150, 3) := by decide +kernel
theorem dX7_repair_8 : decode cX7_repair 8 = .ok (.ireturn, 1) := by decide +kernel
set_option maxRecDepth 20000 in
theorem ggX7_ofTheItem_X7_of : GoodIn wsX7_ofTheItem wsX7_of := goodIn_r _ [7] (by decide +kernel) (by decide +kernel)
set_option maxRecDepth 20000 in
theorem gX7_ofTheItem_X7_of : GoodIn wsX7_ofTheItem (va_wsS RX7 55 yX7_of wsX7_of) := goodIn_app (goodIn_of _ (by decide +kernel)) ggX7_ofTheItem_X7_of
set_option maxRecDepth 20000 in
theorem ggX7_ofTheItem_X7_price : GoodIn wsX7_ofTheItem wsX7_price := goodIn_r _ [10, 11, 4, 5, 6, 7] (by decide +kernel) (by decide +kernel)
set_option maxRecDepth 20000 in
theorem gX7_ofTheItem_X7_price : GoodIn wsX7_ofTheItem (va_wsS RX7 73 yX7_price wsX7_price) := goodIn_app (goodIn_of _ (by decide +kernel)) ggX7_ofTheItem_X7_price
set_option maxRecDepth 20000 in
theorem ggX7_ofTheItem_X7_relaxed : GoodIn wsX7_ofTheItem wsX7_relaxed := goodIn_r _ [14, 8, 9, 6, 10, 11, 4, 5, 7] (by decide +kernel) (by decide +kernel)
set_option maxRecDepth 20000 in
theorem gX7_ofTheItem_X7_relaxed : GoodIn wsX7_ofTheItem (va_wsS RX7 77 yX7_relaxed wsX7_relaxed) := goodIn_app (goodIn_of _ (by decide +kernel)) ggX7_ofTheItem_X7_relaxed
theorem dX7_ofTheItem_0 : decode cX7_ofTheItem 0 = .ok (.iload_n 2, 1) := by decide +kernel
theorem dX7_ofTheItem_1 : decode cX7_ofTheItem 1 = .ok (.iconst 4, 1) := by decide +kernel
theorem dX7_ofTheItem_2 : decode cX7_ofTheItem 2 = .ok (.if_icmp .ge 13, 3) := by decide +kernel
theorem dX7_ofTheItem_5 : decode cX7_ofTheItem 5 = .ok (.aload_n 0, 1) := by decide +kernel
theorem dX7_ofTheItem_6 : decode cX7_ofTheItem 6 = .ok (.getfield 7, 3) := by decide +kernel
theorem dX7_ofTheItem_9 : decode cX7_ofTheItem 9 = .ok (.iload_n 1, 1) := by decide +kernel
theorem dX7_ofTheItem_10 : decode cX7_ofTheItem 10 = .ok (.iload_n 2, 1) := by decide +kernel
theorem dX7_ofTheItem_11 : decode cX7_ofTheItem 11 = .ok (.invokestatic 55, 3) := by decide +kernel
theorem dX7_ofTheItem_14 : decode cX7_ofTheItem 14 = .ok (.ireturn, 1) := by decide +kernel
theorem dX7_ofTheItem_15 : decode cX7_ofTheItem 15 = .ok (.iload_n 2, 1) := by decide +kernel
theorem dX7_ofTheItem_16 : decode cX7_ofTheItem 16 = .ok (.iconst 4, 1) := by decide +kernel
theorem dX7_ofTheItem_17 : decode cX7_ofTheItem 17 = .ok (.if_icmp .ne 16, 3) := by decide +kernel
theorem dX7_ofTheItem_20 : decode cX7_ofTheItem 20 = .ok (.aload_n 0, 1) := by decide +kernel
theorem dX7_ofTheItem_21 : decode cX7_ofTheItem 21 = .ok (.getfield 7, 3) := by decide +kernel
theorem dX7_ofTheItem_24 : decode cX7_ofTheItem 24 = .ok (.iload_n 1, 1) := by decide +kernel
theorem dX7_ofTheItem_25 : decode cX7_ofTheItem 25 = .ok (.invokestatic 73, 3) := by decide +kernel
theorem dX7_ofTheItem_28 : decode cX7_ofTheItem 28 = .ok (.l2i, 1) := by decide +kernel
theorem dX7_ofTheItem_29 : decode cX7_ofTheItem 29 = .ok (.ldc 154, 2) := by decide +kernel
theorem dX7_ofTheItem_31 : decode cX7_ofTheItem 31 = .ok (.iadd, 1) := by decide +kernel
theorem dX7_ofTheItem_32 : decode cX7_ofTheItem 32 = .ok (.ireturn, 1) := by decide +kernel
theorem dX7_ofTheItem_33 : decode cX7_ofTheItem 33 = .ok (.iload_n 2, 1) := by decide +kernel
theorem dX7_ofTheItem_34 : decode cX7_ofTheItem 34 = .ok (.iconst 5, 1) := by decide +kernel
theorem dX7_ofTheItem_35 : decode cX7_ofTheItem 35 = .ok (.if_icmp .ne 17, 3) := by decide +kernel
theorem dX7_ofTheItem_38 : decode cX7_ofTheItem 38 = .ok (.aload_n 0, 1) := by decide +kernel
theorem dX7_ofTheItem_39 : decode cX7_ofTheItem 39 = .ok (.getfield 7, 3) := by decide +kernel
theorem dX7_ofTheItem_42 : decode cX7_ofTheItem 42 = .ok (.invokestatic 77, 3) := by decide +kernel
theorem dX7_ofTheItem_45 : decode cX7_ofTheItem 45 = .ok (.iload_n 1, 1) := by decide +kernel
theorem dX7_ofTheItem_46 : decode cX7_ofTheItem 46 = .ok (.ishr, 1) := by decide +kernel
theorem dX7_ofTheItem_47 : decode cX7_ofTheItem 47 = .ok (.iconst 1, 1) := by decide +kernel
theorem dX7_ofTheItem_48 : decode cX7_ofTheItem 48 = .ok (.iand, 1) := by decide +kernel
theorem dX7_ofTheItem_49 : decode cX7_ofTheItem 49 = .ok (.goto 33, 3) := by decide +kernel
theorem dX7_ofTheItem_52 : decode cX7_ofTheItem 52 = .ok (.aload_n 0, 1) := by decide +kernel
theorem dX7_ofTheItem_53 : decode cX7_ofTheItem 53 = .ok (.getfield 7, 3) := by decide +kernel
theorem dX7_ofTheItem_56 : decode cX7_ofTheItem 56 = .ok (.bipush 76, 2) := by decide +kernel
theorem dX7_ofTheItem_58 : decode cX7_ofTheItem 58 = .ok (.laload, 1) := by decide +kernel
theorem dX7_ofTheItem_59 : decode cX7_ofTheItem 59 = .ok (.ldc2_w 81, 3) := by decide +kernel
theorem dX7_ofTheItem_62 : decode cX7_ofTheItem 62 = .ok (.lcmp, 1) := by decide +kernel
theorem dX7_ofTheItem_63 : decode cX7_ofTheItem 63 = .ok (.ifCond .ne 7, 3) := by decide +kernel
theorem dX7_ofTheItem_66 : decode cX7_ofTheItem 66 = .ok (.iconst 0, 1) := by decide +kernel
theorem dX7_ofTheItem_67 : decode cX7_ofTheItem 67 = .ok (.goto 15, 3) := by decide +kernel
theorem dX7_ofTheItem_70 : decode cX7_ofTheItem 70 = .ok (.aload_n 0, 1) := by decide +kernel
theorem dX7_ofTheItem_71 : decode cX7_ofTheItem 71 = .ok (.getfield 7, 3) := by decide +kernel
theorem dX7_ofTheItem_74 : decode cX7_ofTheItem 74 = .ok (.bipush 76, 2) := by decide +kernel
theorem dX7_ofTheItem_76 : decode cX7_ofTheItem 76 = .ok (.laload, 1) := by decide +kernel
theorem dX7_ofTheItem_77 : decode cX7_ofTheItem 77 = .ok (.l2i, 1) := by decide +kernel
theorem dX7_ofTheItem_78 : decode cX7_ofTheItem 78 = .ok (.iload_n 1, 1) := by decide +kernel
theorem dX7_ofTheItem_79 : decode cX7_ofTheItem 79 = .ok (.ishr, 1) := by decide +kernel
theorem dX7_ofTheItem_80 : decode cX7_ofTheItem 80 = .ok (.iconst 1, 1) := by decide +kernel
theorem dX7_ofTheItem_81 : decode cX7_ofTheItem 81 = .ok (.iand, 1) := by decide +kernel
theorem dX7_ofTheItem_82 : decode cX7_ofTheItem 82 = .ok (.ireturn, 1) := by decide +kernel
set_option maxRecDepth 20000 in
theorem ggX7_ofItem_X7_isItem : GoodIn wsX7_ofItem wsX7_isItem := goodIn_r _ [5, 6, 7, 8, 4, 9, 26, 27, 28, 29, 30, 31, 32, 33, 34, 35, 36] (by decide +kernel) (by decide +kernel)
set_option maxRecDepth 20000 in
theorem gX7_ofItem_X7_isItem : GoodIn wsX7_ofItem (wsV RX7 122 RX7 yX7_isItem wsX7_isItem) := goodIn_app (goodIn_of _ (by decide +kernel)) ggX7_ofItem_X7_isItem
set_option maxRecDepth 20000 in
theorem ggX7_ofItem_X7_in : GoodIn wsX7_ofItem wsX7_in := goodIn_r _ [9] (by decide +kernel) (by decide +kernel)
set_option maxRecDepth 20000 in
theorem gX7_ofItem_X7_in : GoodIn wsX7_ofItem (va_wsS RX7 40 yX7_in wsX7_in) := goodIn_app (goodIn_of _ (by decide +kernel)) ggX7_ofItem_X7_in
set_option maxRecDepth 20000 in
theorem ggX7_ofItem_X7_ofTheItem : GoodIn wsX7_ofItem wsX7_ofTheItem := goodIn_r _ [13, 6, 14, 15, 16, 17, 4, 18, 19, 20, 21, 22, 23, 24, 25, 26, 27, 28, 29, 30, 31, 32, 33, 34, 35, 36] (by decide +kernel) (by decide +kernel)
set_option maxRecDepth 20000 in
theorem gX7_ofItem_X7_ofTheItem : GoodIn wsX7_ofItem (wsV RX7 155 RX7 yX7_ofTheItem wsX7_ofTheItem) := goodIn_app (goodIn_of _ (by decide +kernel)) ggX7_ofItem_X7_ofTheItem
theorem dX7_ofItem_0 : decode cX7_ofItem 0 = .ok (.aload_n 0, 1) := by decide +kernel
theorem dX7_ofItem_1 : decode cX7_ofItem 1 = .ok (.iload_n 1, 1) := by decide +kernel
theorem dX7_ofItem_2 : decode cX7_ofItem 2 = .ok (.invokevirtual 122, 3) := by decide +kernel
theorem dX7_ofItem_5 : decode cX7_ofItem 5 = .ok (.ifCond .ne 5, 3) := by decide +kernel
theorem dX7_ofItem_8 : decode cX7_ofItem 8 = .ok (.iconst (-1), 1) := by decide +kernel
theorem dX7_ofItem_9 : decode cX7_ofItem 9 = .ok (.ireturn, 1) := by decide +kernel
theorem dX7_ofItem_10 : decode cX7_ofItem 10 = .ok (.iload_n 2, 1) := by decide +kernel
theorem dX7_ofItem_11 : decode cX7_ofItem 11 = .ok (.iconst 0, 1) := by decide +kernel
theorem dX7_ofItem_12 : decode cX7_ofItem 12 = .ok (.bipush 6, 2) := by decide +kernel
theorem dX7_ofItem_14 : decode cX7_ofItem 14 = .ok (.invokestatic 40, 3) := by decide +kernel
theorem dX7_ofItem_17 : decode cX7_ofItem 17 = .ok (.ifCond .eq 12, 3) := by decide +kernel
theorem dX7_ofItem_20 : decode cX7_ofItem 20 = .ok (.aload_n 0, 1) := by decide +kernel
theorem dX7_ofItem_21 : decode cX7_ofItem 21 = .ok (.iload_n 1, 1) := by decide +kernel
theorem dX7_ofItem_22 : decode cX7_ofItem 22 = .ok (.iload_n 2, 1) := by decide +kernel
theorem dX7_ofItem_23 : decode cX7_ofItem 23 = .ok (.invokevirtual 155, 3) := by decide +kernel
theorem dX7_ofItem_26 : decode cX7_ofItem 26 = .ok (.goto 5, 3) := by decide +kernel
theorem dX7_ofItem_29 : decode cX7_ofItem 29 = .ok (.bipush (-2), 2) := by decide +kernel
theorem dX7_ofItem_31 : decode cX7_ofItem 31 = .ok (.ireturn, 1) := by decide +kernel
set_option maxRecDepth 20000 in
theorem ggX7_ofDimension_X7_isWay : GoodIn wsX7_ofDimension wsX7_isWay := goodIn_r _ [6, 7, 8, 5, 9] (by decide +kernel) (by decide +kernel)
set_option maxRecDepth 20000 in
theorem gX7_ofDimension_X7_isWay : GoodIn wsX7_ofDimension (va_wsS RX7 130 yX7_isWay wsX7_isWay) := goodIn_app (goodIn_of _ (by decide +kernel)) ggX7_ofDimension_X7_isWay
set_option maxRecDepth 20000 in
theorem ggX7_ofDimension_X7_in : GoodIn wsX7_ofDimension wsX7_in := goodIn_r _ [9] (by decide +kernel) (by decide +kernel)
set_option maxRecDepth 20000 in
theorem gX7_ofDimension_X7_in : GoodIn wsX7_ofDimension (va_wsS RX7 40 yX7_in wsX7_in) := goodIn_app (goodIn_of _ (by decide +kernel)) ggX7_ofDimension_X7_in
set_option maxRecDepth 20000 in
theorem ggX7_ofDimension_X7_slope : GoodIn wsX7_ofDimension wsX7_slope := goodIn_r _ [12, 13, 14, 5, 15, 16, 17, 18, 19, 20, 21, 22, 23, 24, 25] (by decide +kernel) (by decide +kernel)
set_option maxRecDepth 20000 in
theorem gX7_ofDimension_X7_slope : GoodIn wsX7_ofDimension (va_wsS RX7 87 yX7_slope wsX7_slope) := goodIn_app (goodIn_of _ (by decide +kernel)) ggX7_ofDimension_X7_slope
set_option maxRecDepth 20000 in
theorem ggX7_ofDimension_X7_sum : GoodIn wsX7_ofDimension wsX7_sum := goodIn_r _ [25, 20, 21, 5, 22] (by decide +kernel) (by decide +kernel)
set_option maxRecDepth 20000 in
theorem gX7_ofDimension_X7_sum : GoodIn wsX7_ofDimension (va_wsS RX7 59 yX7_sum wsX7_sum) := goodIn_app (goodIn_of _ (by decide +kernel)) ggX7_ofDimension_X7_sum
theorem dX7_ofDimension_0 : decode cX7_ofDimension 0 = .ok (.iload_n 1, 1) := by decide +kernel
theorem dX7_ofDimension_1 : decode cX7_ofDimension 1 = .ok (.invokestatic 130, 3) := by decide +kernel
theorem dX7_ofDimension_4 : decode cX7_ofDimension 4 = .ok (.ifCond .ne 5, 3) := by decide +kernel
theorem dX7_ofDimension_7 : decode cX7_ofDimension 7 = .ok (.iconst (-1), 1) := by decide +kernel
theorem dX7_ofDimension_8 : decode cX7_ofDimension 8 = .ok (.ireturn, 1) := by decide +kernel
theorem dX7_ofDimension_9 : decode cX7_ofDimension 9 = .ok (.iload_n 2, 1) := by decide +kernel
theorem dX7_ofDimension_10 : decode cX7_ofDimension 10 = .ok (.iconst 0, 1) := by decide +kernel
theorem dX7_ofDimension_11 : decode cX7_ofDimension 11 = .ok (.iconst 4, 1) := by decide +kernel
theorem dX7_ofDimension_12 : decode cX7_ofDimension 12 = .ok (.invokestatic 40, 3) := by decide +kernel
theorem dX7_ofDimension_15 : decode cX7_ofDimension 15 = .ok (.ifCond .ne 6, 3) := by decide +kernel
theorem dX7_ofDimension_18 : decode cX7_ofDimension 18 = .ok (.bipush (-2), 2) := by decide +kernel
theorem dX7_ofDimension_20 : decode cX7_ofDimension 20 = .ok (.ireturn, 1) := by decide +kernel
theorem dX7_ofDimension_21 : decode cX7_ofDimension 21 = .ok (.iload_n 2, 1) := by decide +kernel
theorem dX7_ofDimension_22 : decode cX7_ofDimension 22 = .ok (.iconst 3, 1) := by decide +kernel
theorem dX7_ofDimension_23 : decode cX7_ofDimension 23 = .ok (.if_icmp .ge 51, 3) := by decide +kernel
theorem dX7_ofDimension_26 : decode cX7_ofDimension 26 = .ok (.iload_n 2, 1) := by decide +kernel
theorem dX7_ofDimension_27 : decode cX7_ofDimension 27 = .ok (.ifCond .ne 16, 3) := by decide +kernel
theorem dX7_ofDimension_30 : decode cX7_ofDimension 30 = .ok (.aload_n 0, 1) := by decide +kernel
theorem dX7_ofDimension_31 : decode cX7_ofDimension 31 = .ok (.getfield 7, 3) := by decide +kernel
theorem dX7_ofDimension_34 : decode cX7_ofDimension 34 = .ok (.bipush 65, 2) := by decide +kernel
theorem dX7_ofDimension_36 : decode cX7_ofDimension 36 = .ok (.iload_n 1, 1) := by decide +kernel
theorem dX7_ofDimension_37 : decode cX7_ofDimension 37 = .ok (.iadd, 1) := by decide +kernel
theorem dX7_ofDimension_38 : decode cX7_ofDimension 38 = .ok (.laload, 1) := by decide +kernel
theorem dX7_ofDimension_39 : decode cX7_ofDimension 39 = .ok (.l2i, 1) := by decide +kernel
theorem dX7_ofDimension_40 : decode cX7_ofDimension 40 = .ok (.goto 33, 3) := by decide +kernel
theorem dX7_ofDimension_43 : decode cX7_ofDimension 43 = .ok (.iload_n 2, 1) := by decide +kernel
theorem dX7_ofDimension_44 : decode cX7_ofDimension 44 = .ok (.iconst 1, 1) := by decide +kernel
theorem dX7_ofDimension_45 : decode cX7_ofDimension 45 = .ok (.if_icmp .ne 16, 3) := by decide +kernel
theorem dX7_ofDimension_48 : decode cX7_ofDimension 48 = .ok (.aload_n 0, 1) := by decide +kernel
theorem dX7_ofDimension_49 : decode cX7_ofDimension 49 = .ok (.getfield 7, 3) := by decide +kernel
theorem dX7_ofDimension_52 : decode cX7_ofDimension 52 = .ok (.bipush 68, 2) := by decide +kernel
theorem dX7_ofDimension_54 : decode cX7_ofDimension 54 = .ok (.iload_n 1, 1) := by decide +kernel
theorem dX7_ofDimension_55 : decode cX7_ofDimension 55 = .ok (.iadd, 1) := by decide +kernel
theorem dX7_ofDimension_56 : decode cX7_ofDimension 56 = .ok (.laload, 1) := by decide +kernel
theorem dX7_ofDimension_57 : decode cX7_ofDimension 57 = .ok (.l2i, 1) := by decide +kernel
theorem dX7_ofDimension_58 : decode cX7_ofDimension 58 = .ok (.goto 15, 3) := by decide +kernel
theorem dX7_ofDimension_61 : decode cX7_ofDimension 61 = .ok (.aload_n 0, 1) := by decide +kernel
theorem dX7_ofDimension_62 : decode cX7_ofDimension 62 = .ok (.getfield 7, 3) := by decide +kernel
theorem dX7_ofDimension_65 : decode cX7_ofDimension 65 = .ok (.iload_n 1, 1) := by decide +kernel
theorem dX7_ofDimension_66 : decode cX7_ofDimension 66 = .ok (.invokestatic 87, 3) := by decide +kernel
theorem dX7_ofDimension_69 : decode cX7_ofDimension 69 = .ok (.sipush 10000, 3) := by decide +kernel
theorem dX7_ofDimension_72 : decode cX7_ofDimension 72 = .ok (.iadd, 1) := by decide +kernel
theorem dX7_ofDimension_73 : decode cX7_ofDimension 73 = .ok (.ireturn, 1) := by decide +kernel
theorem dX7_ofDimension_74 : decode cX7_ofDimension 74 = .ok (.aload_n 0, 1) := by decide +kernel
theorem dX7_ofDimension_75 : decode cX7_ofDimension 75 = .ok (.getfield 7, 3) := by decide +kernel
theorem dX7_ofDimension_78 : decode cX7_ofDimension 78 = .ok (.bipush 76, 2) := by decide +kernel
theorem dX7_ofDimension_80 : decode cX7_ofDimension 80 = .ok (.laload, 1) := by decide +kernel
theorem dX7_ofDimension_81 : decode cX7_ofDimension 81 = .ok (.ldc2_w 81, 3) := by decide +kernel
theorem dX7_ofDimension_84 : decode cX7_ofDimension 84 = .ok (.lcmp, 1) := by decide +kernel
theorem dX7_ofDimension_85 : decode cX7_ofDimension 85 = .ok (.ifCond .ne 6, 3) := by decide +kernel
theorem dX7_ofDimension_88 : decode cX7_ofDimension 88 = .ok (.bipush (-6), 2) := by decide +kernel
theorem dX7_ofDimension_90 : decode cX7_ofDimension 90 = .ok (.ireturn, 1) := by decide +kernel
theorem dX7_ofDimension_91 : decode cX7_ofDimension 91 = .ok (.aload_n 0, 1) := by decide +kernel
theorem dX7_ofDimension_92 : decode cX7_ofDimension 92 = .ok (.getfield 7, 3) := by decide +kernel
theorem dX7_ofDimension_95 : decode cX7_ofDimension 95 = .ok (.aload_n 0, 1) := by decide +kernel
theorem dX7_ofDimension_96 : decode cX7_ofDimension 96 = .ok (.getfield 7, 3) := by decide +kernel
theorem dX7_ofDimension_99 : decode cX7_ofDimension 99 = .ok (.bipush 76, 2) := by decide +kernel
theorem dX7_ofDimension_101 : decode cX7_ofDimension 101 = .ok (.laload, 1) := by decide +kernel
theorem dX7_ofDimension_102 : decode cX7_ofDimension 102 = .ok (.l2i, 1) := by decide +kernel
theorem dX7_ofDimension_103 : decode cX7_ofDimension 103 = .ok (.iconst 1, 1) := by decide +kernel
theorem dX7_ofDimension_104 : decode cX7_ofDimension 104 = .ok (.iload_n 1, 1) := by decide +kernel
theorem dX7_ofDimension_105 : decode cX7_ofDimension 105 = .ok (.iadd, 1) := by decide +kernel
theorem dX7_ofDimension_106 : decode cX7_ofDimension 106 = .ok (.invokestatic 59, 3) := by decide +kernel
theorem dX7_ofDimension_109 : decode cX7_ofDimension 109 = .ok (.istore_n 3, 1) := by decide +kernel
theorem dX7_ofDimension_110 : decode cX7_ofDimension 110 = .ok (.iload_n 2, 1) := by decide +kernel
theorem dX7_ofDimension_111 : decode cX7_ofDimension 111 = .ok (.iconst 3, 1) := by decide +kernel
theorem dX7_ofDimension_112 : decode cX7_ofDimension 112 = .ok (.if_icmp .ne 7, 3) := by decide +kernel
theorem dX7_ofDimension_115 : decode cX7_ofDimension 115 = .ok (.iload_n 3, 1) := by decide +kernel
theorem dX7_ofDimension_116 : decode cX7_ofDimension 116 = .ok (.goto 23, 3) := by decide +kernel
theorem dX7_ofDimension_119 : decode cX7_ofDimension 119 = .ok (.iload_n 3, 1) := by decide +kernel
theorem dX7_ofDimension_120 : decode cX7_ofDimension 120 = .ok (.i2l, 1) := by decide +kernel
theorem dX7_ofDimension_121 : decode cX7_ofDimension 121 = .ok (.aload_n 0, 1) := by decide +kernel
theorem dX7_ofDimension_122 : decode cX7_ofDimension 122 = .ok (.getfield 7, 3) := by decide +kernel
theorem dX7_ofDimension_125 : decode cX7_ofDimension 125 = .ok (.bipush 65, 2) := by decide +kernel
theorem dX7_ofDimension_127 : decode cX7_ofDimension 127 = .ok (.iload_n 1, 1) := by decide +kernel
theorem dX7_ofDimension_128 : decode cX7_ofDimension 128 = .ok (.iadd, 1) := by decide +kernel
theorem dX7_ofDimension_129 : decode cX7_ofDimension 129 = .ok (.laload, 1) := by decide +kernel
theorem dX7_ofDimension_130 : decode cX7_ofDimension 130 = .ok (.lcmp, 1) := by decide +kernel
theorem dX7_ofDimension_131 : decode cX7_ofDimension 131 = .ok (.ifCond .ne 7, 3) := by decide +kernel
theorem dX7_ofDimension_134 : decode cX7_ofDimension 134 = .ok (.iconst 1, 1) := by decide +kernel
theorem dX7_ofDimension_135 : decode cX7_ofDimension 135 = .ok (.goto 4, 3) := by decide +kernel
theorem dX7_ofDimension_138 : decode cX7_ofDimension 138 = .ok (.iconst 0, 1) := by decide +kernel
theorem dX7_ofDimension_139 : decode cX7_ofDimension 139 = .ok (.ireturn, 1) := by decide +kernel
set_option maxRecDepth 20000 in
theorem ggX7_bundle_X7_in : GoodIn wsX7_bundle wsX7_in := goodIn_r _ [5] (by decide +kernel) (by decide +kernel)
set_option maxRecDepth 20000 in
theorem gX7_bundle_X7_in : GoodIn wsX7_bundle (va_wsS RX7 40 yX7_in wsX7_in) := goodIn_app (goodIn_of _ (by decide +kernel)) ggX7_bundle_X7_in
theorem dX7_bundle_0 : decode cX7_bundle 0 = .ok (.iload_n 1, 1) := by decide +kernel
theorem dX7_bundle_1 : decode cX7_bundle 1 = .ok (.iconst 0, 1) := by decide +kernel
theorem dX7_bundle_2 : decode cX7_bundle 2 = .ok (.aload_n 0, 1) := by decide +kernel
theorem dX7_bundle_3 : decode cX7_bundle 3 = .ok (.getfield 7, 3) := by decide +kernel
theorem dX7_bundle_6 : decode cX7_bundle 6 = .ok (.bipush 77, 2) := by decide +kernel
theorem dX7_bundle_8 : decode cX7_bundle 8 = .ok (.laload, 1) := by decide +kernel
theorem dX7_bundle_9 : decode cX7_bundle 9 = .ok (.l2i, 1) := by decide +kernel
theorem dX7_bundle_10 : decode cX7_bundle 10 = .ok (.iconst 1, 1) := by decide +kernel
theorem dX7_bundle_11 : decode cX7_bundle 11 = .ok (.isub, 1) := by decide +kernel
theorem dX7_bundle_12 : decode cX7_bundle 12 = .ok (.invokestatic 40, 3) := by decide +kernel
theorem dX7_bundle_15 : decode cX7_bundle 15 = .ok (.ifCond .eq 16, 3) := by decide +kernel
theorem dX7_bundle_18 : decode cX7_bundle 18 = .ok (.aload_n 0, 1) := by decide +kernel
theorem dX7_bundle_19 : decode cX7_bundle 19 = .ok (.getfield 7, 3) := by decide +kernel
theorem dX7_bundle_22 : decode cX7_bundle 22 = .ok (.bipush 78, 2) := by decide +kernel
theorem dX7_bundle_24 : decode cX7_bundle 24 = .ok (.iload_n 1, 1) := by decide +kernel
theorem dX7_bundle_25 : decode cX7_bundle 25 = .ok (.iadd, 1) := by decide +kernel
theorem dX7_bundle_26 : decode cX7_bundle 26 = .ok (.laload, 1) := by decide +kernel
theorem dX7_bundle_27 : decode cX7_bundle 27 = .ok (.l2i, 1) := by decide +kernel
theorem dX7_bundle_28 : decode cX7_bundle 28 = .ok (.goto 4, 3) := by decide +kernel
theorem dX7_bundle_31 : decode cX7_bundle 31 = .ok (.iconst (-1), 1) := by decide +kernel
theorem dX7_bundle_32 : decode cX7_bundle 32 = .ok (.ireturn, 1) := by decide +kernel
set_option maxRecDepth 20000 in
theorem ggX7_count_X7_in : GoodIn wsX7_count wsX7_in := goodIn_r _ [8] (by decide +kernel) (by decide +kernel)
set_option maxRecDepth 20000 in
theorem gX7_count_X7_in : GoodIn wsX7_count (va_wsS RX7 40 yX7_in wsX7_in) := goodIn_app (goodIn_of _ (by decide +kernel)) ggX7_count_X7_in
set_option maxRecDepth 20000 in
theorem ggX7_count_X7_relaxed : GoodIn wsX7_count wsX7_relaxed := goodIn_r _ [11, 12, 13, 7, 14, 15, 16, 17, 18] (by decide +kernel) (by decide +kernel)
set_option maxRecDepth 20000 in
theorem gX7_count_X7_relaxed : GoodIn wsX7_count (va_wsS RX7 77 yX7_relaxed wsX7_relaxed) := goodIn_app (goodIn_of _ (by decide +kernel)) ggX7_count_X7_relaxed
set_option maxRecDepth 20000 in
theorem ggX7_count_X7_bestWorth : GoodIn wsX7_count wsX7_bestWorth := goodIn_r _ [21, 2, 22, 23, 7, 24, 16, 17, 18] (by decide +kernel) (by decide +kernel)
set_option maxRecDepth 20000 in
theorem gX7_count_X7_bestWorth : GoodIn wsX7_count (va_wsS RX7 90 yX7_bestWorth wsX7_bestWorth) := goodIn_app (goodIn_of _ (by decide +kernel)) ggX7_count_X7_bestWorth
theorem dX7_count_0 : decode cX7_count 0 = .ok (.iload_n 1, 1) := by decide +kernel
theorem dX7_count_1 : decode cX7_count 1 = .ok (.iconst 0, 1) := by decide +kernel
theorem dX7_count_2 : decode cX7_count 2 = .ok (.bipush 10, 2) := by decide +kernel
theorem dX7_count_4 : decode cX7_count 4 = .ok (.invokestatic 40, 3) := by decide +kernel
theorem dX7_count_7 : decode cX7_count 7 = .ok (.ifCond .ne 6, 3) := by decide +kernel
theorem dX7_count_10 : decode cX7_count 10 = .ok (.bipush (-2), 2) := by decide +kernel
theorem dX7_count_12 : decode cX7_count 12 = .ok (.ireturn, 1) := by decide +kernel
theorem dX7_count_13 : decode cX7_count 13 = .ok (.iload_n 1, 1) := by decide +kernel
theorem dX7_count_14 : decode cX7_count 14 = .ok (.iconst 3, 1) := by decide +kernel
theorem dX7_count_15 : decode cX7_count 15 = .ok (.if_icmp .ge 30, 3) := by decide +kernel
theorem dX7_count_18 : decode cX7_count 18 = .ok (.aload_n 0, 1) := by decide +kernel
theorem dX7_count_19 : decode cX7_count 19 = .ok (.getfield 7, 3) := by decide +kernel
theorem dX7_count_22 : decode cX7_count 22 = .ok (.iload_n 1, 1) := by decide +kernel
theorem dX7_count_23 : decode cX7_count 23 = .ok (.ifCond .ne 7, 3) := by decide +kernel
theorem dX7_count_26 : decode cX7_count 26 = .ok (.iconst 0, 1) := by decide +kernel
theorem dX7_count_27 : decode cX7_count 27 = .ok (.goto 15, 3) := by decide +kernel
theorem dX7_count_30 : decode cX7_count 30 = .ok (.iload_n 1, 1) := by decide +kernel
theorem dX7_count_31 : decode cX7_count 31 = .ok (.iconst 1, 1) := by decide +kernel
theorem dX7_count_32 : decode cX7_count 32 = .ok (.if_icmp .ne 8, 3) := by decide +kernel
theorem dX7_count_35 : decode cX7_count 35 = .ok (.bipush 71, 2) := by decide +kernel
theorem dX7_count_37 : decode cX7_count 37 = .ok (.goto 5, 3) := by decide +kernel
theorem dX7_count_40 : decode cX7_count 40 = .ok (.bipush 72, 2) := by decide +kernel
theorem dX7_count_42 : decode cX7_count 42 = .ok (.laload, 1) := by decide +kernel
theorem dX7_count_43 : decode cX7_count 43 = .ok (.l2i, 1) := by decide +kernel
theorem dX7_count_44 : decode cX7_count 44 = .ok (.ireturn, 1) := by decide +kernel
theorem dX7_count_45 : decode cX7_count 45 = .ok (.iload_n 1, 1) := by decide +kernel
theorem dX7_count_46 : decode cX7_count 46 = .ok (.bipush 6, 2) := by decide +kernel
theorem dX7_count_48 : decode cX7_count 48 = .ok (.if_icmp .ge 56, 3) := by decide +kernel
theorem dX7_count_51 : decode cX7_count 51 = .ok (.iload_n 1, 1) := by decide +kernel
theorem dX7_count_52 : decode cX7_count 52 = .ok (.iconst 3, 1) := by decide +kernel
theorem dX7_count_53 : decode cX7_count 53 = .ok (.if_icmp .ne 13, 3) := by decide +kernel
theorem dX7_count_56 : decode cX7_count 56 = .ok (.aload_n 0, 1) := by decide +kernel
theorem dX7_count_57 : decode cX7_count 57 = .ok (.getfield 7, 3) := by decide +kernel
theorem dX7_count_60 : decode cX7_count 60 = .ok (.invokestatic 77, 3) := by decide +kernel
theorem dX7_count_63 : decode cX7_count 63 = .ok (.goto 40, 3) := by decide +kernel
theorem dX7_count_66 : decode cX7_count 66 = .ok (.iload_n 1, 1) := by decide +kernel
theorem dX7_count_67 : decode cX7_count 67 = .ok (.iconst 4, 1) := by decide +kernel
theorem dX7_count_68 : decode cX7_count 68 = .ok (.if_icmp .eq 17, 3) := by decide +kernel
theorem dX7_count_71 : decode cX7_count 71 = .ok (.aload_n 0, 1) := by decide +kernel
theorem dX7_count_72 : decode cX7_count 72 = .ok (.getfield 7, 3) := by decide +kernel
theorem dX7_count_75 : decode cX7_count 75 = .ok (.bipush 76, 2) := by decide +kernel
theorem dX7_count_77 : decode cX7_count 77 = .ok (.laload, 1) := by decide +kernel
theorem dX7_count_78 : decode cX7_count 78 = .ok (.ldc2_w 81, 3) := by decide +kernel
theorem dX7_count_81 : decode cX7_count 81 = .ok (.lcmp, 1) := by decide +kernel
theorem dX7_count_82 : decode cX7_count 82 = .ok (.ifCond .ne 14, 3) := by decide +kernel
theorem dX7_count_85 : decode cX7_count 85 = .ok (.aload_n 0, 1) := by decide +kernel
theorem dX7_count_86 : decode cX7_count 86 = .ok (.getfield 7, 3) := by decide +kernel
theorem dX7_count_89 : decode cX7_count 89 = .ok (.bipush 76, 2) := by decide +kernel
theorem dX7_count_91 : decode cX7_count 91 = .ok (.laload, 1) := by decide +kernel
theorem dX7_count_92 : decode cX7_count 92 = .ok (.l2i, 1) := by decide +kernel
theorem dX7_count_93 : decode cX7_count 93 = .ok (.goto 10, 3) := by decide +kernel
theorem dX7_count_96 : decode cX7_count 96 = .ok (.aload_n 0, 1) := by decide +kernel
theorem dX7_count_97 : decode cX7_count 97 = .ok (.getfield 7, 3) := by decide +kernel
theorem dX7_count_100 : decode cX7_count 100 = .ok (.invokestatic 90, 3) := by decide +kernel
theorem dX7_count_103 : decode cX7_count 103 = .ok (.ireturn, 1) := by decide +kernel
theorem dX7_count_104 : decode cX7_count 104 = .ok (.iload_n 1, 1) := by decide +kernel
theorem dX7_count_105 : decode cX7_count 105 = .ok (.bipush 9, 2) := by decide +kernel
theorem dX7_count_107 : decode cX7_count 107 = .ok (.if_icmp .ne 10, 3) := by decide +kernel
theorem dX7_count_110 : decode cX7_count 110 = .ok (.aload_n 0, 1) := by decide +kernel
theorem dX7_count_111 : decode cX7_count 111 = .ok (.getfield 158, 3) := by decide +kernel
theorem dX7_count_114 : decode cX7_count 114 = .ok (.goto 46, 3) := by decide +kernel
theorem dX7_count_117 : decode cX7_count 117 = .ok (.iload_n 1, 1) := by decide +kernel
theorem dX7_count_118 : decode cX7_count 118 = .ok (.bipush 10, 2) := by decide +kernel
theorem dX7_count_120 : decode cX7_count 120 = .ok (.if_icmp .ne 10, 3) := by decide +kernel
theorem dX7_count_123 : decode cX7_count 123 = .ok (.aload_n 0, 1) := by decide +kernel
theorem dX7_count_124 : decode cX7_count 124 = .ok (.getfield 44, 3) := by decide +kernel
theorem dX7_count_127 : decode cX7_count 127 = .ok (.goto 33, 3) := by decide +kernel
theorem dX7_count_130 : decode cX7_count 130 = .ok (.aload_n 0, 1) := by decide +kernel
theorem dX7_count_131 : decode cX7_count 131 = .ok (.getfield 7, 3) := by decide +kernel
theorem dX7_count_134 : decode cX7_count 134 = .ok (.iload_n 1, 1) := by decide +kernel
theorem dX7_count_135 : decode cX7_count 135 = .ok (.bipush 6, 2) := by decide +kernel
theorem dX7_count_137 : decode cX7_count 137 = .ok (.if_icmp .ne 8, 3) := by decide +kernel
theorem dX7_count_140 : decode cX7_count 140 = .ok (.bipush 77, 2) := by decide +kernel
theorem dX7_count_142 : decode cX7_count 142 = .ok (.goto 16, 3) := by decide +kernel
theorem dX7_count_145 : decode cX7_count 145 = .ok (.iload_n 1, 1) := by decide +kernel
theorem dX7_count_146 : decode cX7_count 146 = .ok (.bipush 7, 2) := by decide +kernel
theorem dX7_count_148 : decode cX7_count 148 = .ok (.if_icmp .ne 8, 3) := by decide +kernel
theorem dX7_count_151 : decode cX7_count 151 = .ok (.bipush 73, 2) := by decide +kernel
theorem dX7_count_153 : decode cX7_count 153 = .ok (.goto 5, 3) := by decide +kernel
theorem dX7_count_156 : decode cX7_count 156 = .ok (.bipush 74, 2) := by decide +kernel
theorem dX7_count_158 : decode cX7_count 158 = .ok (.laload, 1) := by decide +kernel
theorem dX7_count_159 : decode cX7_count 159 = .ok (.l2i, 1) := by decide +kernel
theorem dX7_count_160 : decode cX7_count 160 = .ok (.ireturn, 1) := by decide +kernel
set_option maxRecDepth 20000 in
theorem ggX7_bound_X7_in : GoodIn wsX7_bound wsX7_in := goodIn_r _ [7] (by decide +kernel) (by decide +kernel)
set_option maxRecDepth 20000 in
theorem gX7_bound_X7_in : GoodIn wsX7_bound (va_wsS RX7 40 yX7_in wsX7_in) := goodIn_app (goodIn_of _ (by decide +kernel)) ggX7_bound_X7_in
set_option maxRecDepth 20000 in
theorem ggX7_bound_X7_boundOf : GoodIn wsX7_bound wsX7_boundOf := goodIn_r _ [10, 11, 12, 6, 13, 3, 14, 15, 16] (by decide +kernel) (by decide +kernel)
set_option maxRecDepth 20000 in
theorem gX7_bound_X7_boundOf : GoodIn wsX7_bound (va_wsS RX7 83 yX7_boundOf wsX7_boundOf) := goodIn_app (goodIn_of _ (by decide +kernel)) ggX7_bound_X7_boundOf
set_option maxRecDepth 20000 in
theorem ggX7_bound_X7_bestWorth : GoodIn wsX7_bound wsX7_bestWorth := goodIn_r _ [19, 20, 21, 22, 6, 23, 14, 15, 16] (by decide +kernel) (by decide +kernel)
set_option maxRecDepth 20000 in
theorem gX7_bound_X7_bestWorth : GoodIn wsX7_bound (va_wsS RX7 90 yX7_bestWorth wsX7_bestWorth) := goodIn_app (goodIn_of _ (by decide +kernel)) ggX7_bound_X7_bestWorth
theorem dX7_bound_0 : decode cX7_bound 0 = .ok (.iload_n 1, 1) := by decide +kernel
theorem dX7_bound_1 : decode cX7_bound 1 = .ok (.iconst 0, 1) := by decide +kernel
theorem dX7_bound_2 : decode cX7_bound 2 = .ok (.iconst 2, 1) := by decide +kernel
theorem dX7_bound_3 : decode cX7_bound 3 = .ok (.invokestatic 40, 3) := by decide +kernel
theorem dX7_bound_6 : decode cX7_bound 6 = .ok (.ifCond .ne 7, 3) := by decide +kernel
theorem dX7_bound_9 : decode cX7_bound 9 = .ok (.ldc2_w 161, 3) := by decide +kernel
theorem dX7_bound_12 : decode cX7_bound 12 = .ok (.lreturn, 1) := by decide +kernel
theorem dX7_bound_13 : decode cX7_bound 13 = .ok (.iload_n 1, 1) := by decide +kernel
theorem dX7_bound_14 : decode cX7_bound 14 = .ok (.ifCond .ne 13, 3) := by decide +kernel
theorem dX7_bound_17 : decode cX7_bound 17 = .ok (.aload_n 0, 1) := by decide +kernel
theorem dX7_bound_18 : decode cX7_bound 18 = .ok (.getfield 7, 3) := by decide +kernel
theorem dX7_bound_21 : decode cX7_bound 21 = .ok (.invokestatic 83, 3) := by decide +kernel
theorem dX7_bound_24 : decode cX7_bound 24 = .ok (.goto 38, 3) := by decide +kernel
theorem dX7_bound_27 : decode cX7_bound 27 = .ok (.iload_n 1, 1) := by decide +kernel
theorem dX7_bound_28 : decode cX7_bound 28 = .ok (.iconst 1, 1) := by decide +kernel
theorem dX7_bound_29 : decode cX7_bound 29 = .ok (.if_icmp .ne 13, 3) := by decide +kernel
theorem dX7_bound_32 : decode cX7_bound 32 = .ok (.aload_n 0, 1) := by decide +kernel
theorem dX7_bound_33 : decode cX7_bound 33 = .ok (.getfield 7, 3) := by decide +kernel
theorem dX7_bound_36 : decode cX7_bound 36 = .ok (.bipush 75, 2) := by decide +kernel
theorem dX7_bound_38 : decode cX7_bound 38 = .ok (.laload, 1) := by decide +kernel
theorem dX7_bound_39 : decode cX7_bound 39 = .ok (.goto 23, 3) := by decide +kernel
theorem dX7_bound_42 : decode cX7_bound 42 = .ok (.aload_n 0, 1) := by decide +kernel
theorem dX7_bound_43 : decode cX7_bound 43 = .ok (.getfield 7, 3) := by decide +kernel
theorem dX7_bound_46 : decode cX7_bound 46 = .ok (.bipush 75, 2) := by decide +kernel
theorem dX7_bound_48 : decode cX7_bound 48 = .ok (.laload, 1) := by decide +kernel
theorem dX7_bound_49 : decode cX7_bound 49 = .ok (.ldc2_w 35, 3) := by decide +kernel
theorem dX7_bound_52 : decode cX7_bound 52 = .ok (.aload_n 0, 1) := by decide +kernel
theorem dX7_bound_53 : decode cX7_bound 53 = .ok (.getfield 7, 3) := by decide +kernel
theorem dX7_bound_56 : decode cX7_bound 56 = .ok (.invokestatic 90, 3) := by decide +kernel
theorem dX7_bound_59 : decode cX7_bound 59 = .ok (.i2l, 1) := by decide +kernel
theorem dX7_bound_60 : decode cX7_bound 60 = .ok (.lmul, 1) := by decide +kernel
theorem dX7_bound_61 : decode cX7_bound 61 = .ok (.lsub, 1) := by decide +kernel
theorem dX7_bound_62 : decode cX7_bound 62 = .ok (.lreturn, 1) := by decide +kernel
set_option maxRecDepth 20000 in
theorem ggX7_boundThen_X7_lays : GoodIn wsX7_boundThen wsX7_lays := goodIn_r _ [6] (by decide +kernel) (by decide +kernel)
set_option maxRecDepth 20000 in
theorem gX7_boundThen_X7_lays : GoodIn wsX7_boundThen (va_wsS RX7 48 yX7_lays wsX7_lays) := goodIn_app (goodIn_of _ (by decide +kernel)) ggX7_boundThen_X7_lays
set_option maxRecDepth 20000 in
theorem ggX7_boundThen_X7_steps : GoodIn wsX7_boundThen wsX7_steps := goodIn_r _ [9, 10, 11, 5, 12, 13, 14, 15, 16, 17, 18, 19, 20, 21, 22, 23, 24, 25, 26, 27, 28, 29, 30, 31, 32, 33, 34, 35, 36, 37, 38, 39, 40, 41, 42, 43, 44, 45] (by decide +kernel) (by decide +kernel)
set_option maxRecDepth 20000 in
theorem gX7_boundThen_X7_steps : GoodIn wsX7_boundThen (va_wsS RX7 110 yX7_steps wsX7_steps) := goodIn_app (goodIn_of _ (by decide +kernel)) ggX7_boundThen_X7_steps
set_option maxRecDepth 20000 in
theorem ggX7_boundThen_X7_boundOf : GoodIn wsX7_boundThen wsX7_boundOf := goodIn_r _ [31, 20, 21, 5, 22, 13, 23, 24, 25] (by decide +kernel) (by decide +kernel)
set_option maxRecDepth 20000 in
theorem gX7_boundThen_X7_boundOf : GoodIn wsX7_boundThen (va_wsS RX7 83 yX7_boundOf wsX7_boundOf) := goodIn_app (goodIn_of _ (by decide +kernel)) ggX7_boundThen_X7_boundOf
theorem dX7_boundThen_0 : decode cX7_boundThen 0 = .ok (.aload_n 0, 1) := by decide +kernel
theorem dX7_boundThen_1 : decode cX7_boundThen 1 = .ok (.getfield 7, 3) := by decide +kernel
theorem dX7_boundThen_4 : decode cX7_boundThen 4 = .ok (.iconst 0, 1) := by decide +kernel
theorem dX7_boundThen_5 : decode cX7_boundThen 5 = .ok (.aload_n 0, 1) := by decide +kernel
theorem dX7_boundThen_6 : decode cX7_boundThen 6 = .ok (.getfield 13, 3) := by decide +kernel
theorem dX7_boundThen_9 : decode cX7_boundThen 9 = .ok (.iconst 0, 1) := by decide +kernel
theorem dX7_boundThen_10 : decode cX7_boundThen 10 = .ok (.invokestatic 48, 3) := by decide +kernel
theorem dX7_boundThen_13 : decode cX7_boundThen 13 = .ok (.aload_n 0, 1) := by decide +kernel
theorem dX7_boundThen_14 : decode cX7_boundThen 14 = .ok (.getfield 13, 3) := by decide +kernel
theorem dX7_boundThen_17 : decode cX7_boundThen 17 = .ok (.invokestatic 110, 3) := by decide +kernel
theorem dX7_boundThen_20 : decode cX7_boundThen 20 = .ok (.pop, 1) := by decide +kernel
theorem dX7_boundThen_21 : decode cX7_boundThen 21 = .ok (.aload_n 0, 1) := by decide +kernel
theorem dX7_boundThen_22 : decode cX7_boundThen 22 = .ok (.getfield 13, 3) := by decide +kernel
theorem dX7_boundThen_25 : decode cX7_boundThen 25 = .ok (.invokestatic 83, 3) := by decide +kernel
theorem dX7_boundThen_28 : decode cX7_boundThen 28 = .ok (.lreturn, 1) := by decide +kernel
set_option maxRecDepth 20000 in
theorem ggX7_bestSet_X7_sum : GoodIn wsX7_bestSet wsX7_sum := goodIn_r _ [4, 5, 6, 3, 7] (by decide +kernel) (by decide +kernel)
set_option maxRecDepth 20000 in
theorem gX7_bestSet_X7_sum : GoodIn wsX7_bestSet (va_wsS RX7 59 yX7_sum wsX7_sum) := goodIn_app (goodIn_of _ (by decide +kernel)) ggX7_bestSet_X7_sum
set_option maxRecDepth 20000 in
theorem ggX7_bestSet_X7_fits : GoodIn wsX7_bestSet wsX7_fits := goodIn_r _ [10, 1, 2, 3, 4, 5, 6, 7] (by decide +kernel) (by decide +kernel)
set_option maxRecDepth 20000 in
theorem gX7_bestSet_X7_fits : GoodIn wsX7_bestSet (va_wsS RX7 66 yX7_fits wsX7_fits) := goodIn_app (goodIn_of _ (by decide +kernel)) ggX7_bestSet_X7_fits
theorem dX7_bestSet_0 : decode cX7_bestSet 0 = .ok (.iconst 0, 1) := by decide +kernel
theorem dX7_bestSet_1 : decode cX7_bestSet 1 = .ok (.istore_n 1, 1) := by decide +kernel
theorem dX7_bestSet_2 : decode cX7_bestSet 2 = .ok (.iconst 0, 1) := by decide +kernel
theorem dX7_bestSet_3 : decode cX7_bestSet 3 = .ok (.istore_n 2, 1) := by decide +kernel
theorem dX7_bestSet_4 : decode cX7_bestSet 4 = .ok (.iconst 1, 1) := by decide +kernel
theorem dX7_bestSet_5 : decode cX7_bestSet 5 = .ok (.istore_n 3, 1) := by decide +kernel
theorem dX7_bestSet_6 : decode cX7_bestSet 6 = .ok (.iload_n 3, 1) := by decide +kernel
theorem dX7_bestSet_7 : decode cX7_bestSet 7 = .ok (.iconst 1, 1) := by decide +kernel
theorem dX7_bestSet_8 : decode cX7_bestSet 8 = .ok (.aload_n 0, 1) := by decide +kernel
theorem dX7_bestSet_9 : decode cX7_bestSet 9 = .ok (.iconst 0, 1) := by decide +kernel
theorem dX7_bestSet_10 : decode cX7_bestSet 10 = .ok (.laload, 1) := by decide +kernel
theorem dX7_bestSet_11 : decode cX7_bestSet 11 = .ok (.l2i, 1) := by decide +kernel
theorem dX7_bestSet_12 : decode cX7_bestSet 12 = .ok (.ishl, 1) := by decide +kernel
theorem dX7_bestSet_13 : decode cX7_bestSet 13 = .ok (.if_icmp .ge 36, 3) := by decide +kernel
theorem dX7_bestSet_16 : decode cX7_bestSet 16 = .ok (.aload_n 0, 1) := by decide +kernel
theorem dX7_bestSet_17 : decode cX7_bestSet 17 = .ok (.iload_n 3, 1) := by decide +kernel
theorem dX7_bestSet_18 : decode cX7_bestSet 18 = .ok (.iconst 0, 1) := by decide +kernel
theorem dX7_bestSet_19 : decode cX7_bestSet 19 = .ok (.invokestatic 59, 3) := by decide +kernel
theorem dX7_bestSet_22 : decode cX7_bestSet 22 = .ok (.istore 4, 2) := by decide +kernel
theorem dX7_bestSet_24 : decode cX7_bestSet 24 = .ok (.iload 4, 2) := by decide +kernel
theorem dX7_bestSet_26 : decode cX7_bestSet 26 = .ok (.iload_n 2, 1) := by decide +kernel
theorem dX7_bestSet_27 : decode cX7_bestSet 27 = .ok (.if_icmp .le 16, 3) := by decide +kernel
theorem dX7_bestSet_30 : decode cX7_bestSet 30 = .ok (.aload_n 0, 1) := by decide +kernel
theorem dX7_bestSet_31 : decode cX7_bestSet 31 = .ok (.iload_n 3, 1) := by decide +kernel
theorem dX7_bestSet_32 : decode cX7_bestSet 32 = .ok (.invokestatic 66, 3) := by decide +kernel
theorem dX7_bestSet_35 : decode cX7_bestSet 35 = .ok (.ifCond .eq 8, 3) := by decide +kernel
theorem dX7_bestSet_38 : decode cX7_bestSet 38 = .ok (.iload_n 3, 1) := by decide +kernel
theorem dX7_bestSet_39 : decode cX7_bestSet 39 = .ok (.istore_n 1, 1) := by decide +kernel
theorem dX7_bestSet_40 : decode cX7_bestSet 40 = .ok (.iload 4, 2) := by decide +kernel
theorem dX7_bestSet_42 : decode cX7_bestSet 42 = .ok (.istore_n 2, 1) := by decide +kernel
theorem dX7_bestSet_43 : decode cX7_bestSet 43 = .ok (.iinc 3 1, 3) := by decide +kernel
theorem dX7_bestSet_46 : decode cX7_bestSet 46 = .ok (.goto (-40), 3) := by decide +kernel
theorem dX7_bestSet_49 : decode cX7_bestSet 49 = .ok (.iload_n 1, 1) := by decide +kernel
theorem dX7_bestSet_50 : decode cX7_bestSet 50 = .ok (.ireturn, 1) := by decide +kernel
set_option maxRecDepth 20000 in
theorem ggX7_best_X7_in : GoodIn wsX7_best wsX7_in := goodIn_r _ [5] (by decide +kernel) (by decide +kernel)
set_option maxRecDepth 20000 in
theorem gX7_best_X7_in : GoodIn wsX7_best (va_wsS RX7 40 yX7_in wsX7_in) := goodIn_app (goodIn_of _ (by decide +kernel)) ggX7_best_X7_in
set_option maxRecDepth 20000 in
theorem ggX7_best_X7_bestSet : GoodIn wsX7_best wsX7_bestSet := goodIn_r _ [8, 9, 10, 4, 11, 12, 13, 14, 15, 16, 17] (by decide +kernel) (by decide +kernel)
set_option maxRecDepth 20000 in
theorem gX7_best_X7_bestSet : GoodIn wsX7_best (va_wsS RX7 163 yX7_bestSet wsX7_bestSet) := goodIn_app (goodIn_of _ (by decide +kernel)) ggX7_best_X7_bestSet
set_option maxRecDepth 20000 in
theorem ggX7_best_X7_sum : GoodIn wsX7_best wsX7_sum := goodIn_r _ [11, 12, 13, 4, 14] (by decide +kernel) (by decide +kernel)
set_option maxRecDepth 20000 in
theorem gX7_best_X7_sum : GoodIn wsX7_best (va_wsS RX7 59 yX7_sum wsX7_sum) := goodIn_app (goodIn_of _ (by decide +kernel)) ggX7_best_X7_sum
theorem dX7_best_0 : decode cX7_best 0 = .ok (.iload_n 1, 1) := by decide +kernel
theorem dX7_best_1 : decode cX7_best 1 = .ok (.iconst 0, 1) := by decide +kernel
theorem dX7_best_2 : decode cX7_best 2 = .ok (.iconst 1, 1) := by decide +kernel
theorem dX7_best_3 : decode cX7_best 3 = .ok (.invokestatic 40, 3) := by decide +kernel
theorem dX7_best_6 : decode cX7_best 6 = .ok (.ifCond .ne 6, 3) := by decide +kernel
theorem dX7_best_9 : decode cX7_best 9 = .ok (.bipush (-2), 2) := by decide +kernel
theorem dX7_best_11 : decode cX7_best 11 = .ok (.ireturn, 1) := by decide +kernel
theorem dX7_best_12 : decode cX7_best 12 = .ok (.aload_n 0, 1) := by decide +kernel
theorem dX7_best_13 : decode cX7_best 13 = .ok (.getfield 7, 3) := by decide +kernel
theorem dX7_best_16 : decode cX7_best 16 = .ok (.invokestatic 163, 3) := by decide +kernel
theorem dX7_best_19 : decode cX7_best 19 = .ok (.istore_n 2, 1) := by decide +kernel
theorem dX7_best_20 : decode cX7_best 20 = .ok (.iload_n 1, 1) := by decide +kernel
theorem dX7_best_21 : decode cX7_best 21 = .ok (.ifCond .ne 15, 3) := by decide +kernel
theorem dX7_best_24 : decode cX7_best 24 = .ok (.aload_n 0, 1) := by decide +kernel
theorem dX7_best_25 : decode cX7_best 25 = .ok (.getfield 7, 3) := by decide +kernel
theorem dX7_best_28 : decode cX7_best 28 = .ok (.iload_n 2, 1) := by decide +kernel
theorem dX7_best_29 : decode cX7_best 29 = .ok (.iconst 0, 1) := by decide +kernel
theorem dX7_best_30 : decode cX7_best 30 = .ok (.invokestatic 59, 3) := by decide +kernel
theorem dX7_best_33 : decode cX7_best 33 = .ok (.goto 4, 3) := by decide +kernel
theorem dX7_best_36 : decode cX7_best 36 = .ok (.iload_n 2, 1) := by decide +kernel
theorem dX7_best_37 : decode cX7_best 37 = .ok (.ireturn, 1) := by decide +kernel
set_option maxRecDepth 20000 in
theorem ggX7_worthOf_X7_isWay : GoodIn wsX7_worthOf wsX7_isWay := goodIn_r _ [6, 7, 8, 5, 9] (by decide +kernel) (by decide +kernel)
set_option maxRecDepth 20000 in
theorem gX7_worthOf_X7_isWay : GoodIn wsX7_worthOf (va_wsS RX7 130 yX7_isWay wsX7_isWay) := goodIn_app (goodIn_of _ (by decide +kernel)) ggX7_worthOf_X7_isWay
set_option maxRecDepth 20000 in
theorem ggX7_worthOf_X7_in : GoodIn wsX7_worthOf wsX7_in := goodIn_r _ [9] (by decide +kernel) (by decide +kernel)
set_option maxRecDepth 20000 in
theorem gX7_worthOf_X7_in : GoodIn wsX7_worthOf (va_wsS RX7 40 yX7_in wsX7_in) := goodIn_app (goodIn_of _ (by decide +kernel)) ggX7_worthOf_X7_in
set_option maxRecDepth 20000 in
theorem ggX7_worthOf_X7_lays : GoodIn wsX7_worthOf wsX7_lays := goodIn_r _ [12] (by decide +kernel) (by decide +kernel)
set_option maxRecDepth 20000 in
theorem gX7_worthOf_X7_lays : GoodIn wsX7_worthOf (va_wsS RX7 48 yX7_lays wsX7_lays) := goodIn_app (goodIn_of _ (by decide +kernel)) ggX7_worthOf_X7_lays
set_option maxRecDepth 20000 in
theorem ggX7_worthOf_X7_bestSet : GoodIn wsX7_worthOf wsX7_bestSet := goodIn_r _ [15, 16, 17, 5, 18, 19, 20, 21, 22, 23, 24] (by decide +kernel) (by decide +kernel)
set_option maxRecDepth 20000 in
theorem gX7_worthOf_X7_bestSet : GoodIn wsX7_worthOf (va_wsS RX7 163 yX7_bestSet wsX7_bestSet) := goodIn_app (goodIn_of _ (by decide +kernel)) ggX7_worthOf_X7_bestSet
set_option maxRecDepth 20000 in
theorem ggX7_worthOf_X7_sum : GoodIn wsX7_worthOf wsX7_sum := goodIn_r _ [18, 19, 20, 5, 21] (by decide +kernel) (by decide +kernel)
set_option maxRecDepth 20000 in
theorem gX7_worthOf_X7_sum : GoodIn wsX7_worthOf (va_wsS RX7 59 yX7_sum wsX7_sum) := goodIn_app (goodIn_of _ (by decide +kernel)) ggX7_worthOf_X7_sum
theorem dX7_worthOf_0 : decode cX7_worthOf 0 = .ok (.iload_n 1, 1) := by decide +kernel
theorem dX7_worthOf_1 : decode cX7_worthOf 1 = .ok (.invokestatic 130, 3) := by decide +kernel
theorem dX7_worthOf_4 : decode cX7_worthOf 4 = .ok (.ifCond .ne 5, 3) := by decide +kernel
theorem dX7_worthOf_7 : decode cX7_worthOf 7 = .ok (.iconst (-1), 1) := by decide +kernel
theorem dX7_worthOf_8 : decode cX7_worthOf 8 = .ok (.ireturn, 1) := by decide +kernel
theorem dX7_worthOf_9 : decode cX7_worthOf 9 = .ok (.iload_n 2, 1) := by decide +kernel
theorem dX7_worthOf_10 : decode cX7_worthOf 10 = .ok (.iconst 1, 1) := by decide +kernel
theorem dX7_worthOf_11 : decode cX7_worthOf 11 = .ok (.bipush 99, 2) := by decide +kernel
theorem dX7_worthOf_13 : decode cX7_worthOf 13 = .ok (.invokestatic 40, 3) := by decide +kernel
theorem dX7_worthOf_16 : decode cX7_worthOf 16 = .ok (.ifCond .ne 6, 3) := by decide +kernel
theorem dX7_worthOf_19 : decode cX7_worthOf 19 = .ok (.bipush (-2), 2) := by decide +kernel
theorem dX7_worthOf_21 : decode cX7_worthOf 21 = .ok (.ireturn, 1) := by decide +kernel
theorem dX7_worthOf_22 : decode cX7_worthOf 22 = .ok (.aload_n 0, 1) := by decide +kernel
theorem dX7_worthOf_23 : decode cX7_worthOf 23 = .ok (.getfield 7, 3) := by decide +kernel
theorem dX7_worthOf_26 : decode cX7_worthOf 26 = .ok (.iconst 0, 1) := by decide +kernel
theorem dX7_worthOf_27 : decode cX7_worthOf 27 = .ok (.aload_n 0, 1) := by decide +kernel
theorem dX7_worthOf_28 : decode cX7_worthOf 28 = .ok (.getfield 13, 3) := by decide +kernel
theorem dX7_worthOf_31 : decode cX7_worthOf 31 = .ok (.iconst 0, 1) := by decide +kernel
theorem dX7_worthOf_32 : decode cX7_worthOf 32 = .ok (.invokestatic 48, 3) := by decide +kernel
theorem dX7_worthOf_35 : decode cX7_worthOf 35 = .ok (.aload_n 0, 1) := by decide +kernel
theorem dX7_worthOf_36 : decode cX7_worthOf 36 = .ok (.getfield 13, 3) := by decide +kernel
theorem dX7_worthOf_39 : decode cX7_worthOf 39 = .ok (.bipush 65, 2) := by decide +kernel
theorem dX7_worthOf_41 : decode cX7_worthOf 41 = .ok (.iload_n 1, 1) := by decide +kernel
theorem dX7_worthOf_42 : decode cX7_worthOf 42 = .ok (.iadd, 1) := by decide +kernel
theorem dX7_worthOf_43 : decode cX7_worthOf 43 = .ok (.dup2, 1) := by decide +kernel
theorem dX7_worthOf_44 : decode cX7_worthOf 44 = .ok (.laload, 1) := by decide +kernel
theorem dX7_worthOf_45 : decode cX7_worthOf 45 = .ok (.iload_n 2, 1) := by decide +kernel
theorem dX7_worthOf_46 : decode cX7_worthOf 46 = .ok (.i2l, 1) := by decide +kernel
theorem dX7_worthOf_47 : decode cX7_worthOf 47 = .ok (.ladd, 1) := by decide +kernel
theorem dX7_worthOf_48 : decode cX7_worthOf 48 = .ok (.lastore, 1) := by decide +kernel
theorem dX7_worthOf_49 : decode cX7_worthOf 49 = .ok (.aload_n 0, 1) := by decide +kernel
theorem dX7_worthOf_50 : decode cX7_worthOf 50 = .ok (.getfield 13, 3) := by decide +kernel
theorem dX7_worthOf_53 : decode cX7_worthOf 53 = .ok (.aload_n 0, 1) := by decide +kernel
theorem dX7_worthOf_54 : decode cX7_worthOf 54 = .ok (.getfield 13, 3) := by decide +kernel
theorem dX7_worthOf_57 : decode cX7_worthOf 57 = .ok (.invokestatic 163, 3) := by decide +kernel
theorem dX7_worthOf_60 : decode cX7_worthOf 60 = .ok (.iconst 0, 1) := by decide +kernel
theorem dX7_worthOf_61 : decode cX7_worthOf 61 = .ok (.invokestatic 59, 3) := by decide +kernel
theorem dX7_worthOf_64 : decode cX7_worthOf 64 = .ok (.aload_n 0, 1) := by decide +kernel
theorem dX7_worthOf_65 : decode cX7_worthOf 65 = .ok (.getfield 7, 3) := by decide +kernel
theorem dX7_worthOf_68 : decode cX7_worthOf 68 = .ok (.aload_n 0, 1) := by decide +kernel
theorem dX7_worthOf_69 : decode cX7_worthOf 69 = .ok (.getfield 7, 3) := by decide +kernel
theorem dX7_worthOf_72 : decode cX7_worthOf 72 = .ok (.invokestatic 163, 3) := by decide +kernel
theorem dX7_worthOf_75 : decode cX7_worthOf 75 = .ok (.iconst 0, 1) := by decide +kernel
theorem dX7_worthOf_76 : decode cX7_worthOf 76 = .ok (.invokestatic 59, 3) := by decide +kernel
theorem dX7_worthOf_79 : decode cX7_worthOf 79 = .ok (.isub, 1) := by decide +kernel
theorem dX7_worthOf_80 : decode cX7_worthOf 80 = .ok (.ireturn, 1) := by decide +kernel
set_option maxRecDepth 20000 in
theorem ggX7_repaired_X7_repairs : GoodIn wsX7_repaired wsX7_repairs := goodIn_r _ [5, 6, 7, 4, 8, 9, 10, 11, 12, 13, 14, 15, 16, 17, 18, 19, 20] (by decide +kernel) (by decide +kernel)
set_option maxRecDepth 20000 in
theorem gX7_repaired_X7_repairs : GoodIn wsX7_repaired (va_wsS RX7 147 yX7_repairs wsX7_repairs) := goodIn_app (goodIn_of _ (by decide +kernel)) ggX7_repaired_X7_repairs
theorem dX7_repaired_0 : decode cX7_repaired 0 = .ok (.iload_n 1, 1) := by decide +kernel
theorem dX7_repaired_1 : decode cX7_repaired 1 = .ok (.ifCond .ge 8, 3) := by decide +kernel
theorem dX7_repaired_4 : decode cX7_repaired 4 = .ok (.bipush (-2), 2) := by decide +kernel
theorem dX7_repaired_6 : decode cX7_repaired 6 = .ok (.goto 23, 3) := by decide +kernel
theorem dX7_repaired_9 : decode cX7_repaired 9 = .ok (.aload_n 0, 1) := by decide +kernel
theorem dX7_repaired_10 : decode cX7_repaired 10 = .ok (.getfield 7, 3) := by decide +kernel
theorem dX7_repaired_13 : decode cX7_repaired 13 = .ok (.iload_n 1, 1) := by decide +kernel
theorem dX7_repaired_14 : decode cX7_repaired 14 = .ok (.iconst 1, 1) := by decide +kernel
theorem dX7_repaired_15 : decode cX7_repaired 15 = .ok (.aload_n 0, 1) := by decide +kernel
theorem dX7_repaired_16 : decode cX7_repaired 16 = .ok (.getfield 7, 3) := by decide +kernel
theorem dX7_repaired_19 : decode cX7_repaired 19 = .ok (.iconst 0, 1) := by decide +kernel
theorem dX7_repaired_20 : decode cX7_repaired 20 = .ok (.laload, 1) := by decide +kernel
theorem dX7_repaired_21 : decode cX7_repaired 21 = .ok (.l2i, 1) := by decide +kernel
theorem dX7_repaired_22 : decode cX7_repaired 22 = .ok (.ishl, 1) := by decide +kernel
theorem dX7_repaired_23 : decode cX7_repaired 23 = .ok (.iconst 1, 1) := by decide +kernel
theorem dX7_repaired_24 : decode cX7_repaired 24 = .ok (.isub, 1) := by decide +kernel
theorem dX7_repaired_25 : decode cX7_repaired 25 = .ok (.iand, 1) := by decide +kernel
theorem dX7_repaired_26 : decode cX7_repaired 26 = .ok (.invokestatic 147, 3) := by decide +kernel
theorem dX7_repaired_29 : decode cX7_repaired 29 = .ok (.ireturn, 1) := by decide +kernel
theorem dX7_byteOf_0 : decode cX7_byteOf 0 = .ok (.lload_n 0, 1) := by decide +kernel
theorem dX7_byteOf_1 : decode cX7_byteOf 1 = .ok (.bipush 8, 2) := by decide +kernel
theorem dX7_byteOf_3 : decode cX7_byteOf 3 = .ok (.iload_n 2, 1) := by decide +kernel
theorem dX7_byteOf_4 : decode cX7_byteOf 4 = .ok (.imul, 1) := by decide +kernel
theorem dX7_byteOf_5 : decode cX7_byteOf 5 = .ok (.lshr, 1) := by decide +kernel
theorem dX7_byteOf_6 : decode cX7_byteOf 6 = .ok (.ldc2_w 166, 3) := by decide +kernel
theorem dX7_byteOf_9 : decode cX7_byteOf 9 = .ok (.land, 1) := by decide +kernel
theorem dX7_byteOf_10 : decode cX7_byteOf 10 = .ok (.l2i, 1) := by decide +kernel
theorem dX7_byteOf_11 : decode cX7_byteOf 11 = .ok (.ireturn, 1) := by decide +kernel
set_option maxRecDepth 20000 in
theorem ggX7_toldBy_X7_byteOf : GoodIn wsX7_toldBy wsX7_byteOf := goodIn_r _ [4, 5] (by decide +kernel) (by decide +kernel)
set_option maxRecDepth 20000 in
theorem gX7_toldBy_X7_byteOf : GoodIn wsX7_toldBy (va_wsS RX7 168 yX7_byteOf wsX7_byteOf) := goodIn_app (goodIn_of _ (by decide +kernel)) ggX7_toldBy_X7_byteOf
set_option maxRecDepth 20000 in
theorem ggX7_toldBy_X7_in : GoodIn wsX7_toldBy wsX7_in := goodIn_r _ [8] (by decide +kernel) (by decide +kernel)
set_option maxRecDepth 20000 in
theorem gX7_toldBy_X7_in : GoodIn wsX7_toldBy (va_wsS RX7 40 yX7_in wsX7_in) := goodIn_app (goodIn_of _ (by decide +kernel)) ggX7_toldBy_X7_in
theorem dX7_toldBy_0 : decode cX7_toldBy 0 = .ok (.iconst 0, 1) := by decide +kernel
theorem dX7_toldBy_1 : decode cX7_toldBy 1 = .ok (.istore_n 2, 1) := by decide +kernel
theorem dX7_toldBy_2 : decode cX7_toldBy 2 = .ok (.iload_n 2, 1) := by decide +kernel
theorem dX7_toldBy_3 : decode cX7_toldBy 3 = .ok (.bipush 8, 2) := by decide +kernel
theorem dX7_toldBy_5 : decode cX7_toldBy 5 = .ok (.if_icmp .ge 35, 3) := by decide +kernel
theorem dX7_toldBy_8 : decode cX7_toldBy 8 = .ok (.lload_n 0, 1) := by decide +kernel
theorem dX7_toldBy_9 : decode cX7_toldBy 9 = .ok (.iload_n 2, 1) := by decide +kernel
theorem dX7_toldBy_10 : decode cX7_toldBy 10 = .ok (.invokestatic 168, 3) := by decide +kernel
theorem dX7_toldBy_13 : decode cX7_toldBy 13 = .ok (.ifCond .eq 27, 3) := by decide +kernel
theorem dX7_toldBy_16 : decode cX7_toldBy 16 = .ok (.lload_n 0, 1) := by decide +kernel
theorem dX7_toldBy_17 : decode cX7_toldBy 17 = .ok (.iload_n 2, 1) := by decide +kernel
theorem dX7_toldBy_18 : decode cX7_toldBy 18 = .ok (.invokestatic 168, 3) := by decide +kernel
theorem dX7_toldBy_21 : decode cX7_toldBy 21 = .ok (.bipush 33, 2) := by decide +kernel
theorem dX7_toldBy_23 : decode cX7_toldBy 23 = .ok (.bipush 126, 2) := by decide +kernel
theorem dX7_toldBy_25 : decode cX7_toldBy 25 = .ok (.invokestatic 40, 3) := by decide +kernel
theorem dX7_toldBy_28 : decode cX7_toldBy 28 = .ok (.ifCond .ne 6, 3) := by decide +kernel
theorem dX7_toldBy_31 : decode cX7_toldBy 31 = .ok (.bipush (-2), 2) := by decide +kernel
theorem dX7_toldBy_33 : decode cX7_toldBy 33 = .ok (.ireturn, 1) := by decide +kernel
theorem dX7_toldBy_34 : decode cX7_toldBy 34 = .ok (.iinc 2 1, 3) := by decide +kernel
theorem dX7_toldBy_37 : decode cX7_toldBy 37 = .ok (.goto (-35), 3) := by decide +kernel
theorem dX7_toldBy_40 : decode cX7_toldBy 40 = .ok (.iload_n 2, 1) := by decide +kernel
theorem dX7_toldBy_41 : decode cX7_toldBy 41 = .ok (.istore_n 3, 1) := by decide +kernel
theorem dX7_toldBy_42 : decode cX7_toldBy 42 = .ok (.iload_n 3, 1) := by decide +kernel
theorem dX7_toldBy_43 : decode cX7_toldBy 43 = .ok (.bipush 8, 2) := by decide +kernel
theorem dX7_toldBy_45 : decode cX7_toldBy 45 = .ok (.if_icmp .ge 20, 3) := by decide +kernel
theorem dX7_toldBy_48 : decode cX7_toldBy 48 = .ok (.lload_n 0, 1) := by decide +kernel
theorem dX7_toldBy_49 : decode cX7_toldBy 49 = .ok (.iload_n 3, 1) := by decide +kernel
theorem dX7_toldBy_50 : decode cX7_toldBy 50 = .ok (.invokestatic 168, 3) := by decide +kernel
theorem dX7_toldBy_53 : decode cX7_toldBy 53 = .ok (.ifCond .eq 6, 3) := by decide +kernel
theorem dX7_toldBy_56 : decode cX7_toldBy 56 = .ok (.bipush (-2), 2) := by decide +kernel
theorem dX7_toldBy_58 : decode cX7_toldBy 58 = .ok (.ireturn, 1) := by decide +kernel
theorem dX7_toldBy_59 : decode cX7_toldBy 59 = .ok (.iinc 3 1, 3) := by decide +kernel
theorem dX7_toldBy_62 : decode cX7_toldBy 62 = .ok (.goto (-20), 3) := by decide +kernel
theorem dX7_toldBy_65 : decode cX7_toldBy 65 = .ok (.iload_n 2, 1) := by decide +kernel
theorem dX7_toldBy_66 : decode cX7_toldBy 66 = .ok (.ifCond .ne 8, 3) := by decide +kernel
theorem dX7_toldBy_69 : decode cX7_toldBy 69 = .ok (.bipush (-2), 2) := by decide +kernel
theorem dX7_toldBy_71 : decode cX7_toldBy 71 = .ok (.goto 4, 3) := by decide +kernel
theorem dX7_toldBy_74 : decode cX7_toldBy 74 = .ok (.iload_n 2, 1) := by decide +kernel
theorem dX7_toldBy_75 : decode cX7_toldBy 75 = .ok (.ireturn, 1) := by decide +kernel
set_option maxRecDepth 20000 in
theorem ggX7_put_X7_toldBy : GoodIn wsX7_put wsX7_toldBy := goodIn_r _ [6, 7, 8, 5, 9, 10, 11, 12, 13] (by decide +kernel) (by decide +kernel)
set_option maxRecDepth 20000 in
theorem gX7_put_X7_toldBy : GoodIn wsX7_put (va_wsS RX7 172 yX7_toldBy wsX7_toldBy) := goodIn_app (goodIn_of _ (by decide +kernel)) ggX7_put_X7_toldBy
set_option maxRecDepth 20000 in
theorem ggX7_put_X7_byteOf : GoodIn wsX7_put wsX7_byteOf := goodIn_r _ [9, 10] (by decide +kernel) (by decide +kernel)
set_option maxRecDepth 20000 in
theorem gX7_put_X7_byteOf : GoodIn wsX7_put (va_wsS RX7 168 yX7_byteOf wsX7_byteOf) := goodIn_app (goodIn_of _ (by decide +kernel)) ggX7_put_X7_byteOf
theorem dX7_put_0 : decode cX7_put 0 = .ok (.lload_n 1, 1) := by decide +kernel
theorem dX7_put_1 : decode cX7_put 1 = .ok (.invokestatic 172, 3) := by decide +kernel
theorem dX7_put_4 : decode cX7_put 4 = .ok (.istore_n 3, 1) := by decide +kernel
theorem dX7_put_5 : decode cX7_put 5 = .ok (.iload_n 3, 1) := by decide +kernel
theorem dX7_put_6 : decode cX7_put 6 = .ok (.ifCond .ge 5, 3) := by decide +kernel
theorem dX7_put_9 : decode cX7_put 9 = .ok (.iload_n 3, 1) := by decide +kernel
theorem dX7_put_10 : decode cX7_put 10 = .ok (.ireturn, 1) := by decide +kernel
theorem dX7_put_11 : decode cX7_put 11 = .ok (.aload_n 0, 1) := by decide +kernel
theorem dX7_put_12 : decode cX7_put 12 = .ok (.getfield 158, 3) := by decide +kernel
theorem dX7_put_15 : decode cX7_put 15 = .ok (.iload_n 3, 1) := by decide +kernel
theorem dX7_put_16 : decode cX7_put 16 = .ok (.iadd, 1) := by decide +kernel
theorem dX7_put_17 : decode cX7_put 17 = .ok (.bipush 80, 2) := by decide +kernel
theorem dX7_put_19 : decode cX7_put 19 = .ok (.if_icmp .le 6, 3) := by decide +kernel
theorem dX7_put_22 : decode cX7_put 22 = .ok (.bipush (-4), 2) := by decide +kernel
theorem dX7_put_24 : decode cX7_put 24 = .ok (.ireturn, 1) := by decide +kernel
theorem dX7_put_25 : decode cX7_put 25 = .ok (.iload_n 3, 1) := by decide +kernel
theorem dX7_put_26 : decode cX7_put 26 = .ok (.iconst 1, 1) := by decide +kernel
theorem dX7_put_27 : decode cX7_put 27 = .ok (.isub, 1) := by decide +kernel
theorem dX7_put_28 : decode cX7_put 28 = .ok (.istore 4, 2) := by decide +kernel
theorem dX7_put_30 : decode cX7_put 30 = .ok (.iload 4, 2) := by decide +kernel
theorem dX7_put_32 : decode cX7_put 32 = .ok (.ifCond .lt 34, 3) := by decide +kernel
theorem dX7_put_35 : decode cX7_put 35 = .ok (.aload_n 0, 1) := by decide +kernel
theorem dX7_put_36 : decode cX7_put 36 = .ok (.getfield 26, 3) := by decide +kernel
theorem dX7_put_39 : decode cX7_put 39 = .ok (.aload_n 0, 1) := by decide +kernel
theorem dX7_put_40 : decode cX7_put 40 = .ok (.getfield 158, 3) := by decide +kernel
theorem dX7_put_43 : decode cX7_put 43 = .ok (.lload_n 1, 1) := by decide +kernel
theorem dX7_put_44 : decode cX7_put 44 = .ok (.iload 4, 2) := by decide +kernel
theorem dX7_put_46 : decode cX7_put 46 = .ok (.invokestatic 168, 3) := by decide +kernel
theorem dX7_put_49 : decode cX7_put 49 = .ok (.iastore, 1) := by decide +kernel
theorem dX7_put_50 : decode cX7_put 50 = .ok (.aload_n 0, 1) := by decide +kernel
theorem dX7_put_51 : decode cX7_put 51 = .ok (.dup, 1) := by decide +kernel
theorem dX7_put_52 : decode cX7_put 52 = .ok (.getfield 158, 3) := by decide +kernel
theorem dX7_put_55 : decode cX7_put 55 = .ok (.iconst 1, 1) := by decide +kernel
theorem dX7_put_56 : decode cX7_put 56 = .ok (.iadd, 1) := by decide +kernel
theorem dX7_put_57 : decode cX7_put 57 = .ok (.putfield 158, 3) := by decide +kernel
theorem dX7_put_60 : decode cX7_put 60 = .ok (.iinc 4 (-1), 3) := by decide +kernel
theorem dX7_put_63 : decode cX7_put 63 = .ok (.goto (-33), 3) := by decide +kernel
theorem dX7_put_66 : decode cX7_put 66 = .ok (.aload_n 0, 1) := by decide +kernel
theorem dX7_put_67 : decode cX7_put 67 = .ok (.getfield 158, 3) := by decide +kernel
theorem dX7_put_70 : decode cX7_put 70 = .ok (.ireturn, 1) := by decide +kernel
theorem dX7_wipe_0 : decode cX7_wipe 0 = .ok (.aload_n 0, 1) := by decide +kernel
theorem dX7_wipe_1 : decode cX7_wipe 1 = .ok (.getfield 158, 3) := by decide +kernel
theorem dX7_wipe_4 : decode cX7_wipe 4 = .ok (.istore_n 1, 1) := by decide +kernel
theorem dX7_wipe_5 : decode cX7_wipe 5 = .ok (.aload_n 0, 1) := by decide +kernel
theorem dX7_wipe_6 : decode cX7_wipe 6 = .ok (.iconst 0, 1) := by decide +kernel
theorem dX7_wipe_7 : decode cX7_wipe 7 = .ok (.putfield 158, 3) := by decide +kernel
theorem dX7_wipe_10 : decode cX7_wipe 10 = .ok (.iload_n 1, 1) := by decide +kernel
theorem dX7_wipe_11 : decode cX7_wipe 11 = .ok (.ireturn, 1) := by decide +kernel
set_option maxRecDepth 20000 in
theorem ggX7_isAt_X7_in : GoodIn wsX7_isAt wsX7_in := goodIn_r _ [7] (by decide +kernel) (by decide +kernel)
set_option maxRecDepth 20000 in
theorem gX7_isAt_X7_in : GoodIn wsX7_isAt (va_wsS RX7 40 yX7_in wsX7_in) := goodIn_app (goodIn_of _ (by decide +kernel)) ggX7_isAt_X7_in
theorem dX7_isAt_0 : decode cX7_isAt 0 = .ok (.aload_n 0, 1) := by decide +kernel
theorem dX7_isAt_1 : decode cX7_isAt 1 = .ok (.getfield 176, 3) := by decide +kernel
theorem dX7_isAt_4 : decode cX7_isAt 4 = .ok (.aload_n 0, 1) := by decide +kernel
theorem dX7_isAt_5 : decode cX7_isAt 5 = .ok (.getfield 158, 3) := by decide +kernel
theorem dX7_isAt_8 : decode cX7_isAt 8 = .ok (.if_icmp .ge 24, 3) := by decide +kernel
theorem dX7_isAt_11 : decode cX7_isAt 11 = .ok (.aload_n 0, 1) := by decide +kernel
theorem dX7_isAt_12 : decode cX7_isAt 12 = .ok (.getfield 26, 3) := by decide +kernel
theorem dX7_isAt_15 : decode cX7_isAt 15 = .ok (.aload_n 0, 1) := by decide +kernel
theorem dX7_isAt_16 : decode cX7_isAt 16 = .ok (.getfield 176, 3) := by decide +kernel
theorem dX7_isAt_19 : decode cX7_isAt 19 = .ok (.iaload, 1) := by decide +kernel
theorem dX7_isAt_20 : decode cX7_isAt 20 = .ok (.iload_n 1, 1) := by decide +kernel
theorem dX7_isAt_21 : decode cX7_isAt 21 = .ok (.iload_n 2, 1) := by decide +kernel
theorem dX7_isAt_22 : decode cX7_isAt 22 = .ok (.invokestatic 40, 3) := by decide +kernel
theorem dX7_isAt_25 : decode cX7_isAt 25 = .ok (.ifCond .eq 7, 3) := by decide +kernel
theorem dX7_isAt_28 : decode cX7_isAt 28 = .ok (.iconst 1, 1) := by decide +kernel
theorem dX7_isAt_29 : decode cX7_isAt 29 = .ok (.goto 4, 3) := by decide +kernel
theorem dX7_isAt_32 : decode cX7_isAt 32 = .ok (.iconst 0, 1) := by decide +kernel
theorem dX7_isAt_33 : decode cX7_isAt 33 = .ok (.ireturn, 1) := by decide +kernel
set_option maxRecDepth 20000 in
theorem ggX7_isSign_X7_isAt : GoodIn wsX7_isSign wsX7_isAt := goodIn_r _ [6, 1, 7, 8, 9, 10, 5, 11, 12, 13, 14, 15, 16, 17, 18, 19, 20, 21, 22] (by decide +kernel) (by decide +kernel)
set_option maxRecDepth 20000 in
theorem gX7_isSign_X7_isAt : GoodIn wsX7_isSign (wsV RX7 179 RX7 yX7_isAt wsX7_isAt) := goodIn_app (goodIn_of _ (by decide +kernel)) ggX7_isSign_X7_isAt
theorem dX7_isSign_0 : decode cX7_isSign 0 = .ok (.aload_n 0, 1) := by decide +kernel
theorem dX7_isSign_1 : decode cX7_isSign 1 = .ok (.iload_n 1, 1) := by decide +kernel
theorem dX7_isSign_2 : decode cX7_isSign 2 = .ok (.iload_n 1, 1) := by decide +kernel
theorem dX7_isSign_3 : decode cX7_isSign 3 = .ok (.invokevirtual 179, 3) := by decide +kernel
theorem dX7_isSign_6 : decode cX7_isSign 6 = .ok (.istore_n 2, 1) := by decide +kernel
theorem dX7_isSign_7 : decode cX7_isSign 7 = .ok (.aload_n 0, 1) := by decide +kernel
theorem dX7_isSign_8 : decode cX7_isSign 8 = .ok (.dup, 1) := by decide +kernel
theorem dX7_isSign_9 : decode cX7_isSign 9 = .ok (.getfield 176, 3) := by decide +kernel
theorem dX7_isSign_12 : decode cX7_isSign 12 = .ok (.iload_n 2, 1) := by decide +kernel
theorem dX7_isSign_13 : decode cX7_isSign 13 = .ok (.ifCond .eq 7, 3) := by decide +kernel
theorem dX7_isSign_16 : decode cX7_isSign 16 = .ok (.iconst 1, 1) := by decide +kernel
theorem dX7_isSign_17 : decode cX7_isSign 17 = .ok (.goto 4, 3) := by decide +kernel
theorem dX7_isSign_20 : decode cX7_isSign 20 = .ok (.iconst 0, 1) := by decide +kernel
theorem dX7_isSign_21 : decode cX7_isSign 21 = .ok (.iadd, 1) := by decide +kernel
theorem dX7_isSign_22 : decode cX7_isSign 22 = .ok (.putfield 176, 3) := by decide +kernel
theorem dX7_isSign_25 : decode cX7_isSign 25 = .ok (.iload_n 2, 1) := by decide +kernel
theorem dX7_isSign_26 : decode cX7_isSign 26 = .ok (.ireturn, 1) := by decide +kernel
set_option maxRecDepth 20000 in
theorem ggX7_isNumber_X7_isAt : GoodIn wsX7_isNumber wsX7_isAt := goodIn_r _ [9, 2, 10, 1, 11, 12, 8, 13, 14, 15, 16, 17, 18, 19, 20, 21, 22, 23, 24] (by decide +kernel) (by decide +kernel)
set_option maxRecDepth 20000 in
theorem gX7_isNumber_X7_isAt : GoodIn wsX7_isNumber (wsV RX7 179 RX7 yX7_isAt wsX7_isAt) := goodIn_app (goodIn_of _ (by decide +kernel)) ggX7_isNumber_X7_isAt
theorem dX7_isNumber_0 : decode cX7_isNumber 0 = .ok (.aload_n 0, 1) := by decide +kernel
theorem dX7_isNumber_1 : decode cX7_isNumber 1 = .ok (.bipush 48, 2) := by decide +kernel
theorem dX7_isNumber_3 : decode cX7_isNumber 3 = .ok (.bipush 57, 2) := by decide +kernel
theorem dX7_isNumber_5 : decode cX7_isNumber 5 = .ok (.invokevirtual 179, 3) := by decide +kernel
theorem dX7_isNumber_8 : decode cX7_isNumber 8 = .ok (.ifCond .ne 5, 3) := by decide +kernel
theorem dX7_isNumber_11 : decode cX7_isNumber 11 = .ok (.iconst 0, 1) := by decide +kernel
theorem dX7_isNumber_12 : decode cX7_isNumber 12 = .ok (.ireturn, 1) := by decide +kernel
theorem dX7_isNumber_13 : decode cX7_isNumber 13 = .ok (.aload_n 0, 1) := by decide +kernel
theorem dX7_isNumber_14 : decode cX7_isNumber 14 = .ok (.getfield 26, 3) := by decide +kernel
theorem dX7_isNumber_17 : decode cX7_isNumber 17 = .ok (.aload_n 0, 1) := by decide +kernel
theorem dX7_isNumber_18 : decode cX7_isNumber 18 = .ok (.getfield 176, 3) := by decide +kernel
theorem dX7_isNumber_21 : decode cX7_isNumber 21 = .ok (.iaload, 1) := by decide +kernel
theorem dX7_isNumber_22 : decode cX7_isNumber 22 = .ok (.bipush 48, 2) := by decide +kernel
theorem dX7_isNumber_24 : decode cX7_isNumber 24 = .ok (.isub, 1) := by decide +kernel
theorem dX7_isNumber_25 : decode cX7_isNumber 25 = .ok (.istore_n 2, 1) := by decide +kernel
theorem dX7_isNumber_26 : decode cX7_isNumber 26 = .ok (.aload_n 0, 1) := by decide +kernel
theorem dX7_isNumber_27 : decode cX7_isNumber 27 = .ok (.dup, 1) := by decide +kernel
theorem dX7_isNumber_28 : decode cX7_isNumber 28 = .ok (.getfield 176, 3) := by decide +kernel
theorem dX7_isNumber_31 : decode cX7_isNumber 31 = .ok (.iconst 1, 1) := by decide +kernel
theorem dX7_isNumber_32 : decode cX7_isNumber 32 = .ok (.iadd, 1) := by decide +kernel
theorem dX7_isNumber_33 : decode cX7_isNumber 33 = .ok (.putfield 176, 3) := by decide +kernel
theorem dX7_isNumber_36 : decode cX7_isNumber 36 = .ok (.iload_n 2, 1) := by decide +kernel
theorem dX7_isNumber_37 : decode cX7_isNumber 37 = .ok (.ifCond .le 51, 3) := by decide +kernel
theorem dX7_isNumber_40 : decode cX7_isNumber 40 = .ok (.iload_n 2, 1) := by decide +kernel
theorem dX7_isNumber_41 : decode cX7_isNumber 41 = .ok (.bipush 100, 2) := by decide +kernel
theorem dX7_isNumber_43 : decode cX7_isNumber 43 = .ok (.if_icmp .ge 45, 3) := by decide +kernel
theorem dX7_isNumber_46 : decode cX7_isNumber 46 = .ok (.aload_n 0, 1) := by decide +kernel
theorem dX7_isNumber_47 : decode cX7_isNumber 47 = .ok (.bipush 48, 2) := by decide +kernel
theorem dX7_isNumber_49 : decode cX7_isNumber 49 = .ok (.bipush 57, 2) := by decide +kernel
theorem dX7_isNumber_51 : decode cX7_isNumber 51 = .ok (.invokevirtual 179, 3) := by decide +kernel
theorem dX7_isNumber_54 : decode cX7_isNumber 54 = .ok (.ifCond .eq 34, 3) := by decide +kernel
theorem dX7_isNumber_57 : decode cX7_isNumber 57 = .ok (.bipush 10, 2) := by decide +kernel
theorem dX7_isNumber_59 : decode cX7_isNumber 59 = .ok (.iload_n 2, 1) := by decide +kernel
theorem dX7_isNumber_60 : decode cX7_isNumber 60 = .ok (.imul, 1) := by decide +kernel
theorem dX7_isNumber_61 : decode cX7_isNumber 61 = .ok (.aload_n 0, 1) := by decide +kernel
theorem dX7_isNumber_62 : decode cX7_isNumber 62 = .ok (.getfield 26, 3) := by decide +kernel
theorem dX7_isNumber_65 : decode cX7_isNumber 65 = .ok (.aload_n 0, 1) := by decide +kernel
theorem dX7_isNumber_66 : decode cX7_isNumber 66 = .ok (.getfield 176, 3) := by decide +kernel
theorem dX7_isNumber_69 : decode cX7_isNumber 69 = .ok (.iaload, 1) := by decide +kernel
theorem dX7_isNumber_70 : decode cX7_isNumber 70 = .ok (.iadd, 1) := by decide +kernel
theorem dX7_isNumber_71 : decode cX7_isNumber 71 = .ok (.bipush 48, 2) := by decide +kernel
theorem dX7_isNumber_73 : decode cX7_isNumber 73 = .ok (.isub, 1) := by decide +kernel
theorem dX7_isNumber_74 : decode cX7_isNumber 74 = .ok (.istore_n 2, 1) := by decide +kernel
theorem dX7_isNumber_75 : decode cX7_isNumber 75 = .ok (.aload_n 0, 1) := by decide +kernel
theorem dX7_isNumber_76 : decode cX7_isNumber 76 = .ok (.dup, 1) := by decide +kernel
theorem dX7_isNumber_77 : decode cX7_isNumber 77 = .ok (.getfield 176, 3) := by decide +kernel
theorem dX7_isNumber_80 : decode cX7_isNumber 80 = .ok (.iconst 1, 1) := by decide +kernel
theorem dX7_isNumber_81 : decode cX7_isNumber 81 = .ok (.iadd, 1) := by decide +kernel
theorem dX7_isNumber_82 : decode cX7_isNumber 82 = .ok (.putfield 176, 3) := by decide +kernel
theorem dX7_isNumber_85 : decode cX7_isNumber 85 = .ok (.goto (-49), 3) := by decide +kernel
theorem dX7_isNumber_88 : decode cX7_isNumber 88 = .ok (.aload_n 0, 1) := by decide +kernel
theorem dX7_isNumber_89 : decode cX7_isNumber 89 = .ok (.getfield 30, 3) := by decide +kernel
theorem dX7_isNumber_92 : decode cX7_isNumber 92 = .ok (.iconst 5, 1) := by decide +kernel
theorem dX7_isNumber_93 : decode cX7_isNumber 93 = .ok (.aload_n 0, 1) := by decide +kernel
theorem dX7_isNumber_94 : decode cX7_isNumber 94 = .ok (.getfield 183, 3) := by decide +kernel
theorem dX7_isNumber_97 : decode cX7_isNumber 97 = .ok (.imul, 1) := by decide +kernel
theorem dX7_isNumber_98 : decode cX7_isNumber 98 = .ok (.iload_n 1, 1) := by decide +kernel
theorem dX7_isNumber_99 : decode cX7_isNumber 99 = .ok (.iadd, 1) := by decide +kernel
theorem dX7_isNumber_100 : decode cX7_isNumber 100 = .ok (.iload_n 2, 1) := by decide +kernel
theorem dX7_isNumber_101 : decode cX7_isNumber 101 = .ok (.iastore, 1) := by decide +kernel
theorem dX7_isNumber_102 : decode cX7_isNumber 102 = .ok (.iconst 1, 1) := by decide +kernel
theorem dX7_isNumber_103 : decode cX7_isNumber 103 = .ok (.ireturn, 1) := by decide +kernel
set_option maxRecDepth 20000 in
theorem ggX7_isDigit_X7_isAt : GoodIn wsX7_isDigit wsX7_isAt := goodIn_r _ [9, 4, 10, 3, 11, 12, 8, 13, 14, 15, 16, 17, 18, 19, 20, 21, 22, 23, 24] (by decide +kernel) (by decide +kernel)
set_option maxRecDepth 20000 in
theorem gX7_isDigit_X7_isAt : GoodIn wsX7_isDigit (wsV RX7 179 RX7 yX7_isAt wsX7_isAt) := goodIn_app (goodIn_of _ (by decide +kernel)) ggX7_isDigit_X7_isAt
theorem dX7_isDigit_0 : decode cX7_isDigit 0 = .ok (.aload_n 0, 1) := by decide +kernel
theorem dX7_isDigit_1 : decode cX7_isDigit 1 = .ok (.bipush 48, 2) := by decide +kernel
theorem dX7_isDigit_3 : decode cX7_isDigit 3 = .ok (.bipush 50, 2) := by decide +kernel
theorem dX7_isDigit_5 : decode cX7_isDigit 5 = .ok (.invokevirtual 179, 3) := by decide +kernel
theorem dX7_isDigit_8 : decode cX7_isDigit 8 = .ok (.ifCond .ne 5, 3) := by decide +kernel
theorem dX7_isDigit_11 : decode cX7_isDigit 11 = .ok (.iconst 0, 1) := by decide +kernel
theorem dX7_isDigit_12 : decode cX7_isDigit 12 = .ok (.ireturn, 1) := by decide +kernel
theorem dX7_isDigit_13 : decode cX7_isDigit 13 = .ok (.aload_n 0, 1) := by decide +kernel
theorem dX7_isDigit_14 : decode cX7_isDigit 14 = .ok (.getfield 30, 3) := by decide +kernel
theorem dX7_isDigit_17 : decode cX7_isDigit 17 = .ok (.iconst 5, 1) := by decide +kernel
theorem dX7_isDigit_18 : decode cX7_isDigit 18 = .ok (.aload_n 0, 1) := by decide +kernel
theorem dX7_isDigit_19 : decode cX7_isDigit 19 = .ok (.getfield 183, 3) := by decide +kernel
theorem dX7_isDigit_22 : decode cX7_isDigit 22 = .ok (.imul, 1) := by decide +kernel
theorem dX7_isDigit_23 : decode cX7_isDigit 23 = .ok (.iconst 1, 1) := by decide +kernel
theorem dX7_isDigit_24 : decode cX7_isDigit 24 = .ok (.iadd, 1) := by decide +kernel
theorem dX7_isDigit_25 : decode cX7_isDigit 25 = .ok (.aload_n 0, 1) := by decide +kernel
theorem dX7_isDigit_26 : decode cX7_isDigit 26 = .ok (.getfield 26, 3) := by decide +kernel
theorem dX7_isDigit_29 : decode cX7_isDigit 29 = .ok (.aload_n 0, 1) := by decide +kernel
theorem dX7_isDigit_30 : decode cX7_isDigit 30 = .ok (.getfield 176, 3) := by decide +kernel
theorem dX7_isDigit_33 : decode cX7_isDigit 33 = .ok (.iaload, 1) := by decide +kernel
theorem dX7_isDigit_34 : decode cX7_isDigit 34 = .ok (.bipush 48, 2) := by decide +kernel
theorem dX7_isDigit_36 : decode cX7_isDigit 36 = .ok (.isub, 1) := by decide +kernel
theorem dX7_isDigit_37 : decode cX7_isDigit 37 = .ok (.iastore, 1) := by decide +kernel
theorem dX7_isDigit_38 : decode cX7_isDigit 38 = .ok (.aload_n 0, 1) := by decide +kernel
theorem dX7_isDigit_39 : decode cX7_isDigit 39 = .ok (.dup, 1) := by decide +kernel
theorem dX7_isDigit_40 : decode cX7_isDigit 40 = .ok (.getfield 176, 3) := by decide +kernel
theorem dX7_isDigit_43 : decode cX7_isDigit 43 = .ok (.iconst 1, 1) := by decide +kernel
theorem dX7_isDigit_44 : decode cX7_isDigit 44 = .ok (.iadd, 1) := by decide +kernel
theorem dX7_isDigit_45 : decode cX7_isDigit 45 = .ok (.putfield 176, 3) := by decide +kernel
theorem dX7_isDigit_48 : decode cX7_isDigit 48 = .ok (.iconst 1, 1) := by decide +kernel
theorem dX7_isDigit_49 : decode cX7_isDigit 49 = .ok (.ireturn, 1) := by decide +kernel
set_option maxRecDepth 20000 in
theorem ggX7_isOrder_X7_isNumber : GoodIn wsX7_isOrder wsX7_isNumber := goodIn_r _ [10, 3, 1, 4, 5, 11, 12, 13, 9, 14, 2, 15, 16, 17, 26, 27, 28, 29, 30, 31, 32, 33, 34, 35, 36] (by decide +kernel) (by decide +kernel)
set_option maxRecDepth 20000 in
theorem gX7_isOrder_X7_isNumber : GoodIn wsX7_isOrder (wsV RX7 186 RX7 yX7_isNumber wsX7_isNumber) := goodIn_app (goodIn_of _ (by decide +kernel)) ggX7_isOrder_X7_isNumber
set_option maxRecDepth 20000 in
theorem ggX7_isOrder_X7_isSign : GoodIn wsX7_isOrder wsX7_isSign := goodIn_r _ [21, 1, 11, 12, 13, 9, 14, 2, 3, 15, 16, 17, 26, 27, 28, 29, 30, 31, 32, 33, 34, 35, 36] (by decide +kernel) (by decide +kernel)
set_option maxRecDepth 20000 in
theorem gX7_isOrder_X7_isSign : GoodIn wsX7_isOrder (wsV RX7 189 RX7 yX7_isSign wsX7_isSign) := goodIn_app (goodIn_of _ (by decide +kernel)) ggX7_isOrder_X7_isSign
set_option maxRecDepth 20000 in
theorem ggX7_isOrder_X7_isDigit : GoodIn wsX7_isOrder wsX7_isDigit := goodIn_r _ [25, 4, 5, 3, 1, 11, 12, 13, 9, 14, 2, 15, 16, 17, 26, 27, 28, 29, 30, 31, 32, 33, 34, 35, 36] (by decide +kernel) (by decide +kernel)
set_option maxRecDepth 20000 in
theorem gX7_isOrder_X7_isDigit : GoodIn wsX7_isOrder (wsV RX7 192 RX7 yX7_isDigit wsX7_isDigit) := goodIn_app (goodIn_of _ (by decide +kernel)) ggX7_isOrder_X7_isDigit
theorem dX7_isOrder_0 : decode cX7_isOrder 0 = .ok (.aload_n 0, 1) := by decide +kernel
theorem dX7_isOrder_1 : decode cX7_isOrder 1 = .ok (.getfield 176, 3) := by decide +kernel
theorem dX7_isOrder_4 : decode cX7_isOrder 4 = .ok (.aload_n 0, 1) := by decide +kernel
theorem dX7_isOrder_5 : decode cX7_isOrder 5 = .ok (.getfield 158, 3) := by decide +kernel
theorem dX7_isOrder_8 : decode cX7_isOrder 8 = .ok (.if_icmp .ge 15, 3) := by decide +kernel
theorem dX7_isOrder_11 : decode cX7_isOrder 11 = .ok (.aload_n 0, 1) := by decide +kernel
theorem dX7_isOrder_12 : decode cX7_isOrder 12 = .ok (.getfield 26, 3) := by decide +kernel
theorem dX7_isOrder_15 : decode cX7_isOrder 15 = .ok (.aload_n 0, 1) := by decide +kernel
theorem dX7_isOrder_16 : decode cX7_isOrder 16 = .ok (.getfield 176, 3) := by decide +kernel
theorem dX7_isOrder_19 : decode cX7_isOrder 19 = .ok (.iaload, 1) := by decide +kernel
theorem dX7_isOrder_20 : decode cX7_isOrder 20 = .ok (.goto 4, 3) := by decide +kernel
theorem dX7_isOrder_23 : decode cX7_isOrder 23 = .ok (.iconst 0, 1) := by decide +kernel
theorem dX7_isOrder_24 : decode cX7_isOrder 24 = .ok (.istore_n 1, 1) := by decide +kernel
theorem dX7_isOrder_25 : decode cX7_isOrder 25 = .ok (.aload_n 0, 1) := by decide +kernel
theorem dX7_isOrder_26 : decode cX7_isOrder 26 = .ok (.getfield 30, 3) := by decide +kernel
theorem dX7_isOrder_29 : decode cX7_isOrder 29 = .ok (.iconst 5, 1) := by decide +kernel
theorem dX7_isOrder_30 : decode cX7_isOrder 30 = .ok (.aload_n 0, 1) := by decide +kernel
theorem dX7_isOrder_31 : decode cX7_isOrder 31 = .ok (.getfield 183, 3) := by decide +kernel
theorem dX7_isOrder_34 : decode cX7_isOrder 34 = .ok (.imul, 1) := by decide +kernel
theorem dX7_isOrder_35 : decode cX7_isOrder 35 = .ok (.iload_n 1, 1) := by decide +kernel
theorem dX7_isOrder_36 : decode cX7_isOrder 36 = .ok (.iastore, 1) := by decide +kernel
theorem dX7_isOrder_37 : decode cX7_isOrder 37 = .ok (.iload_n 1, 1) := by decide +kernel
theorem dX7_isOrder_38 : decode cX7_isOrder 38 = .ok (.lookupswitch 216 #[(45, 188), (105, 58), (108, 133), (114, 173), (115, 188), (120, 204)], 58) := by decide +kernel
theorem dX7_isOrder_96 : decode cX7_isOrder 96 = .ok (.aload_n 0, 1) := by decide +kernel
theorem dX7_isOrder_97 : decode cX7_isOrder 97 = .ok (.dup, 1) := by decide +kernel
theorem dX7_isOrder_98 : decode cX7_isOrder 98 = .ok (.getfield 176, 3) := by decide +kernel
theorem dX7_isOrder_101 : decode cX7_isOrder 101 = .ok (.iconst 1, 1) := by decide +kernel
theorem dX7_isOrder_102 : decode cX7_isOrder 102 = .ok (.iadd, 1) := by decide +kernel
theorem dX7_isOrder_103 : decode cX7_isOrder 103 = .ok (.putfield 176, 3) := by decide +kernel
theorem dX7_isOrder_106 : decode cX7_isOrder 106 = .ok (.aload_n 0, 1) := by decide +kernel
theorem dX7_isOrder_107 : decode cX7_isOrder 107 = .ok (.iconst 1, 1) := by decide +kernel
theorem dX7_isOrder_108 : decode cX7_isOrder 108 = .ok (.invokevirtual 186, 3) := by decide +kernel
theorem dX7_isOrder_111 : decode cX7_isOrder 111 = .ok (.ifCond .eq 58, 3) := by decide +kernel
theorem dX7_isOrder_114 : decode cX7_isOrder 114 = .ok (.aload_n 0, 1) := by decide +kernel
theorem dX7_isOrder_115 : decode cX7_isOrder 115 = .ok (.bipush 58, 2) := by decide +kernel
theorem dX7_isOrder_117 : decode cX7_isOrder 117 = .ok (.invokevirtual 189, 3) := by decide +kernel
theorem dX7_isOrder_120 : decode cX7_isOrder 120 = .ok (.ifCond .eq 49, 3) := by decide +kernel
theorem dX7_isOrder_123 : decode cX7_isOrder 123 = .ok (.aload_n 0, 1) := by decide +kernel
theorem dX7_isOrder_124 : decode cX7_isOrder 124 = .ok (.iconst 2, 1) := by decide +kernel
theorem dX7_isOrder_125 : decode cX7_isOrder 125 = .ok (.invokevirtual 186, 3) := by decide +kernel
theorem dX7_isOrder_128 : decode cX7_isOrder 128 = .ok (.ifCond .eq 41, 3) := by decide +kernel
theorem dX7_isOrder_131 : decode cX7_isOrder 131 = .ok (.aload_n 0, 1) := by decide +kernel
theorem dX7_isOrder_132 : decode cX7_isOrder 132 = .ok (.bipush 44, 2) := by decide +kernel
theorem dX7_isOrder_134 : decode cX7_isOrder 134 = .ok (.invokevirtual 189, 3) := by decide +kernel
theorem dX7_isOrder_137 : decode cX7_isOrder 137 = .ok (.ifCond .eq 32, 3) := by decide +kernel
theorem dX7_isOrder_140 : decode cX7_isOrder 140 = .ok (.aload_n 0, 1) := by decide +kernel
theorem dX7_isOrder_141 : decode cX7_isOrder 141 = .ok (.iconst 3, 1) := by decide +kernel
theorem dX7_isOrder_142 : decode cX7_isOrder 142 = .ok (.invokevirtual 186, 3) := by decide +kernel
theorem dX7_isOrder_145 : decode cX7_isOrder 145 = .ok (.ifCond .eq 24, 3) := by decide +kernel
theorem dX7_isOrder_148 : decode cX7_isOrder 148 = .ok (.aload_n 0, 1) := by decide +kernel
theorem dX7_isOrder_149 : decode cX7_isOrder 149 = .ok (.bipush 44, 2) := by decide +kernel
theorem dX7_isOrder_151 : decode cX7_isOrder 151 = .ok (.invokevirtual 189, 3) := by decide +kernel
theorem dX7_isOrder_154 : decode cX7_isOrder 154 = .ok (.ifCond .eq 15, 3) := by decide +kernel
theorem dX7_isOrder_157 : decode cX7_isOrder 157 = .ok (.aload_n 0, 1) := by decide +kernel
theorem dX7_isOrder_158 : decode cX7_isOrder 158 = .ok (.iconst 4, 1) := by decide +kernel
theorem dX7_isOrder_159 : decode cX7_isOrder 159 = .ok (.invokevirtual 186, 3) := by decide +kernel
theorem dX7_isOrder_162 : decode cX7_isOrder 162 = .ok (.ifCond .eq 7, 3) := by decide +kernel
theorem dX7_isOrder_165 : decode cX7_isOrder 165 = .ok (.iconst 1, 1) := by decide +kernel
theorem dX7_isOrder_166 : decode cX7_isOrder 166 = .ok (.goto 4, 3) := by decide +kernel
theorem dX7_isOrder_169 : decode cX7_isOrder 169 = .ok (.iconst 0, 1) := by decide +kernel
theorem dX7_isOrder_170 : decode cX7_isOrder 170 = .ok (.ireturn, 1) := by decide +kernel
theorem dX7_isOrder_171 : decode cX7_isOrder 171 = .ok (.aload_n 0, 1) := by decide +kernel
theorem dX7_isOrder_172 : decode cX7_isOrder 172 = .ok (.dup, 1) := by decide +kernel
theorem dX7_isOrder_173 : decode cX7_isOrder 173 = .ok (.getfield 176, 3) := by decide +kernel
theorem dX7_isOrder_176 : decode cX7_isOrder 176 = .ok (.iconst 1, 1) := by decide +kernel
theorem dX7_isOrder_177 : decode cX7_isOrder 177 = .ok (.iadd, 1) := by decide +kernel
theorem dX7_isOrder_178 : decode cX7_isOrder 178 = .ok (.putfield 176, 3) := by decide +kernel
theorem dX7_isOrder_181 : decode cX7_isOrder 181 = .ok (.aload_n 0, 1) := by decide +kernel
theorem dX7_isOrder_182 : decode cX7_isOrder 182 = .ok (.invokevirtual 192, 3) := by decide +kernel
theorem dX7_isOrder_185 : decode cX7_isOrder 185 = .ok (.ifCond .eq 24, 3) := by decide +kernel
theorem dX7_isOrder_188 : decode cX7_isOrder 188 = .ok (.aload_n 0, 1) := by decide +kernel
theorem dX7_isOrder_189 : decode cX7_isOrder 189 = .ok (.bipush 61, 2) := by decide +kernel
theorem dX7_isOrder_191 : decode cX7_isOrder 191 = .ok (.invokevirtual 189, 3) := by decide +kernel
theorem dX7_isOrder_194 : decode cX7_isOrder 194 = .ok (.ifCond .eq 15, 3) := by decide +kernel
theorem dX7_isOrder_197 : decode cX7_isOrder 197 = .ok (.aload_n 0, 1) := by decide +kernel
theorem dX7_isOrder_198 : decode cX7_isOrder 198 = .ok (.iconst 2, 1) := by decide +kernel
theorem dX7_isOrder_199 : decode cX7_isOrder 199 = .ok (.invokevirtual 186, 3) := by decide +kernel
theorem dX7_isOrder_202 : decode cX7_isOrder 202 = .ok (.ifCond .eq 7, 3) := by decide +kernel
theorem dX7_isOrder_205 : decode cX7_isOrder 205 = .ok (.iconst 1, 1) := by decide +kernel
theorem dX7_isOrder_206 : decode cX7_isOrder 206 = .ok (.goto 4, 3) := by decide +kernel
theorem dX7_isOrder_209 : decode cX7_isOrder 209 = .ok (.iconst 0, 1) := by decide +kernel
theorem dX7_isOrder_210 : decode cX7_isOrder 210 = .ok (.ireturn, 1) := by decide +kernel
theorem dX7_isOrder_211 : decode cX7_isOrder 211 = .ok (.aload_n 0, 1) := by decide +kernel
theorem dX7_isOrder_212 : decode cX7_isOrder 212 = .ok (.dup, 1) := by decide +kernel
theorem dX7_isOrder_213 : decode cX7_isOrder 213 = .ok (.getfield 176, 3) := by decide +kernel
theorem dX7_isOrder_216 : decode cX7_isOrder 216 = .ok (.iconst 1, 1) := by decide +kernel
theorem dX7_isOrder_217 : decode cX7_isOrder 217 = .ok (.iadd, 1) := by decide +kernel
theorem dX7_isOrder_218 : decode cX7_isOrder 218 = .ok (.putfield 176, 3) := by decide +kernel
theorem dX7_isOrder_221 : decode cX7_isOrder 221 = .ok (.aload_n 0, 1) := by decide +kernel
theorem dX7_isOrder_222 : decode cX7_isOrder 222 = .ok (.invokevirtual 192, 3) := by decide +kernel
theorem dX7_isOrder_225 : decode cX7_isOrder 225 = .ok (.ireturn, 1) := by decide +kernel
theorem dX7_isOrder_226 : decode cX7_isOrder 226 = .ok (.aload_n 0, 1) := by decide +kernel
theorem dX7_isOrder_227 : decode cX7_isOrder 227 = .ok (.dup, 1) := by decide +kernel
theorem dX7_isOrder_228 : decode cX7_isOrder 228 = .ok (.getfield 176, 3) := by decide +kernel
theorem dX7_isOrder_231 : decode cX7_isOrder 231 = .ok (.iconst 1, 1) := by decide +kernel
theorem dX7_isOrder_232 : decode cX7_isOrder 232 = .ok (.iadd, 1) := by decide +kernel
theorem dX7_isOrder_233 : decode cX7_isOrder 233 = .ok (.putfield 176, 3) := by decide +kernel
theorem dX7_isOrder_236 : decode cX7_isOrder 236 = .ok (.aload_n 0, 1) := by decide +kernel
theorem dX7_isOrder_237 : decode cX7_isOrder 237 = .ok (.iconst 1, 1) := by decide +kernel
theorem dX7_isOrder_238 : decode cX7_isOrder 238 = .ok (.invokevirtual 186, 3) := by decide +kernel
theorem dX7_isOrder_241 : decode cX7_isOrder 241 = .ok (.ireturn, 1) := by decide +kernel
theorem dX7_isOrder_242 : decode cX7_isOrder 242 = .ok (.aload_n 0, 1) := by decide +kernel
theorem dX7_isOrder_243 : decode cX7_isOrder 243 = .ok (.dup, 1) := by decide +kernel
theorem dX7_isOrder_244 : decode cX7_isOrder 244 = .ok (.getfield 176, 3) := by decide +kernel
theorem dX7_isOrder_247 : decode cX7_isOrder 247 = .ok (.iconst 1, 1) := by decide +kernel
theorem dX7_isOrder_248 : decode cX7_isOrder 248 = .ok (.iadd, 1) := by decide +kernel
theorem dX7_isOrder_249 : decode cX7_isOrder 249 = .ok (.putfield 176, 3) := by decide +kernel
theorem dX7_isOrder_252 : decode cX7_isOrder 252 = .ok (.iconst 1, 1) := by decide +kernel
theorem dX7_isOrder_253 : decode cX7_isOrder 253 = .ok (.ireturn, 1) := by decide +kernel
theorem dX7_isOrder_254 : decode cX7_isOrder 254 = .ok (.iconst 0, 1) := by decide +kernel
theorem dX7_isOrder_255 : decode cX7_isOrder 255 = .ok (.ireturn, 1) := by decide +kernel
set_option maxRecDepth 20000 in
theorem ggX7_isText_X7_isOrder : GoodIn wsX7_isText wsX7_isOrder := goodIn_r _ [8, 1, 3, 9, 10, 2, 11, 12, 13, 7, 14, 15, 16, 17, 18, 19, 20, 21, 22, 23, 24, 25, 26, 27, 28, 29, 30, 31, 32, 33, 34, 35, 36, 37, 38, 39, 40] (by decide +kernel) (by decide +kernel)
set_option maxRecDepth 20000 in
theorem gX7_isText_X7_isOrder : GoodIn wsX7_isText (wsV RX7 196 RX7 yX7_isOrder wsX7_isOrder) := goodIn_app (goodIn_of _ (by decide +kernel)) ggX7_isText_X7_isOrder
set_option maxRecDepth 20000 in
theorem ggX7_isText_X7_isSign : GoodIn wsX7_isText wsX7_isSign := goodIn_r _ [25, 1, 15, 16, 17, 7, 18, 3, 9, 19, 20, 21, 30, 31, 32, 33, 34, 35, 36, 37, 38, 39, 40] (by decide +kernel) (by decide +kernel)
set_option maxRecDepth 20000 in
theorem gX7_isText_X7_isSign : GoodIn wsX7_isText (wsV RX7 189 RX7 yX7_isSign wsX7_isSign) := goodIn_app (goodIn_of _ (by decide +kernel)) ggX7_isText_X7_isSign
theorem dX7_isText_0 : decode cX7_isText 0 = .ok (.aload_n 0, 1) := by decide +kernel
theorem dX7_isText_1 : decode cX7_isText 1 = .ok (.iconst 0, 1) := by decide +kernel
theorem dX7_isText_2 : decode cX7_isText 2 = .ok (.putfield 176, 3) := by decide +kernel
theorem dX7_isText_5 : decode cX7_isText 5 = .ok (.aload_n 0, 1) := by decide +kernel
theorem dX7_isText_6 : decode cX7_isText 6 = .ok (.iconst 0, 1) := by decide +kernel
theorem dX7_isText_7 : decode cX7_isText 7 = .ok (.putfield 183, 3) := by decide +kernel
theorem dX7_isText_10 : decode cX7_isText 10 = .ok (.iconst 1, 1) := by decide +kernel
theorem dX7_isText_11 : decode cX7_isText 11 = .ok (.istore_n 1, 1) := by decide +kernel
theorem dX7_isText_12 : decode cX7_isText 12 = .ok (.iload_n 1, 1) := by decide +kernel
theorem dX7_isText_13 : decode cX7_isText 13 = .ok (.ifCond .eq 32, 3) := by decide +kernel
theorem dX7_isText_16 : decode cX7_isText 16 = .ok (.aload_n 0, 1) := by decide +kernel
theorem dX7_isText_17 : decode cX7_isText 17 = .ok (.invokevirtual 196, 3) := by decide +kernel
theorem dX7_isText_20 : decode cX7_isText 20 = .ok (.ifCond .ne 5, 3) := by decide +kernel
theorem dX7_isText_23 : decode cX7_isText 23 = .ok (.iconst 0, 1) := by decide +kernel
theorem dX7_isText_24 : decode cX7_isText 24 = .ok (.ireturn, 1) := by decide +kernel
theorem dX7_isText_25 : decode cX7_isText 25 = .ok (.aload_n 0, 1) := by decide +kernel
theorem dX7_isText_26 : decode cX7_isText 26 = .ok (.dup, 1) := by decide +kernel
theorem dX7_isText_27 : decode cX7_isText 27 = .ok (.getfield 183, 3) := by decide +kernel
theorem dX7_isText_30 : decode cX7_isText 30 = .ok (.iconst 1, 1) := by decide +kernel
theorem dX7_isText_31 : decode cX7_isText 31 = .ok (.iadd, 1) := by decide +kernel
theorem dX7_isText_32 : decode cX7_isText 32 = .ok (.putfield 183, 3) := by decide +kernel
theorem dX7_isText_35 : decode cX7_isText 35 = .ok (.aload_n 0, 1) := by decide +kernel
theorem dX7_isText_36 : decode cX7_isText 36 = .ok (.bipush 59, 2) := by decide +kernel
theorem dX7_isText_38 : decode cX7_isText 38 = .ok (.invokevirtual 189, 3) := by decide +kernel
theorem dX7_isText_41 : decode cX7_isText 41 = .ok (.istore_n 1, 1) := by decide +kernel
theorem dX7_isText_42 : decode cX7_isText 42 = .ok (.goto (-30), 3) := by decide +kernel
theorem dX7_isText_45 : decode cX7_isText 45 = .ok (.aload_n 0, 1) := by decide +kernel
theorem dX7_isText_46 : decode cX7_isText 46 = .ok (.getfield 176, 3) := by decide +kernel
theorem dX7_isText_49 : decode cX7_isText 49 = .ok (.aload_n 0, 1) := by decide +kernel
theorem dX7_isText_50 : decode cX7_isText 50 = .ok (.getfield 158, 3) := by decide +kernel
theorem dX7_isText_53 : decode cX7_isText 53 = .ok (.if_icmp .ne 7, 3) := by decide +kernel
theorem dX7_isText_56 : decode cX7_isText 56 = .ok (.iconst 1, 1) := by decide +kernel
theorem dX7_isText_57 : decode cX7_isText 57 = .ok (.goto 4, 3) := by decide +kernel
theorem dX7_isText_60 : decode cX7_isText 60 = .ok (.iconst 0, 1) := by decide +kernel
theorem dX7_isText_61 : decode cX7_isText 61 = .ok (.ireturn, 1) := by decide +kernel
set_option maxRecDepth 20000 in
theorem ggX7_fault_X7_isText : GoodIn wsX7_fault wsX7_isText := goodIn_r _ [6, 1, 7, 8, 9, 10, 11, 5, 12, 13, 14, 15, 16, 17, 18, 19, 20, 21, 22, 23, 24, 25, 26, 27, 28, 29, 30, 31, 32, 33, 34, 35, 36, 37, 38, 39, 40, 41, 42, 43, 44] (by decide +kernel) (by decide +kernel)
set_option maxRecDepth 20000 in
theorem gX7_fault_X7_isText : GoodIn wsX7_fault (wsV RX7 199 RX7 yX7_isText wsX7_isText) := goodIn_app (goodIn_of _ (by decide +kernel)) ggX7_fault_X7_isText
theorem dX7_fault_0 : decode cX7_fault 0 = .ok (.aload_n 0, 1) := by decide +kernel
theorem dX7_fault_1 : decode cX7_fault 1 = .ok (.invokevirtual 199, 3) := by decide +kernel
theorem dX7_fault_4 : decode cX7_fault 4 = .ok (.ifCond .eq 8, 3) := by decide +kernel
theorem dX7_fault_7 : decode cX7_fault 7 = .ok (.bipush (-6), 2) := by decide +kernel
theorem dX7_fault_9 : decode cX7_fault 9 = .ok (.goto 7, 3) := by decide +kernel
theorem dX7_fault_12 : decode cX7_fault 12 = .ok (.aload_n 0, 1) := by decide +kernel
theorem dX7_fault_13 : decode cX7_fault 13 = .ok (.getfield 176, 3) := by decide +kernel
theorem dX7_fault_16 : decode cX7_fault 16 = .ok (.ireturn, 1) := by decide +kernel
set_option maxRecDepth 20000 in
theorem ggX7_mayDo_X7_mayCome : GoodIn wsX7_mayDo wsX7_mayCome := goodIn_r _ [5, 6, 7, 8, 9, 4, 10, 21, 22, 23, 24, 25, 26, 27, 28, 29, 30, 31] (by decide +kernel) (by decide +kernel)
set_option maxRecDepth 20000 in
theorem gX7_mayDo_X7_mayCome : GoodIn wsX7_mayDo (wsV RX7 115 RX7 yX7_mayCome wsX7_mayCome) := goodIn_app (goodIn_of _ (by decide +kernel)) ggX7_mayDo_X7_mayCome
set_option maxRecDepth 20000 in
theorem ggX7_mayDo_X7_mayLimit : GoodIn wsX7_mayDo wsX7_mayLimit := goodIn_r _ [13, 14, 15, 4, 16, 8, 9, 10] (by decide +kernel) (by decide +kernel)
set_option maxRecDepth 20000 in
theorem gX7_mayDo_X7_mayLimit : GoodIn wsX7_mayDo (va_wsS RX7 137 yX7_mayLimit wsX7_mayLimit) := goodIn_app (goodIn_of _ (by decide +kernel)) ggX7_mayDo_X7_mayLimit
set_option maxRecDepth 20000 in
theorem ggX7_mayDo_X7_in : GoodIn wsX7_mayDo wsX7_in := goodIn_r _ [10] (by decide +kernel) (by decide +kernel)
set_option maxRecDepth 20000 in
theorem gX7_mayDo_X7_in : GoodIn wsX7_mayDo (va_wsS RX7 40 yX7_in wsX7_in) := goodIn_app (goodIn_of _ (by decide +kernel)) ggX7_mayDo_X7_in
set_option maxRecDepth 20000 in
theorem ggX7_mayDo_X7_isItem : GoodIn wsX7_mayDo wsX7_isItem := goodIn_r _ [20, 6, 8, 9, 4, 10, 21, 22, 23, 24, 25, 26, 27, 28, 29, 30, 31] (by decide +kernel) (by decide +kernel)
set_option maxRecDepth 20000 in
theorem gX7_mayDo_X7_isItem : GoodIn wsX7_mayDo (wsV RX7 122 RX7 yX7_isItem wsX7_isItem) := goodIn_app (goodIn_of _ (by decide +kernel)) ggX7_mayDo_X7_isItem
theorem dX7_mayDo_0 : decode cX7_mayDo 0 = .ok (.iload_n 1, 1) := by decide +kernel
theorem dX7_mayDo_1 : decode cX7_mayDo 1 = .ok (.lookupswitch 91 #[(45, 77), (105, 43), (108, 54), (115, 60)], 43) := by decide +kernel
theorem dX7_mayDo_44 : decode cX7_mayDo 44 = .ok (.aload_n 0, 1) := by decide +kernel
theorem dX7_mayDo_45 : decode cX7_mayDo 45 = .ok (.iload_n 2, 1) := by decide +kernel
theorem dX7_mayDo_46 : decode cX7_mayDo 46 = .ok (.iload_n 3, 1) := by decide +kernel
theorem dX7_mayDo_47 : decode cX7_mayDo 47 = .ok (.iload 4, 2) := by decide +kernel
theorem dX7_mayDo_49 : decode cX7_mayDo 49 = .ok (.iload 5, 2) := by decide +kernel
theorem dX7_mayDo_51 : decode cX7_mayDo 51 = .ok (.invokevirtual 115, 3) := by decide +kernel
theorem dX7_mayDo_54 : decode cX7_mayDo 54 = .ok (.ireturn, 1) := by decide +kernel
theorem dX7_mayDo_55 : decode cX7_mayDo 55 = .ok (.iload_n 2, 1) := by decide +kernel
theorem dX7_mayDo_56 : decode cX7_mayDo 56 = .ok (.iload_n 3, 1) := by decide +kernel
theorem dX7_mayDo_57 : decode cX7_mayDo 57 = .ok (.invokestatic 137, 3) := by decide +kernel
theorem dX7_mayDo_60 : decode cX7_mayDo 60 = .ok (.ireturn, 1) := by decide +kernel
theorem dX7_mayDo_61 : decode cX7_mayDo 61 = .ok (.iload_n 2, 1) := by decide +kernel
theorem dX7_mayDo_62 : decode cX7_mayDo 62 = .ok (.iconst 1, 1) := by decide +kernel
theorem dX7_mayDo_63 : decode cX7_mayDo 63 = .ok (.bipush 99, 2) := by decide +kernel
theorem dX7_mayDo_65 : decode cX7_mayDo 65 = .ok (.invokestatic 40, 3) := by decide +kernel
theorem dX7_mayDo_68 : decode cX7_mayDo 68 = .ok (.ifCond .eq 7, 3) := by decide +kernel
theorem dX7_mayDo_71 : decode cX7_mayDo 71 = .ok (.iconst 0, 1) := by decide +kernel
theorem dX7_mayDo_72 : decode cX7_mayDo 72 = .ok (.goto 5, 3) := by decide +kernel
theorem dX7_mayDo_75 : decode cX7_mayDo 75 = .ok (.bipush (-2), 2) := by decide +kernel
theorem dX7_mayDo_77 : decode cX7_mayDo 77 = .ok (.ireturn, 1) := by decide +kernel
theorem dX7_mayDo_78 : decode cX7_mayDo 78 = .ok (.aload_n 0, 1) := by decide +kernel
theorem dX7_mayDo_79 : decode cX7_mayDo 79 = .ok (.iload_n 2, 1) := by decide +kernel
theorem dX7_mayDo_80 : decode cX7_mayDo 80 = .ok (.invokevirtual 122, 3) := by decide +kernel
theorem dX7_mayDo_83 : decode cX7_mayDo 83 = .ok (.ifCond .eq 7, 3) := by decide +kernel
theorem dX7_mayDo_86 : decode cX7_mayDo 86 = .ok (.iconst 0, 1) := by decide +kernel
theorem dX7_mayDo_87 : decode cX7_mayDo 87 = .ok (.goto 4, 3) := by decide +kernel
theorem dX7_mayDo_90 : decode cX7_mayDo 90 = .ok (.iconst (-1), 1) := by decide +kernel
theorem dX7_mayDo_91 : decode cX7_mayDo 91 = .ok (.ireturn, 1) := by decide +kernel
theorem dX7_mayDo_92 : decode cX7_mayDo 92 = .ok (.iconst 0, 1) := by decide +kernel
theorem dX7_mayDo_93 : decode cX7_mayDo 93 = .ok (.ireturn, 1) := by decide +kernel
set_option maxRecDepth 20000 in
theorem ggX7_does_X7_mayDo : GoodIn wsX7_does wsX7_mayDo := goodIn_r _ [6, 7, 8, 9, 5, 10, 11, 12, 13, 14, 15, 16, 17, 18, 19, 20, 21, 22, 23, 24, 25, 105, 106, 107, 108, 109, 110, 111, 112, 113, 114, 115] (by decide +kernel) (by decide +kernel)
set_option maxRecDepth 20000 in
theorem gX7_does_X7_mayDo : GoodIn wsX7_does (wsV RX7 202 RX7 yX7_mayDo wsX7_mayDo) := goodIn_app (goodIn_of _ (by decide +kernel)) ggX7_does_X7_mayDo
set_option maxRecDepth 20000 in
theorem ggX7_does_X7_comes : GoodIn wsX7_does wsX7_comes := goodIn_r _ [29, 11, 30, 31, 32, 5, 33, 34, 35, 36, 37, 38, 39, 40, 41, 42, 43, 44, 105, 106, 107, 108, 109, 110, 111, 112, 113, 114, 115] (by decide +kernel) (by decide +kernel)
set_option maxRecDepth 20000 in
theorem gX7_does_X7_comes : GoodIn wsX7_does (wsV RX7 119 RX7 yX7_comes wsX7_comes) := goodIn_app (goodIn_of _ (by decide +kernel)) ggX7_does_X7_comes
set_option maxRecDepth 20000 in
theorem ggX7_does_X7_limits : GoodIn wsX7_does wsX7_limits := goodIn_r _ [48, 49, 50, 51, 5, 52, 11, 30, 31, 32, 33, 34, 35, 36, 37, 38, 39, 40, 41, 42, 43, 44, 105, 106, 107, 108, 109, 110, 111, 112, 113, 114, 115] (by decide +kernel) (by decide +kernel)
set_option maxRecDepth 20000 in
theorem gX7_does_X7_limits : GoodIn wsX7_does (wsV RX7 140 RX7 yX7_limits wsX7_limits) := goodIn_app (goodIn_of _ (by decide +kernel)) ggX7_does_X7_limits
set_option maxRecDepth 20000 in
theorem ggX7_does_X7_changes : GoodIn wsX7_does wsX7_changes := goodIn_r _ [52, 11, 105, 106, 107, 108, 109, 110, 111, 112, 113, 114, 115] (by decide +kernel) (by decide +kernel)
set_option maxRecDepth 20000 in
theorem gX7_does_X7_changes : GoodIn wsX7_does (wsV RX7 133 RX7 yX7_changes wsX7_changes) := goodIn_app (goodIn_of _ (by decide +kernel)) ggX7_does_X7_changes
set_option maxRecDepth 20000 in
theorem ggX7_does_X7_stepsMany : GoodIn wsX7_does wsX7_stepsMany := goodIn_r _ [56, 11, 57, 58, 5, 59, 60, 61, 62, 41, 63, 64, 65, 66, 67, 68, 38, 39, 40, 42, 43, 44, 69, 70, 71, 35, 36, 37, 72, 73, 74, 34, 75, 76, 77, 78, 79, 80, 81, 82, 83, 84, 105, 106, 107, 108, 109, 110, 111, 112, 113, 114, 115] (by decide +kernel) (by decide +kernel)
set_option maxRecDepth 20000 in
theorem gX7_does_X7_stepsMany : GoodIn wsX7_does (wsV RX7 144 RX7 yX7_stepsMany wsX7_stepsMany) := goodIn_app (goodIn_of _ (by decide +kernel)) ggX7_does_X7_stepsMany
set_option maxRecDepth 20000 in
theorem ggX7_does_X7_repairsNow : GoodIn wsX7_does wsX7_repairsNow := goodIn_r _ [88, 11, 34, 66, 67, 5, 68, 38, 39, 40, 41, 42, 43, 44, 89, 90, 91, 92, 93, 94, 69, 70, 71, 95, 96, 97, 98, 99, 100, 72, 73, 74, 105, 106, 107, 108, 109, 110, 111, 112, 113, 114, 115] (by decide +kernel) (by decide +kernel)
set_option maxRecDepth 20000 in
theorem gX7_does_X7_repairsNow : GoodIn wsX7_does (wsV RX7 150 RX7 yX7_repairsNow wsX7_repairsNow) := goodIn_app (goodIn_of _ (by decide +kernel)) ggX7_does_X7_repairsNow
set_option maxRecDepth 20000 in
theorem ggX7_does_X7_drops : GoodIn wsX7_does wsX7_drops := goodIn_r _ [104, 11, 30, 31, 32, 5, 33, 34, 35, 36, 37, 38, 39, 40, 41, 42, 43, 44, 105, 106, 107, 108, 109, 110, 111, 112, 113, 114, 115] (by decide +kernel) (by decide +kernel)
set_option maxRecDepth 20000 in
theorem gX7_does_X7_drops : GoodIn wsX7_does (wsV RX7 126 RX7 yX7_drops wsX7_drops) := goodIn_app (goodIn_of _ (by decide +kernel)) ggX7_does_X7_drops
theorem dX7_does_0 : decode cX7_does 0 = .ok (.aload_n 0, 1) := by decide +kernel
theorem dX7_does_1 : decode cX7_does 1 = .ok (.getfield 30, 3) := by decide +kernel
theorem dX7_does_4 : decode cX7_does 4 = .ok (.iconst 5, 1) := by decide +kernel
theorem dX7_does_5 : decode cX7_does 5 = .ok (.iload_n 1, 1) := by decide +kernel
theorem dX7_does_6 : decode cX7_does 6 = .ok (.imul, 1) := by decide +kernel
theorem dX7_does_7 : decode cX7_does 7 = .ok (.iaload, 1) := by decide +kernel
theorem dX7_does_8 : decode cX7_does 8 = .ok (.istore_n 2, 1) := by decide +kernel
theorem dX7_does_9 : decode cX7_does 9 = .ok (.aload_n 0, 1) := by decide +kernel
theorem dX7_does_10 : decode cX7_does 10 = .ok (.getfield 30, 3) := by decide +kernel
theorem dX7_does_13 : decode cX7_does 13 = .ok (.iconst 5, 1) := by decide +kernel
theorem dX7_does_14 : decode cX7_does 14 = .ok (.iload_n 1, 1) := by decide +kernel
theorem dX7_does_15 : decode cX7_does 15 = .ok (.imul, 1) := by decide +kernel
theorem dX7_does_16 : decode cX7_does 16 = .ok (.iconst 1, 1) := by decide +kernel
theorem dX7_does_17 : decode cX7_does 17 = .ok (.iadd, 1) := by decide +kernel
theorem dX7_does_18 : decode cX7_does 18 = .ok (.iaload, 1) := by decide +kernel
theorem dX7_does_19 : decode cX7_does 19 = .ok (.istore_n 3, 1) := by decide +kernel
theorem dX7_does_20 : decode cX7_does 20 = .ok (.aload_n 0, 1) := by decide +kernel
theorem dX7_does_21 : decode cX7_does 21 = .ok (.getfield 30, 3) := by decide +kernel
theorem dX7_does_24 : decode cX7_does 24 = .ok (.iconst 5, 1) := by decide +kernel
theorem dX7_does_25 : decode cX7_does 25 = .ok (.iload_n 1, 1) := by decide +kernel
theorem dX7_does_26 : decode cX7_does 26 = .ok (.imul, 1) := by decide +kernel
theorem dX7_does_27 : decode cX7_does 27 = .ok (.iconst 2, 1) := by decide +kernel
theorem dX7_does_28 : decode cX7_does 28 = .ok (.iadd, 1) := by decide +kernel
theorem dX7_does_29 : decode cX7_does 29 = .ok (.iaload, 1) := by decide +kernel
theorem dX7_does_30 : decode cX7_does 30 = .ok (.istore 4, 2) := by decide +kernel
theorem dX7_does_32 : decode cX7_does 32 = .ok (.aload_n 0, 1) := by decide +kernel
theorem dX7_does_33 : decode cX7_does 33 = .ok (.getfield 30, 3) := by decide +kernel
theorem dX7_does_36 : decode cX7_does 36 = .ok (.iconst 5, 1) := by decide +kernel
theorem dX7_does_37 : decode cX7_does 37 = .ok (.iload_n 1, 1) := by decide +kernel
theorem dX7_does_38 : decode cX7_does 38 = .ok (.imul, 1) := by decide +kernel
theorem dX7_does_39 : decode cX7_does 39 = .ok (.iconst 3, 1) := by decide +kernel
theorem dX7_does_40 : decode cX7_does 40 = .ok (.iadd, 1) := by decide +kernel
theorem dX7_does_41 : decode cX7_does 41 = .ok (.iaload, 1) := by decide +kernel
theorem dX7_does_42 : decode cX7_does 42 = .ok (.istore 5, 2) := by decide +kernel
theorem dX7_does_44 : decode cX7_does 44 = .ok (.aload_n 0, 1) := by decide +kernel
theorem dX7_does_45 : decode cX7_does 45 = .ok (.getfield 30, 3) := by decide +kernel
theorem dX7_does_48 : decode cX7_does 48 = .ok (.iconst 5, 1) := by decide +kernel
theorem dX7_does_49 : decode cX7_does 49 = .ok (.iload_n 1, 1) := by decide +kernel
theorem dX7_does_50 : decode cX7_does 50 = .ok (.imul, 1) := by decide +kernel
theorem dX7_does_51 : decode cX7_does 51 = .ok (.iconst 4, 1) := by decide +kernel
theorem dX7_does_52 : decode cX7_does 52 = .ok (.iadd, 1) := by decide +kernel
theorem dX7_does_53 : decode cX7_does 53 = .ok (.iaload, 1) := by decide +kernel
theorem dX7_does_54 : decode cX7_does 54 = .ok (.istore 6, 2) := by decide +kernel
theorem dX7_does_56 : decode cX7_does 56 = .ok (.aload_n 0, 1) := by decide +kernel
theorem dX7_does_57 : decode cX7_does 57 = .ok (.iload_n 2, 1) := by decide +kernel
theorem dX7_does_58 : decode cX7_does 58 = .ok (.iload_n 3, 1) := by decide +kernel
theorem dX7_does_59 : decode cX7_does 59 = .ok (.iload 4, 2) := by decide +kernel
theorem dX7_does_61 : decode cX7_does 61 = .ok (.iload 5, 2) := by decide +kernel
theorem dX7_does_63 : decode cX7_does 63 = .ok (.iload 6, 2) := by decide +kernel
theorem dX7_does_65 : decode cX7_does 65 = .ok (.invokevirtual 202, 3) := by decide +kernel
theorem dX7_does_68 : decode cX7_does 68 = .ok (.ifCond .eq 5, 3) := by decide +kernel
theorem dX7_does_71 : decode cX7_does 71 = .ok (.iconst 0, 1) := by decide +kernel
theorem dX7_does_72 : decode cX7_does 72 = .ok (.ireturn, 1) := by decide +kernel
theorem dX7_does_73 : decode cX7_does 73 = .ok (.iload_n 2, 1) := by decide +kernel
theorem dX7_does_74 : decode cX7_does 74 = .ok (.lookupswitch 104 #[(105, 50), (108, 65), (114, 76), (115, 87), (120, 96)], 50) := by decide +kernel
theorem dX7_does_124 : decode cX7_does 124 = .ok (.aload_n 0, 1) := by decide +kernel
theorem dX7_does_125 : decode cX7_does 125 = .ok (.iload_n 3, 1) := by decide +kernel
theorem dX7_does_126 : decode cX7_does 126 = .ok (.iload 4, 2) := by decide +kernel
theorem dX7_does_128 : decode cX7_does 128 = .ok (.iload 5, 2) := by decide +kernel
theorem dX7_does_130 : decode cX7_does 130 = .ok (.iload 6, 2) := by decide +kernel
theorem dX7_does_132 : decode cX7_does 132 = .ok (.invokevirtual 119, 3) := by decide +kernel
theorem dX7_does_135 : decode cX7_does 135 = .ok (.pop, 1) := by decide +kernel
theorem dX7_does_136 : decode cX7_does 136 = .ok (.goto 48, 3) := by decide +kernel
theorem dX7_does_139 : decode cX7_does 139 = .ok (.aload_n 0, 1) := by decide +kernel
theorem dX7_does_140 : decode cX7_does 140 = .ok (.iload_n 3, 1) := by decide +kernel
theorem dX7_does_141 : decode cX7_does 141 = .ok (.iload 4, 2) := by decide +kernel
theorem dX7_does_143 : decode cX7_does 143 = .ok (.invokevirtual 140, 3) := by decide +kernel
theorem dX7_does_146 : decode cX7_does 146 = .ok (.pop, 1) := by decide +kernel
theorem dX7_does_147 : decode cX7_does 147 = .ok (.goto 37, 3) := by decide +kernel
theorem dX7_does_150 : decode cX7_does 150 = .ok (.aload_n 0, 1) := by decide +kernel
theorem dX7_does_151 : decode cX7_does 151 = .ok (.bipush 71, 2) := by decide +kernel
theorem dX7_does_153 : decode cX7_does 153 = .ok (.iload_n 3, 1) := by decide +kernel
theorem dX7_does_154 : decode cX7_does 154 = .ok (.invokevirtual 133, 3) := by decide +kernel
theorem dX7_does_157 : decode cX7_does 157 = .ok (.pop, 1) := by decide +kernel
theorem dX7_does_158 : decode cX7_does 158 = .ok (.goto 26, 3) := by decide +kernel
theorem dX7_does_161 : decode cX7_does 161 = .ok (.aload_n 0, 1) := by decide +kernel
theorem dX7_does_162 : decode cX7_does 162 = .ok (.iload_n 3, 1) := by decide +kernel
theorem dX7_does_163 : decode cX7_does 163 = .ok (.invokevirtual 144, 3) := by decide +kernel
theorem dX7_does_166 : decode cX7_does 166 = .ok (.pop, 1) := by decide +kernel
theorem dX7_does_167 : decode cX7_does 167 = .ok (.goto 17, 3) := by decide +kernel
theorem dX7_does_170 : decode cX7_does 170 = .ok (.aload_n 0, 1) := by decide +kernel
theorem dX7_does_171 : decode cX7_does 171 = .ok (.invokevirtual 150, 3) := by decide +kernel
theorem dX7_does_174 : decode cX7_does 174 = .ok (.pop, 1) := by decide +kernel
theorem dX7_does_175 : decode cX7_does 175 = .ok (.goto 9, 3) := by decide +kernel
theorem dX7_does_178 : decode cX7_does 178 = .ok (.aload_n 0, 1) := by decide +kernel
theorem dX7_does_179 : decode cX7_does 179 = .ok (.iload_n 3, 1) := by decide +kernel
theorem dX7_does_180 : decode cX7_does 180 = .ok (.invokevirtual 126, 3) := by decide +kernel
theorem dX7_does_183 : decode cX7_does 183 = .ok (.pop, 1) := by decide +kernel
theorem dX7_does_184 : decode cX7_does 184 = .ok (.iconst 1, 1) := by decide +kernel
theorem dX7_does_185 : decode cX7_does 185 = .ok (.ireturn, 1) := by decide +kernel
set_option maxRecDepth 20000 in
theorem ggX7_carryOut_X7_isText : GoodIn wsX7_carryOut wsX7_isText := goodIn_r _ [7, 8, 2, 1, 9, 10, 11, 6, 12, 13, 14, 15, 16, 17, 18, 19, 20, 21, 22, 23, 24, 25, 26, 27, 28, 29, 30, 31, 32, 33, 146, 147, 148, 149, 150, 151, 152, 153, 154, 155, 156] (by decide +kernel) (by decide +kernel)
set_option maxRecDepth 20000 in
theorem gX7_carryOut_X7_isText : GoodIn wsX7_carryOut (wsV RX7 199 RX7 yX7_isText wsX7_isText) := goodIn_app (goodIn_of _ (by decide +kernel)) ggX7_carryOut_X7_isText
set_option maxRecDepth 20000 in
theorem ggX7_carryOut_X7_records : GoodIn wsX7_carryOut wsX7_records := goodIn_r _ [37, 38, 39, 40, 41, 42, 6, 43, 146, 147, 148, 149, 150, 151, 152, 153, 154, 155, 156] (by decide +kernel) (by decide +kernel)
set_option maxRecDepth 20000 in
theorem gX7_carryOut_X7_records : GoodIn wsX7_carryOut (wsV RX7 52 RX7 yX7_records wsX7_records) := goodIn_app (goodIn_of _ (by decide +kernel)) ggX7_carryOut_X7_records
set_option maxRecDepth 20000 in
theorem ggX7_carryOut_X7_does : GoodIn wsX7_carryOut wsX7_does := goodIn_r _ [47, 14, 48, 49, 50, 6, 51, 52, 53, 54, 55, 40, 56, 23, 24, 25, 57, 58, 59, 60, 61, 62, 63, 64, 65, 66, 67, 68, 69, 70, 71, 72, 73, 74, 75, 76, 77, 78, 79, 80, 81, 82, 83, 84, 85, 86, 87, 88, 89, 90, 91, 92, 93, 94, 95, 96, 97, 98, 99, 100, 101, 102, 103, 104, 105, 106, 107, 108, 109, 110, 111, 112, 113, 114, 115, 116, 117, 118, 119, 120, 121, 122, 123, 124, 125, 126, 127, 128, 129, 130, 131, 132, 133, 134, 135, 136, 137, 138, 139, 140, 141, 142, 143, 144, 145, 146, 147, 148, 149, 150, 151, 152, 153, 154, 155, 156] (by decide +kernel) (by decide +kernel)
set_option maxRecDepth 20000 in
theorem gX7_carryOut_X7_does : GoodIn wsX7_carryOut (wsV RX7 206 RX7 yX7_does wsX7_does) := goodIn_app (goodIn_of _ (by decide +kernel)) ggX7_carryOut_X7_does
theorem dX7_carryOut_0 : decode cX7_carryOut 0 = .ok (.aload_n 0, 1) := by decide +kernel
theorem dX7_carryOut_1 : decode cX7_carryOut 1 = .ok (.invokevirtual 199, 3) := by decide +kernel
theorem dX7_carryOut_4 : decode cX7_carryOut 4 = .ok (.ifCond .ne 6, 3) := by decide +kernel
theorem dX7_carryOut_7 : decode cX7_carryOut 7 = .ok (.bipush (-3), 2) := by decide +kernel
theorem dX7_carryOut_9 : decode cX7_carryOut 9 = .ok (.ireturn, 1) := by decide +kernel
theorem dX7_carryOut_10 : decode cX7_carryOut 10 = .ok (.aload_n 0, 1) := by decide +kernel
theorem dX7_carryOut_11 : decode cX7_carryOut 11 = .ok (.invokevirtual 52, 3) := by decide +kernel
theorem dX7_carryOut_14 : decode cX7_carryOut 14 = .ok (.aload_n 0, 1) := by decide +kernel
theorem dX7_carryOut_15 : decode cX7_carryOut 15 = .ok (.iconst 0, 1) := by decide +kernel
theorem dX7_carryOut_16 : decode cX7_carryOut 16 = .ok (.putfield 158, 3) := by decide +kernel
theorem dX7_carryOut_19 : decode cX7_carryOut 19 = .ok (.iconst 0, 1) := by decide +kernel
theorem dX7_carryOut_20 : decode cX7_carryOut 20 = .ok (.istore_n 1, 1) := by decide +kernel
theorem dX7_carryOut_21 : decode cX7_carryOut 21 = .ok (.iload_n 1, 1) := by decide +kernel
theorem dX7_carryOut_22 : decode cX7_carryOut 22 = .ok (.aload_n 0, 1) := by decide +kernel
theorem dX7_carryOut_23 : decode cX7_carryOut 23 = .ok (.getfield 183, 3) := by decide +kernel
theorem dX7_carryOut_26 : decode cX7_carryOut 26 = .ok (.if_icmp .ge 17, 3) := by decide +kernel
theorem dX7_carryOut_29 : decode cX7_carryOut 29 = .ok (.aload_n 0, 1) := by decide +kernel
theorem dX7_carryOut_30 : decode cX7_carryOut 30 = .ok (.iload_n 1, 1) := by decide +kernel
theorem dX7_carryOut_31 : decode cX7_carryOut 31 = .ok (.invokevirtual 206, 3) := by decide +kernel
theorem dX7_carryOut_34 : decode cX7_carryOut 34 = .ok (.ifCond .eq 9, 3) := by decide +kernel
theorem dX7_carryOut_37 : decode cX7_carryOut 37 = .ok (.iinc 1 1, 3) := by decide +kernel
theorem dX7_carryOut_40 : decode cX7_carryOut 40 = .ok (.goto (-19), 3) := by decide +kernel
theorem dX7_carryOut_43 : decode cX7_carryOut 43 = .ok (.iload_n 1, 1) := by decide +kernel
theorem dX7_carryOut_44 : decode cX7_carryOut 44 = .ok (.ireturn, 1) := by decide +kernel
theorem dJ9_floorDiv_f86c9_0 : decode cJ9_floorDiv_f86c9 0 = .ok (.lload_n 0, 1) := by decide +kernel
theorem dJ9_floorDiv_f86c9_1 : decode cJ9_floorDiv_f86c9 1 = .ok (.lload_n 2, 1) := by decide +kernel
theorem dJ9_floorDiv_f86c9_2 : decode cJ9_floorDiv_f86c9 2 = .ok (.ldiv, 1) := by decide +kernel
theorem dJ9_floorDiv_f86c9_3 : decode cJ9_floorDiv_f86c9 3 = .ok (.lstore 4, 2) := by decide +kernel
theorem dJ9_floorDiv_f86c9_5 : decode cJ9_floorDiv_f86c9 5 = .ok (.lload_n 0, 1) := by decide +kernel
theorem dJ9_floorDiv_f86c9_6 : decode cJ9_floorDiv_f86c9 6 = .ok (.lload_n 2, 1) := by decide +kernel
theorem dJ9_floorDiv_f86c9_7 : decode cJ9_floorDiv_f86c9 7 = .ok (.lxor, 1) := by decide +kernel
theorem dJ9_floorDiv_f86c9_8 : decode cJ9_floorDiv_f86c9 8 = .ok (.lconst 0, 1) := by decide +kernel
theorem dJ9_floorDiv_f86c9_9 : decode cJ9_floorDiv_f86c9 9 = .ok (.lcmp, 1) := by decide +kernel
theorem dJ9_floorDiv_f86c9_10 : decode cJ9_floorDiv_f86c9 10 = .ok (.ifCond .ge 17, 3) := by decide +kernel
theorem dJ9_floorDiv_f86c9_13 : decode cJ9_floorDiv_f86c9 13 = .ok (.lload 4, 2) := by decide +kernel
theorem dJ9_floorDiv_f86c9_15 : decode cJ9_floorDiv_f86c9 15 = .ok (.lload_n 2, 1) := by decide +kernel
theorem dJ9_floorDiv_f86c9_16 : decode cJ9_floorDiv_f86c9 16 = .ok (.lmul, 1) := by decide +kernel
theorem dJ9_floorDiv_f86c9_17 : decode cJ9_floorDiv_f86c9 17 = .ok (.lload_n 0, 1) := by decide +kernel
theorem dJ9_floorDiv_f86c9_18 : decode cJ9_floorDiv_f86c9 18 = .ok (.lcmp, 1) := by decide +kernel
theorem dJ9_floorDiv_f86c9_19 : decode cJ9_floorDiv_f86c9 19 = .ok (.ifCond .eq 8, 3) := by decide +kernel
theorem dJ9_floorDiv_f86c9_22 : decode cJ9_floorDiv_f86c9 22 = .ok (.lload 4, 2) := by decide +kernel
theorem dJ9_floorDiv_f86c9_24 : decode cJ9_floorDiv_f86c9 24 = .ok (.lconst 1, 1) := by decide +kernel
theorem dJ9_floorDiv_f86c9_25 : decode cJ9_floorDiv_f86c9 25 = .ok (.lsub, 1) := by decide +kernel
theorem dJ9_floorDiv_f86c9_26 : decode cJ9_floorDiv_f86c9 26 = .ok (.lreturn, 1) := by decide +kernel
theorem dJ9_floorDiv_f86c9_27 : decode cJ9_floorDiv_f86c9 27 = .ok (.lload 4, 2) := by decide +kernel
theorem dJ9_floorDiv_f86c9_29 : decode cJ9_floorDiv_f86c9 29 = .ok (.lreturn, 1) := by decide +kernel
theorem dJ9_max_7cf53_0 : decode cJ9_max_7cf53 0 = .ok (.iload_n 0, 1) := by decide +kernel
theorem dJ9_max_7cf53_1 : decode cJ9_max_7cf53 1 = .ok (.iload_n 1, 1) := by decide +kernel
theorem dJ9_max_7cf53_2 : decode cJ9_max_7cf53 2 = .ok (.if_icmp .lt 7, 3) := by decide +kernel
theorem dJ9_max_7cf53_5 : decode cJ9_max_7cf53 5 = .ok (.iload_n 0, 1) := by decide +kernel
theorem dJ9_max_7cf53_6 : decode cJ9_max_7cf53 6 = .ok (.goto 4, 3) := by decide +kernel
theorem dJ9_max_7cf53_9 : decode cJ9_max_7cf53 9 = .ok (.iload_n 1, 1) := by decide +kernel
theorem dJ9_max_7cf53_10 : decode cJ9_max_7cf53 10 = .ok (.ireturn, 1) := by decide +kernel
theorem dJ9_max_f86c9_0 : decode cJ9_max_f86c9 0 = .ok (.lload_n 0, 1) := by decide +kernel
theorem dJ9_max_f86c9_1 : decode cJ9_max_f86c9 1 = .ok (.lload_n 2, 1) := by decide +kernel
theorem dJ9_max_f86c9_2 : decode cJ9_max_f86c9 2 = .ok (.lcmp, 1) := by decide +kernel
theorem dJ9_max_f86c9_3 : decode cJ9_max_f86c9 3 = .ok (.ifCond .lt 7, 3) := by decide +kernel
theorem dJ9_max_f86c9_6 : decode cJ9_max_f86c9 6 = .ok (.lload_n 0, 1) := by decide +kernel
theorem dJ9_max_f86c9_7 : decode cJ9_max_f86c9 7 = .ok (.goto 4, 3) := by decide +kernel
theorem dJ9_max_f86c9_10 : decode cJ9_max_f86c9 10 = .ok (.lload_n 2, 1) := by decide +kernel
theorem dJ9_max_f86c9_11 : decode cJ9_max_f86c9 11 = .ok (.lreturn, 1) := by decide +kernel
theorem dJ9_min_7cf53_0 : decode cJ9_min_7cf53 0 = .ok (.iload_n 0, 1) := by decide +kernel
theorem dJ9_min_7cf53_1 : decode cJ9_min_7cf53 1 = .ok (.iload_n 1, 1) := by decide +kernel
theorem dJ9_min_7cf53_2 : decode cJ9_min_7cf53 2 = .ok (.if_icmp .gt 7, 3) := by decide +kernel
theorem dJ9_min_7cf53_5 : decode cJ9_min_7cf53 5 = .ok (.iload_n 0, 1) := by decide +kernel
theorem dJ9_min_7cf53_6 : decode cJ9_min_7cf53 6 = .ok (.goto 4, 3) := by decide +kernel
theorem dJ9_min_7cf53_9 : decode cJ9_min_7cf53 9 = .ok (.iload_n 1, 1) := by decide +kernel
theorem dJ9_min_7cf53_10 : decode cJ9_min_7cf53 10 = .ok (.ireturn, 1) := by decide +kernel
theorem dJ9_min_f86c9_0 : decode cJ9_min_f86c9 0 = .ok (.lload_n 0, 1) := by decide +kernel
theorem dJ9_min_f86c9_1 : decode cJ9_min_f86c9 1 = .ok (.lload_n 2, 1) := by decide +kernel
theorem dJ9_min_f86c9_2 : decode cJ9_min_f86c9 2 = .ok (.lcmp, 1) := by decide +kernel
theorem dJ9_min_f86c9_3 : decode cJ9_min_f86c9 3 = .ok (.ifCond .gt 7, 3) := by decide +kernel
theorem dJ9_min_f86c9_6 : decode cJ9_min_f86c9 6 = .ok (.lload_n 0, 1) := by decide +kernel
theorem dJ9_min_f86c9_7 : decode cJ9_min_f86c9 7 = .ok (.goto 4, 3) := by decide +kernel
theorem dJ9_min_f86c9_10 : decode cJ9_min_f86c9 10 = .ok (.lload_n 2, 1) := by decide +kernel
theorem dJ9_min_f86c9_11 : decode cJ9_min_f86c9 11 = .ok (.lreturn, 1) := by decide +kernel
set_option maxRecDepth 20000 in
theorem ggJ0_length_8abf5_J0_coder_7d493 : GoodIn wsJ0_length_8abf5 wsJ0_coder_7d493 := goodIn_r _ [6, 7, 8] (by decide +kernel) (by decide +kernel)
set_option maxRecDepth 20000 in
theorem gJ0_length_8abf5_J0_coder_7d493 : GoodIn wsJ0_length_8abf5 (wsV RJ0 335 RJ0 yJ0_coder_7d493 wsJ0_coder_7d493) := goodIn_app (goodIn_of _ (by decide +kernel)) ggJ0_length_8abf5_J0_coder_7d493
theorem dJ0_length_8abf5_0 : decode cJ0_length_8abf5 0 = .ok (.aload_n 0, 1) := by decide +kernel
theorem dJ0_length_8abf5_1 : decode cJ0_length_8abf5 1 = .ok (.getfield 9, 3) := by decide +kernel
theorem dJ0_length_8abf5_4 : decode cJ0_length_8abf5 4 = .ok (.arraylength, 1) := by decide +kernel
theorem dJ0_length_8abf5_5 : decode cJ0_length_8abf5 5 = .ok (.aload_n 0, 1) := by decide +kernel
theorem dJ0_length_8abf5_6 : decode cJ0_length_8abf5 6 = .ok (.invokevirtual 335, 3) := by decide +kernel
theorem dJ0_length_8abf5_9 : decode cJ0_length_8abf5 9 = .ok (.ishr, 1) := by decide +kernel
theorem dJ0_length_8abf5_10 : decode cJ0_length_8abf5 10 = .ok (.ireturn, 1) := by decide +kernel
theorem dJ0_isEmpty_aae02_0 : decode cJ0_isEmpty_aae02 0 = .ok (.aload_n 0, 1) := by decide +kernel
theorem dJ0_isEmpty_aae02_1 : decode cJ0_isEmpty_aae02 1 = .ok (.getfield 9, 3) := by decide +kernel
theorem dJ0_isEmpty_aae02_4 : decode cJ0_isEmpty_aae02 4 = .ok (.arraylength, 1) := by decide +kernel
theorem dJ0_isEmpty_aae02_5 : decode cJ0_isEmpty_aae02 5 = .ok (.ifCond .ne 7, 3) := by decide +kernel
theorem dJ0_isEmpty_aae02_8 : decode cJ0_isEmpty_aae02 8 = .ok (.iconst 1, 1) := by decide +kernel
theorem dJ0_isEmpty_aae02_9 : decode cJ0_isEmpty_aae02 9 = .ok (.goto 4, 3) := by decide +kernel
theorem dJ0_isEmpty_aae02_12 : decode cJ0_isEmpty_aae02 12 = .ok (.iconst 0, 1) := by decide +kernel
theorem dJ0_isEmpty_aae02_13 : decode cJ0_isEmpty_aae02 13 = .ok (.ireturn, 1) := by decide +kernel
set_option maxRecDepth 20000 in
theorem ggJ0_charAt_5068e_J0_isLatin1_aae02 : GoodIn wsJ0_charAt_5068e wsJ0_isLatin1_aae02 := goodIn_r _ [6, 7, 8] (by decide +kernel) (by decide +kernel)
set_option maxRecDepth 20000 in
theorem gJ0_charAt_5068e_J0_isLatin1_aae02 : GoodIn wsJ0_charAt_5068e (wsV RJ0 492 RJ0 yJ0_isLatin1_aae02 wsJ0_isLatin1_aae02) := goodIn_app (goodIn_of _ (by decide +kernel)) ggJ0_charAt_5068e_J0_isLatin1_aae02
set_option maxRecDepth 20000 in
theorem ggJ0_charAt_5068e_J1_charAt_3b067 : GoodIn wsJ0_charAt_5068e wsJ1_charAt_3b067 := goodIn_r _ [12, 13, 14, 5, 15, 16, 17, 18, 19, 20] (by decide +kernel) (by decide +kernel)
set_option maxRecDepth 20000 in
theorem gJ0_charAt_5068e_J1_charAt_3b067 : GoodIn wsJ0_charAt_5068e (va_wsS RJ0 495 yJ1_charAt_3b067 wsJ1_charAt_3b067) := goodIn_app (goodIn_of _ (by decide +kernel)) ggJ0_charAt_5068e_J1_charAt_3b067
set_option maxRecDepth 20000 in
theorem ggJ0_charAt_5068e_J2_charAt_3b067 : GoodIn wsJ0_charAt_5068e wsJ2_charAt_3b067 := goodIn_r _ [24, 25, 26, 23, 27, 28, 29, 30, 31, 14, 5, 15, 16, 17, 18, 19, 20, 32, 33, 34, 35, 36, 37] (by decide +kernel) (by decide +kernel)
set_option maxRecDepth 20000 in
theorem gJ0_charAt_5068e_J2_charAt_3b067 : GoodIn wsJ0_charAt_5068e (va_wsS RJ0 498 yJ2_charAt_3b067 wsJ2_charAt_3b067) := goodIn_app (goodIn_of _ (by decide +kernel)) ggJ0_charAt_5068e_J2_charAt_3b067
theorem dJ0_charAt_5068e_0 : decode cJ0_charAt_5068e 0 = .ok (.aload_n 0, 1) := by decide +kernel
theorem dJ0_charAt_5068e_1 : decode cJ0_charAt_5068e 1 = .ok (.invokevirtual 492, 3) := by decide +kernel
theorem dJ0_charAt_5068e_4 : decode cJ0_charAt_5068e 4 = .ok (.ifCond .eq 12, 3) := by decide +kernel
theorem dJ0_charAt_5068e_7 : decode cJ0_charAt_5068e 7 = .ok (.aload_n 0, 1) := by decide +kernel
theorem dJ0_charAt_5068e_8 : decode cJ0_charAt_5068e 8 = .ok (.getfield 9, 3) := by decide +kernel
theorem dJ0_charAt_5068e_11 : decode cJ0_charAt_5068e 11 = .ok (.iload_n 1, 1) := by decide +kernel
theorem dJ0_charAt_5068e_12 : decode cJ0_charAt_5068e 12 = .ok (.invokestatic 495, 3) := by decide +kernel
theorem dJ0_charAt_5068e_15 : decode cJ0_charAt_5068e 15 = .ok (.ireturn, 1) := by decide +kernel
theorem dJ0_charAt_5068e_16 : decode cJ0_charAt_5068e 16 = .ok (.aload_n 0, 1) := by decide +kernel
theorem dJ0_charAt_5068e_17 : decode cJ0_charAt_5068e 17 = .ok (.getfield 9, 3) := by decide +kernel
theorem dJ0_charAt_5068e_20 : decode cJ0_charAt_5068e 20 = .ok (.iload_n 1, 1) := by decide +kernel
theorem dJ0_charAt_5068e_21 : decode cJ0_charAt_5068e 21 = .ok (.invokestatic 498, 3) := by decide +kernel
theorem dJ0_charAt_5068e_24 : decode cJ0_charAt_5068e 24 = .ok (.ireturn, 1) := by decide +kernel
theorem dJ0_coder_7d493_0 : decode cJ0_coder_7d493 0 = .ok (.getstatic 38, 3) := by decide +kernel
theorem dJ0_coder_7d493_3 : decode cJ0_coder_7d493 3 = .ok (.ifCond .eq 10, 3) := by decide +kernel
theorem dJ0_coder_7d493_6 : decode cJ0_coder_7d493 6 = .ok (.aload_n 0, 1) := by decide +kernel
theorem dJ0_coder_7d493_7 : decode cJ0_coder_7d493 7 = .ok (.getfield 15, 3) := by decide +kernel
theorem dJ0_coder_7d493_10 : decode cJ0_coder_7d493 10 = .ok (.goto 4, 3) := by decide +kernel
theorem dJ0_coder_7d493_13 : decode cJ0_coder_7d493 13 = .ok (.iconst 1, 1) := by decide +kernel
theorem dJ0_coder_7d493_14 : decode cJ0_coder_7d493 14 = .ok (.ireturn, 1) := by decide +kernel
theorem dJ0_isLatin1_aae02_0 : decode cJ0_isLatin1_aae02 0 = .ok (.getstatic 38, 3) := by decide +kernel
theorem dJ0_isLatin1_aae02_3 : decode cJ0_isLatin1_aae02 3 = .ok (.ifCond .eq 14, 3) := by decide +kernel
theorem dJ0_isLatin1_aae02_6 : decode cJ0_isLatin1_aae02 6 = .ok (.aload_n 0, 1) := by decide +kernel
theorem dJ0_isLatin1_aae02_7 : decode cJ0_isLatin1_aae02 7 = .ok (.getfield 15, 3) := by decide +kernel
theorem dJ0_isLatin1_aae02_10 : decode cJ0_isLatin1_aae02 10 = .ok (.ifCond .ne 7, 3) := by decide +kernel
theorem dJ0_isLatin1_aae02_13 : decode cJ0_isLatin1_aae02 13 = .ok (.iconst 1, 1) := by decide +kernel
theorem dJ0_isLatin1_aae02_14 : decode cJ0_isLatin1_aae02 14 = .ok (.goto 4, 3) := by decide +kernel
theorem dJ0_isLatin1_aae02_17 : decode cJ0_isLatin1_aae02 17 = .ok (.iconst 0, 1) := by decide +kernel
theorem dJ0_isLatin1_aae02_18 : decode cJ0_isLatin1_aae02 18 = .ok (.ireturn, 1) := by decide +kernel
set_option maxRecDepth 20000 in
theorem ggJ0_checkIndex_df160_J3_checkIndex_8e157 : GoodIn wsJ0_checkIndex_df160 wsJ3_checkIndex_8e157 := goodIn_r _ [5] (by decide +kernel) (by decide +kernel)
set_option maxRecDepth 20000 in
theorem gJ0_checkIndex_df160_J3_checkIndex_8e157 : GoodIn wsJ0_checkIndex_df160 (va_wsS RJ0 1059 yJ3_checkIndex_8e157 wsJ3_checkIndex_8e157) := goodIn_app (goodIn_of _ (by decide +kernel)) ggJ0_checkIndex_df160_J3_checkIndex_8e157
theorem dJ0_checkIndex_df160_0 : decode cJ0_checkIndex_df160 0 = .ok (.iload_n 0, 1) := by decide +kernel
theorem dJ0_checkIndex_df160_1 : decode cJ0_checkIndex_df160 1 = .ok (.iload_n 1, 1) := by decide +kernel
theorem dJ0_checkIndex_df160_2 : decode cJ0_checkIndex_df160 2 = .ok (.getstatic 1053, 3) := by decide +kernel
theorem dJ0_checkIndex_df160_5 : decode cJ0_checkIndex_df160 5 = .ok (.invokestatic 1059, 3) := by decide +kernel
theorem dJ0_checkIndex_df160_8 : decode cJ0_checkIndex_df160 8 = .ok (.pop, 1) := by decide +kernel
theorem dJ0_checkIndex_df160_9 : decode cJ0_checkIndex_df160 9 = .ok (.return_, 1) := by decide +kernel
set_option maxRecDepth 20000 in
theorem ggJ1_charAt_3b067_J0_checkIndex_df160 : GoodIn wsJ1_charAt_3b067 wsJ0_checkIndex_df160 := goodIn_r _ [4, 5, 6, 7, 8, 9] (by decide +kernel) (by decide +kernel)
set_option maxRecDepth 20000 in
theorem gJ1_charAt_3b067_J0_checkIndex_df160 : GoodIn wsJ1_charAt_3b067 (va_wsS RJ1 9 yJ0_checkIndex_df160 wsJ0_checkIndex_df160) := goodIn_app (goodIn_of _ (by decide +kernel)) ggJ1_charAt_3b067_J0_checkIndex_df160
theorem dJ1_charAt_3b067_0 : decode cJ1_charAt_3b067 0 = .ok (.iload_n 1, 1) := by decide +kernel
theorem dJ1_charAt_3b067_1 : decode cJ1_charAt_3b067 1 = .ok (.aload_n 0, 1) := by decide +kernel
theorem dJ1_charAt_3b067_2 : decode cJ1_charAt_3b067 2 = .ok (.arraylength, 1) := by decide +kernel
theorem dJ1_charAt_3b067_3 : decode cJ1_charAt_3b067 3 = .ok (.invokestatic 9, 3) := by decide +kernel
theorem dJ1_charAt_3b067_6 : decode cJ1_charAt_3b067 6 = .ok (.aload_n 0, 1) := by decide +kernel
theorem dJ1_charAt_3b067_7 : decode cJ1_charAt_3b067 7 = .ok (.iload_n 1, 1) := by decide +kernel
theorem dJ1_charAt_3b067_8 : decode cJ1_charAt_3b067 8 = .ok (.baload, 1) := by decide +kernel
theorem dJ1_charAt_3b067_9 : decode cJ1_charAt_3b067 9 = .ok (.sipush 255, 3) := by decide +kernel
theorem dJ1_charAt_3b067_12 : decode cJ1_charAt_3b067 12 = .ok (.iand, 1) := by decide +kernel
theorem dJ1_charAt_3b067_13 : decode cJ1_charAt_3b067 13 = .ok (.i2c, 1) := by decide +kernel
theorem dJ1_charAt_3b067_14 : decode cJ1_charAt_3b067 14 = .ok (.ireturn, 1) := by decide +kernel
set_option maxRecDepth 20000 in
theorem ggJ2_getChar_3b067_J2_length_9d52b : GoodIn wsJ2_getChar_3b067 wsJ2_length_9d52b := goodIn_r _ [7] (by decide +kernel) (by decide +kernel)
set_option maxRecDepth 20000 in
theorem gJ2_getChar_3b067_J2_length_9d52b : GoodIn wsJ2_getChar_3b067 (va_wsS RJ2 48 yJ2_length_9d52b wsJ2_length_9d52b) := goodIn_app (goodIn_of _ (by decide +kernel)) ggJ2_getChar_3b067_J2_length_9d52b
theorem dJ2_getChar_3b067_0 : decode cJ2_getChar_3b067 0 = .ok (.getstatic 44, 3) := by decide +kernel
theorem dJ2_getChar_3b067_3 : decode cJ2_getChar_3b067 3 = .ok (.ifCond .ne 25, 3) := by decide +kernel
theorem dJ2_getChar_3b067_6 : decode cJ2_getChar_3b067 6 = .ok (.iload_n 1, 1) := by decide +kernel
theorem dJ2_getChar_3b067_7 : decode cJ2_getChar_3b067 7 = .ok (.ifCond .lt 11, 3) := by decide +kernel
theorem dJ2_getChar_3b067_10 : decode cJ2_getChar_3b067 10 = .ok (.iload_n 1, 1) := by decide +kernel
theorem dJ2_getChar_3b067_11 : decode cJ2_getChar_3b067 11 = .ok (.aload_n 0, 1) := by decide +kernel
theorem dJ2_getChar_3b067_12 : decode cJ2_getChar_3b067 12 = .ok (.invokestatic 48, 3) := by decide +kernel
theorem dJ2_getChar_3b067_15 : decode cJ2_getChar_3b067 15 = .ok (.if_icmp .lt 13, 3) := by decide +kernel
theorem dJ2_getChar_3b067_18 : decode cJ2_getChar_3b067 18 = .ok (.new 52, 3) := by decide +kernel
theorem dJ2_getChar_3b067_21 : decode cJ2_getChar_3b067 21 = .ok (.dup, 1) := by decide +kernel
theorem dJ2_getChar_3b067_22 : decode cJ2_getChar_3b067 22 = .ok (.ldc 54, 2) := by decide +kernel
theorem dJ2_getChar_3b067_24 : decode cJ2_getChar_3b067 24 = .ok (.invokespecial 56, 3) := by decide +kernel
theorem dJ2_getChar_3b067_27 : decode cJ2_getChar_3b067 27 = .ok (.athrow, 1) := by decide +kernel
theorem dJ2_getChar_3b067_28 : decode cJ2_getChar_3b067 28 = .ok (.iload_n 1, 1) := by decide +kernel
theorem dJ2_getChar_3b067_29 : decode cJ2_getChar_3b067 29 = .ok (.iconst 1, 1) := by decide +kernel
theorem dJ2_getChar_3b067_30 : decode cJ2_getChar_3b067 30 = .ok (.ishl, 1) := by decide +kernel
theorem dJ2_getChar_3b067_31 : decode cJ2_getChar_3b067 31 = .ok (.istore_n 1, 1) := by decide +kernel
theorem dJ2_getChar_3b067_32 : decode cJ2_getChar_3b067 32 = .ok (.aload_n 0, 1) := by decide +kernel
theorem dJ2_getChar_3b067_33 : decode cJ2_getChar_3b067 33 = .ok (.iload_n 1, 1) := by decide +kernel
theorem dJ2_getChar_3b067_34 : decode cJ2_getChar_3b067 34 = .ok (.iinc 1 1, 3) := by decide +kernel
theorem dJ2_getChar_3b067_37 : decode cJ2_getChar_3b067 37 = .ok (.baload, 1) := by decide +kernel
theorem dJ2_getChar_3b067_38 : decode cJ2_getChar_3b067 38 = .ok (.sipush 255, 3) := by decide +kernel
theorem dJ2_getChar_3b067_41 : decode cJ2_getChar_3b067 41 = .ok (.iand, 1) := by decide +kernel
theorem dJ2_getChar_3b067_42 : decode cJ2_getChar_3b067 42 = .ok (.getstatic 59, 3) := by decide +kernel
theorem dJ2_getChar_3b067_45 : decode cJ2_getChar_3b067 45 = .ok (.ishl, 1) := by decide +kernel
theorem dJ2_getChar_3b067_46 : decode cJ2_getChar_3b067 46 = .ok (.aload_n 0, 1) := by decide +kernel
theorem dJ2_getChar_3b067_47 : decode cJ2_getChar_3b067 47 = .ok (.iload_n 1, 1) := by decide +kernel
theorem dJ2_getChar_3b067_48 : decode cJ2_getChar_3b067 48 = .ok (.baload, 1) := by decide +kernel
theorem dJ2_getChar_3b067_49 : decode cJ2_getChar_3b067 49 = .ok (.sipush 255, 3) := by decide +kernel
theorem dJ2_getChar_3b067_52 : decode cJ2_getChar_3b067 52 = .ok (.iand, 1) := by decide +kernel
theorem dJ2_getChar_3b067_53 : decode cJ2_getChar_3b067 53 = .ok (.getstatic 63, 3) := by decide +kernel
theorem dJ2_getChar_3b067_56 : decode cJ2_getChar_3b067 56 = .ok (.ishl, 1) := by decide +kernel
theorem dJ2_getChar_3b067_57 : decode cJ2_getChar_3b067 57 = .ok (.ior, 1) := by decide +kernel
theorem dJ2_getChar_3b067_58 : decode cJ2_getChar_3b067 58 = .ok (.i2c, 1) := by decide +kernel
theorem dJ2_getChar_3b067_59 : decode cJ2_getChar_3b067 59 = .ok (.ireturn, 1) := by decide +kernel
theorem dJ2_length_9d52b_0 : decode cJ2_length_9d52b 0 = .ok (.aload_n 0, 1) := by decide +kernel
theorem dJ2_length_9d52b_1 : decode cJ2_length_9d52b 1 = .ok (.arraylength, 1) := by decide +kernel
theorem dJ2_length_9d52b_2 : decode cJ2_length_9d52b 2 = .ok (.iconst 1, 1) := by decide +kernel
theorem dJ2_length_9d52b_3 : decode cJ2_length_9d52b 3 = .ok (.ishr, 1) := by decide +kernel
theorem dJ2_length_9d52b_4 : decode cJ2_length_9d52b 4 = .ok (.ireturn, 1) := by decide +kernel
set_option maxRecDepth 20000 in
theorem ggJ2_charAt_3b067_J2_checkIndex_2214a : GoodIn wsJ2_charAt_3b067 wsJ2_checkIndex_2214a := goodIn_r _ [4, 5, 6, 3, 7, 8, 9, 10, 11, 12, 13, 14, 15, 16] (by decide +kernel) (by decide +kernel)
set_option maxRecDepth 20000 in
theorem gJ2_charAt_3b067_J2_checkIndex_2214a : GoodIn wsJ2_charAt_3b067 (va_wsS RJ2 67 yJ2_checkIndex_2214a wsJ2_checkIndex_2214a) := goodIn_app (goodIn_of _ (by decide +kernel)) ggJ2_charAt_3b067_J2_checkIndex_2214a
set_option maxRecDepth 20000 in
theorem ggJ2_charAt_3b067_J2_getChar_3b067 : GoodIn wsJ2_charAt_3b067 wsJ2_getChar_3b067 := goodIn_r _ [19, 20, 21, 22, 5, 6, 3, 7] (by decide +kernel) (by decide +kernel)
set_option maxRecDepth 20000 in
theorem gJ2_charAt_3b067_J2_getChar_3b067 : GoodIn wsJ2_charAt_3b067 (va_wsS RJ2 71 yJ2_getChar_3b067 wsJ2_getChar_3b067) := goodIn_app (goodIn_of _ (by decide +kernel)) ggJ2_charAt_3b067_J2_getChar_3b067
theorem dJ2_charAt_3b067_0 : decode cJ2_charAt_3b067 0 = .ok (.iload_n 1, 1) := by decide +kernel
theorem dJ2_charAt_3b067_1 : decode cJ2_charAt_3b067 1 = .ok (.aload_n 0, 1) := by decide +kernel
theorem dJ2_charAt_3b067_2 : decode cJ2_charAt_3b067 2 = .ok (.invokestatic 67, 3) := by decide +kernel
theorem dJ2_charAt_3b067_5 : decode cJ2_charAt_3b067 5 = .ok (.aload_n 0, 1) := by decide +kernel
theorem dJ2_charAt_3b067_6 : decode cJ2_charAt_3b067 6 = .ok (.iload_n 1, 1) := by decide +kernel
theorem dJ2_charAt_3b067_7 : decode cJ2_charAt_3b067 7 = .ok (.invokestatic 71, 3) := by decide +kernel
theorem dJ2_charAt_3b067_10 : decode cJ2_charAt_3b067 10 = .ok (.ireturn, 1) := by decide +kernel
set_option maxRecDepth 20000 in
theorem ggJ2_checkIndex_2214a_J2_length_9d52b : GoodIn wsJ2_checkIndex_2214a wsJ2_length_9d52b := goodIn_r _ [4] (by decide +kernel) (by decide +kernel)
set_option maxRecDepth 20000 in
theorem gJ2_checkIndex_2214a_J2_length_9d52b : GoodIn wsJ2_checkIndex_2214a (va_wsS RJ2 48 yJ2_length_9d52b wsJ2_length_9d52b) := goodIn_app (goodIn_of _ (by decide +kernel)) ggJ2_checkIndex_2214a_J2_length_9d52b
set_option maxRecDepth 20000 in
theorem ggJ2_checkIndex_2214a_J0_checkIndex_df160 : GoodIn wsJ2_checkIndex_2214a wsJ0_checkIndex_df160 := goodIn_r _ [8, 9, 10, 11, 12, 13] (by decide +kernel) (by decide +kernel)
set_option maxRecDepth 20000 in
theorem gJ2_checkIndex_2214a_J0_checkIndex_df160 : GoodIn wsJ2_checkIndex_2214a (va_wsS RJ2 414 yJ0_checkIndex_df160 wsJ0_checkIndex_df160) := goodIn_app (goodIn_of _ (by decide +kernel)) ggJ2_checkIndex_2214a_J0_checkIndex_df160
theorem dJ2_checkIndex_2214a_0 : decode cJ2_checkIndex_2214a 0 = .ok (.iload_n 0, 1) := by decide +kernel
theorem dJ2_checkIndex_2214a_1 : decode cJ2_checkIndex_2214a 1 = .ok (.aload_n 1, 1) := by decide +kernel
theorem dJ2_checkIndex_2214a_2 : decode cJ2_checkIndex_2214a 2 = .ok (.invokestatic 48, 3) := by decide +kernel
theorem dJ2_checkIndex_2214a_5 : decode cJ2_checkIndex_2214a 5 = .ok (.invokestatic 414, 3) := by decide +kernel
theorem dJ2_checkIndex_2214a_8 : decode cJ2_checkIndex_2214a 8 = .ok (.return_, 1) := by decide +kernel
theorem dJ7_fill_53178_0 : decode cJ7_fill_53178 0 = .ok (.iconst 0, 1) := by decide +kernel
theorem dJ7_fill_53178_1 : decode cJ7_fill_53178 1 = .ok (.istore_n 2, 1) := by decide +kernel
theorem dJ7_fill_53178_2 : decode cJ7_fill_53178 2 = .ok (.aload_n 0, 1) := by decide +kernel
theorem dJ7_fill_53178_3 : decode cJ7_fill_53178 3 = .ok (.arraylength, 1) := by decide +kernel
theorem dJ7_fill_53178_4 : decode cJ7_fill_53178 4 = .ok (.istore_n 3, 1) := by decide +kernel
theorem dJ7_fill_53178_5 : decode cJ7_fill_53178 5 = .ok (.iload_n 2, 1) := by decide +kernel
theorem dJ7_fill_53178_6 : decode cJ7_fill_53178 6 = .ok (.iload_n 3, 1) := by decide +kernel
theorem dJ7_fill_53178_7 : decode cJ7_fill_53178 7 = .ok (.if_icmp .ge 13, 3) := by decide +kernel
theorem dJ7_fill_53178_10 : decode cJ7_fill_53178 10 = .ok (.aload_n 0, 1) := by decide +kernel
theorem dJ7_fill_53178_11 : decode cJ7_fill_53178 11 = .ok (.iload_n 2, 1) := by decide +kernel
theorem dJ7_fill_53178_12 : decode cJ7_fill_53178 12 = .ok (.iload_n 1, 1) := by decide +kernel
theorem dJ7_fill_53178_13 : decode cJ7_fill_53178 13 = .ok (.iastore, 1) := by decide +kernel
theorem dJ7_fill_53178_14 : decode cJ7_fill_53178 14 = .ok (.iinc 2 1, 3) := by decide +kernel
theorem dJ7_fill_53178_17 : decode cJ7_fill_53178 17 = .ok (.goto (-12), 3) := by decide +kernel
theorem dJ7_fill_53178_20 : decode cJ7_fill_53178 20 = .ok (.return_, 1) := by decide +kernel
theorem dJ3_checkIndex_8e157_0 : decode cJ3_checkIndex_8e157 0 = .ok (.iload_n 0, 1) := by decide +kernel
theorem dJ3_checkIndex_8e157_1 : decode cJ3_checkIndex_8e157 1 = .ok (.ifCond .lt 8, 3) := by decide +kernel
theorem dJ3_checkIndex_8e157_4 : decode cJ3_checkIndex_8e157 4 = .ok (.iload_n 0, 1) := by decide +kernel
theorem dJ3_checkIndex_8e157_5 : decode cJ3_checkIndex_8e157 5 = .ok (.iload_n 1, 1) := by decide +kernel
theorem dJ3_checkIndex_8e157_6 : decode cJ3_checkIndex_8e157 6 = .ok (.if_icmp .lt 10, 3) := by decide +kernel
theorem dJ3_checkIndex_8e157_9 : decode cJ3_checkIndex_8e157 9 = .ok (.aload_n 2, 1) := by decide +kernel
theorem dJ3_checkIndex_8e157_10 : decode cJ3_checkIndex_8e157 10 = .ok (.iload_n 0, 1) := by decide +kernel
theorem dJ3_checkIndex_8e157_11 : decode cJ3_checkIndex_8e157 11 = .ok (.iload_n 1, 1) := by decide +kernel
theorem dJ3_checkIndex_8e157_12 : decode cJ3_checkIndex_8e157 12 = .ok (.invokestatic 95, 3) := by decide +kernel
theorem dJ3_checkIndex_8e157_15 : decode cJ3_checkIndex_8e157 15 = .ok (.athrow, 1) := by decide +kernel
theorem dJ3_checkIndex_8e157_16 : decode cJ3_checkIndex_8e157 16 = .ok (.iload_n 0, 1) := by decide +kernel
theorem dJ3_checkIndex_8e157_17 : decode cJ3_checkIndex_8e157 17 = .ok (.ireturn, 1) := by decide +kernel
