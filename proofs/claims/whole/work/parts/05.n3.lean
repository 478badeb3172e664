theorem dX5_addItem_0 : decode cX5_addItem 0 = .ok (.iload_n 1, 1) := by decide +kernel
theorem dX5_addItem_1 : decode cX5_addItem 1 = .ok (.iconst 0, 1) := by decide +kernel
theorem dX5_addItem_2 : decode cX5_addItem 2 = .ok (.sipush 999, 3) := by decide +kernel
theorem dX5_addItem_5 : decode cX5_addItem 5 = .ok (.invokestatic 68, 3) := by decide +kernel
theorem dX5_addItem_8 : decode cX5_addItem 8 = .ok (.ifCond .eq 25, 3) := by decide +kernel
theorem dX5_addItem_11 : decode cX5_addItem 11 = .ok (.iload_n 2, 1) := by decide +kernel
theorem dX5_addItem_12 : decode cX5_addItem 12 = .ok (.invokestatic 72, 3) := by decide +kernel
theorem dX5_addItem_15 : decode cX5_addItem 15 = .ok (.ifCond .eq 18, 3) := by decide +kernel
theorem dX5_addItem_18 : decode cX5_addItem 18 = .ok (.iload_n 3, 1) := by decide +kernel
theorem dX5_addItem_19 : decode cX5_addItem 19 = .ok (.invokestatic 72, 3) := by decide +kernel
theorem dX5_addItem_22 : decode cX5_addItem 22 = .ok (.ifCond .eq 11, 3) := by decide +kernel
theorem dX5_addItem_25 : decode cX5_addItem 25 = .ok (.iload 4, 2) := by decide +kernel
theorem dX5_addItem_27 : decode cX5_addItem 27 = .ok (.invokestatic 72, 3) := by decide +kernel
theorem dX5_addItem_30 : decode cX5_addItem 30 = .ok (.ifCond .ne 6, 3) := by decide +kernel
theorem dX5_addItem_33 : decode cX5_addItem 33 = .ok (.bipush (-2), 2) := by decide +kernel
theorem dX5_addItem_35 : decode cX5_addItem 35 = .ok (.ireturn, 1) := by decide +kernel
theorem dX5_addItem_36 : decode cX5_addItem 36 = .ok (.aload_n 0, 1) := by decide +kernel
theorem dX5_addItem_37 : decode cX5_addItem 37 = .ok (.getfield 12, 3) := by decide +kernel
theorem dX5_addItem_40 : decode cX5_addItem 40 = .ok (.invokevirtual 76, 3) := by decide +kernel
theorem dX5_addItem_43 : decode cX5_addItem 43 = .ok (.ifCond .eq 6, 3) := by decide +kernel
theorem dX5_addItem_46 : decode cX5_addItem 46 = .ok (.bipush (-4), 2) := by decide +kernel
theorem dX5_addItem_48 : decode cX5_addItem 48 = .ok (.ireturn, 1) := by decide +kernel
theorem dX5_addItem_49 : decode cX5_addItem 49 = .ok (.aload_n 0, 1) := by decide +kernel
theorem dX5_addItem_50 : decode cX5_addItem 50 = .ok (.getfield 12, 3) := by decide +kernel
theorem dX5_addItem_53 : decode cX5_addItem 53 = .ok (.iload_n 1, 1) := by decide +kernel
theorem dX5_addItem_54 : decode cX5_addItem 54 = .ok (.iload_n 2, 1) := by decide +kernel
theorem dX5_addItem_55 : decode cX5_addItem 55 = .ok (.iload_n 3, 1) := by decide +kernel
theorem dX5_addItem_56 : decode cX5_addItem 56 = .ok (.iload 4, 2) := by decide +kernel
theorem dX5_addItem_58 : decode cX5_addItem 58 = .ok (.invokevirtual 80, 3) := by decide +kernel
theorem dX5_addItem_61 : decode cX5_addItem 61 = .ok (.aload_n 0, 1) := by decide +kernel
theorem dX5_addItem_62 : decode cX5_addItem 62 = .ok (.getfield 21, 3) := by decide +kernel
theorem dX5_addItem_65 : decode cX5_addItem 65 = .ok (.iconst 0, 1) := by decide +kernel
theorem dX5_addItem_66 : decode cX5_addItem 66 = .ok (.putfield 84, 3) := by decide +kernel
theorem dX5_addItem_69 : decode cX5_addItem 69 = .ok (.aload_n 0, 1) := by decide +kernel
theorem dX5_addItem_70 : decode cX5_addItem 70 = .ok (.invokevirtual 87, 3) := by decide +kernel
theorem dX5_addItem_73 : decode cX5_addItem 73 = .ok (.aload_n 0, 1) := by decide +kernel
theorem dX5_addItem_74 : decode cX5_addItem 74 = .ok (.getfield 12, 3) := by decide +kernel
theorem dX5_addItem_77 : decode cX5_addItem 77 = .ok (.getfield 90, 3) := by decide +kernel
theorem dX5_addItem_80 : decode cX5_addItem 80 = .ok (.iconst 1, 1) := by decide +kernel
theorem dX5_addItem_81 : decode cX5_addItem 81 = .ok (.isub, 1) := by decide +kernel
theorem dX5_addItem_82 : decode cX5_addItem 82 = .ok (.ireturn, 1) := by decide +kernel
set_option maxRecDepth 20000 in
theorem ggX5_removeItem_X2_has : GoodIn wsX5_removeItem wsX2_has := goodIn_r _ [9, 10, 11, 12, 13, 61, 62, 63, 64] (by decide +kernel) (by decide +kernel)
set_option maxRecDepth 20000 in
theorem gX5_removeItem_X2_has : GoodIn wsX5_removeItem (wsV RX5 93 RX2 yX2_has wsX2_has) := goodIn_app (goodIn_of _ (by decide +kernel)) ggX5_removeItem_X2_has
set_option maxRecDepth 20000 in
theorem ggX5_removeItem_X2_remove : GoodIn wsX5_removeItem wsX2_remove := goodIn_r _ [17, 10, 18, 19, 20, 21, 22, 23, 24, 6, 7, 8, 9, 11, 12, 13, 61, 62, 63, 64] (by decide +kernel) (by decide +kernel)
set_option maxRecDepth 20000 in
theorem gX5_removeItem_X2_remove : GoodIn wsX5_removeItem (wsV RX5 96 RX2 yX2_remove wsX2_remove) := goodIn_app (goodIn_of _ (by decide +kernel)) ggX5_removeItem_X2_remove
set_option maxRecDepth 20000 in
theorem ggX5_removeItem_X5_forget : GoodIn wsX5_removeItem wsX5_forget := goodIn_r _ [29, 30, 31, 32, 1, 33, 34, 35, 36, 37, 8, 38, 10, 39, 40, 41, 42, 43, 44, 45, 46, 47, 18, 23, 48, 49, 50, 51, 52, 53, 54, 55, 56, 57, 58, 61, 62, 63, 64] (by decide +kernel) (by decide +kernel)
set_option maxRecDepth 20000 in
theorem gX5_removeItem_X5_forget : GoodIn wsX5_removeItem (wsV RX5 87 RX5 yX5_forget wsX5_forget) := goodIn_app (goodIn_of _ (by decide +kernel)) ggX5_removeItem_X5_forget
theorem dX5_removeItem_0 : decode cX5_removeItem 0 = .ok (.aload_n 0, 1) := by decide +kernel
theorem dX5_removeItem_1 : decode cX5_removeItem 1 = .ok (.getfield 12, 3) := by decide +kernel
theorem dX5_removeItem_4 : decode cX5_removeItem 4 = .ok (.iload_n 1, 1) := by decide +kernel
theorem dX5_removeItem_5 : decode cX5_removeItem 5 = .ok (.invokevirtual 93, 3) := by decide +kernel
theorem dX5_removeItem_8 : decode cX5_removeItem 8 = .ok (.ifCond .ne 5, 3) := by decide +kernel
theorem dX5_removeItem_11 : decode cX5_removeItem 11 = .ok (.iconst (-1), 1) := by decide +kernel
theorem dX5_removeItem_12 : decode cX5_removeItem 12 = .ok (.ireturn, 1) := by decide +kernel
theorem dX5_removeItem_13 : decode cX5_removeItem 13 = .ok (.aload_n 0, 1) := by decide +kernel
theorem dX5_removeItem_14 : decode cX5_removeItem 14 = .ok (.getfield 12, 3) := by decide +kernel
theorem dX5_removeItem_17 : decode cX5_removeItem 17 = .ok (.iload_n 1, 1) := by decide +kernel
theorem dX5_removeItem_18 : decode cX5_removeItem 18 = .ok (.invokevirtual 96, 3) := by decide +kernel
theorem dX5_removeItem_21 : decode cX5_removeItem 21 = .ok (.aload_n 0, 1) := by decide +kernel
theorem dX5_removeItem_22 : decode cX5_removeItem 22 = .ok (.getfield 21, 3) := by decide +kernel
theorem dX5_removeItem_25 : decode cX5_removeItem 25 = .ok (.iconst 0, 1) := by decide +kernel
theorem dX5_removeItem_26 : decode cX5_removeItem 26 = .ok (.putfield 84, 3) := by decide +kernel
theorem dX5_removeItem_29 : decode cX5_removeItem 29 = .ok (.aload_n 0, 1) := by decide +kernel
theorem dX5_removeItem_30 : decode cX5_removeItem 30 = .ok (.invokevirtual 87, 3) := by decide +kernel
theorem dX5_removeItem_33 : decode cX5_removeItem 33 = .ok (.aload_n 0, 1) := by decide +kernel
theorem dX5_removeItem_34 : decode cX5_removeItem 34 = .ok (.getfield 12, 3) := by decide +kernel
theorem dX5_removeItem_37 : decode cX5_removeItem 37 = .ok (.getfield 90, 3) := by decide +kernel
theorem dX5_removeItem_40 : decode cX5_removeItem 40 = .ok (.ireturn, 1) := by decide +kernel
set_option maxRecDepth 20000 in
theorem ggX5_setLimit_X6_isDimension : GoodIn wsX5_setLimit wsX6_isDimension := goodIn_r _ [5, 6, 7, 4, 8] (by decide +kernel) (by decide +kernel)
set_option maxRecDepth 20000 in
theorem gX5_setLimit_X6_isDimension_n100 : GoodIn wsX5_setLimit (wsX6_isDimension) := ggX5_setLimit_X6_isDimension
set_option maxRecDepth 20000 in
theorem ggX5_setLimit_X6_within : GoodIn wsX5_setLimit wsX6_within := goodIn_r _ [8] (by decide +kernel) (by decide +kernel)
set_option maxRecDepth 20000 in
theorem gX5_setLimit_X6_within_n68 : GoodIn wsX5_setLimit (wsX6_within) := ggX5_setLimit_X6_within
set_option maxRecDepth 20000 in
theorem ggX5_setLimit_X5_forget : GoodIn wsX5_setLimit wsX5_forget := goodIn_r _ [13, 14, 15, 16, 1, 17, 18, 19, 20, 21, 22, 23, 24, 25, 26, 27, 28, 29, 30, 31, 32, 33, 34, 35, 36, 37, 38, 39, 40, 41, 42, 43, 44, 45, 46, 47, 48, 49, 50] (by decide +kernel) (by decide +kernel)
set_option maxRecDepth 20000 in
theorem gX5_setLimit_X5_forget : GoodIn wsX5_setLimit (wsV RX5 87 RX5 yX5_forget wsX5_forget) := goodIn_app (goodIn_of _ (by decide +kernel)) ggX5_setLimit_X5_forget
theorem dX5_setLimit_0 : decode cX5_setLimit 0 = .ok (.iload_n 1, 1) := by decide +kernel
theorem dX5_setLimit_1 : decode cX5_setLimit 1 = .ok (.invokestatic 100, 3) := by decide +kernel
theorem dX5_setLimit_4 : decode cX5_setLimit 4 = .ok (.ifCond .ne 5, 3) := by decide +kernel
theorem dX5_setLimit_7 : decode cX5_setLimit 7 = .ok (.iconst (-1), 1) := by decide +kernel
theorem dX5_setLimit_8 : decode cX5_setLimit 8 = .ok (.ireturn, 1) := by decide +kernel
theorem dX5_setLimit_9 : decode cX5_setLimit 9 = .ok (.iload_n 2, 1) := by decide +kernel
theorem dX5_setLimit_10 : decode cX5_setLimit 10 = .ok (.iconst 0, 1) := by decide +kernel
theorem dX5_setLimit_11 : decode cX5_setLimit 11 = .ok (.sipush 999, 3) := by decide +kernel
theorem dX5_setLimit_14 : decode cX5_setLimit 14 = .ok (.invokestatic 68, 3) := by decide +kernel
theorem dX5_setLimit_17 : decode cX5_setLimit 17 = .ok (.ifCond .ne 6, 3) := by decide +kernel
theorem dX5_setLimit_20 : decode cX5_setLimit 20 = .ok (.bipush (-2), 2) := by decide +kernel
theorem dX5_setLimit_22 : decode cX5_setLimit 22 = .ok (.ireturn, 1) := by decide +kernel
theorem dX5_setLimit_23 : decode cX5_setLimit 23 = .ok (.aload_n 0, 1) := by decide +kernel
theorem dX5_setLimit_24 : decode cX5_setLimit 24 = .ok (.getfield 12, 3) := by decide +kernel
theorem dX5_setLimit_27 : decode cX5_setLimit 27 = .ok (.getfield 103, 3) := by decide +kernel
theorem dX5_setLimit_30 : decode cX5_setLimit 30 = .ok (.iload_n 1, 1) := by decide +kernel
theorem dX5_setLimit_31 : decode cX5_setLimit 31 = .ok (.iaload, 1) := by decide +kernel
theorem dX5_setLimit_32 : decode cX5_setLimit 32 = .ok (.istore_n 3, 1) := by decide +kernel
theorem dX5_setLimit_33 : decode cX5_setLimit 33 = .ok (.aload_n 0, 1) := by decide +kernel
theorem dX5_setLimit_34 : decode cX5_setLimit 34 = .ok (.getfield 12, 3) := by decide +kernel
theorem dX5_setLimit_37 : decode cX5_setLimit 37 = .ok (.getfield 103, 3) := by decide +kernel
theorem dX5_setLimit_40 : decode cX5_setLimit 40 = .ok (.iload_n 1, 1) := by decide +kernel
theorem dX5_setLimit_41 : decode cX5_setLimit 41 = .ok (.iload_n 2, 1) := by decide +kernel
theorem dX5_setLimit_42 : decode cX5_setLimit 42 = .ok (.iastore, 1) := by decide +kernel
theorem dX5_setLimit_43 : decode cX5_setLimit 43 = .ok (.aload_n 0, 1) := by decide +kernel
theorem dX5_setLimit_44 : decode cX5_setLimit 44 = .ok (.invokevirtual 87, 3) := by decide +kernel
theorem dX5_setLimit_47 : decode cX5_setLimit 47 = .ok (.iload_n 3, 1) := by decide +kernel
theorem dX5_setLimit_48 : decode cX5_setLimit 48 = .ok (.ireturn, 1) := by decide +kernel
set_option maxRecDepth 20000 in
theorem ggX5_setRule_X6_within : GoodIn wsX5_setRule wsX6_within := goodIn_r _ [5] (by decide +kernel) (by decide +kernel)
set_option maxRecDepth 20000 in
theorem gX5_setRule_X6_within_n68 : GoodIn wsX5_setRule (wsX6_within) := ggX5_setRule_X6_within
theorem dX5_setRule_0 : decode cX5_setRule 0 = .ok (.iload_n 1, 1) := by decide +kernel
theorem dX5_setRule_1 : decode cX5_setRule 1 = .ok (.iconst 0, 1) := by decide +kernel
theorem dX5_setRule_2 : decode cX5_setRule 2 = .ok (.iconst 2, 1) := by decide +kernel
theorem dX5_setRule_3 : decode cX5_setRule 3 = .ok (.invokestatic 68, 3) := by decide +kernel
theorem dX5_setRule_6 : decode cX5_setRule 6 = .ok (.ifCond .eq 14, 3) := by decide +kernel
theorem dX5_setRule_9 : decode cX5_setRule 9 = .ok (.iload_n 2, 1) := by decide +kernel
theorem dX5_setRule_10 : decode cX5_setRule 10 = .ok (.iconst 1, 1) := by decide +kernel
theorem dX5_setRule_11 : decode cX5_setRule 11 = .ok (.sipush 9999, 3) := by decide +kernel
theorem dX5_setRule_14 : decode cX5_setRule 14 = .ok (.invokestatic 68, 3) := by decide +kernel
theorem dX5_setRule_17 : decode cX5_setRule 17 = .ok (.ifCond .ne 6, 3) := by decide +kernel
theorem dX5_setRule_20 : decode cX5_setRule 20 = .ok (.bipush (-2), 2) := by decide +kernel
theorem dX5_setRule_22 : decode cX5_setRule 22 = .ok (.ireturn, 1) := by decide +kernel
theorem dX5_setRule_23 : decode cX5_setRule 23 = .ok (.aload_n 0, 1) := by decide +kernel
theorem dX5_setRule_24 : decode cX5_setRule 24 = .ok (.getfield 32, 3) := by decide +kernel
theorem dX5_setRule_27 : decode cX5_setRule 27 = .ok (.istore_n 3, 1) := by decide +kernel
theorem dX5_setRule_28 : decode cX5_setRule 28 = .ok (.aload_n 0, 1) := by decide +kernel
theorem dX5_setRule_29 : decode cX5_setRule 29 = .ok (.iload_n 1, 1) := by decide +kernel
theorem dX5_setRule_30 : decode cX5_setRule 30 = .ok (.putfield 32, 3) := by decide +kernel
theorem dX5_setRule_33 : decode cX5_setRule 33 = .ok (.aload_n 0, 1) := by decide +kernel
theorem dX5_setRule_34 : decode cX5_setRule 34 = .ok (.iload_n 2, 1) := by decide +kernel
theorem dX5_setRule_35 : decode cX5_setRule 35 = .ok (.putfield 36, 3) := by decide +kernel
theorem dX5_setRule_38 : decode cX5_setRule 38 = .ok (.iload_n 3, 1) := by decide +kernel
theorem dX5_setRule_39 : decode cX5_setRule 39 = .ok (.ireturn, 1) := by decide +kernel
set_option maxRecDepth 20000 in
theorem ggX5_setMultiplier_X6_isDimension : GoodIn wsX5_setMultiplier wsX6_isDimension := goodIn_r _ [5, 6, 7, 4, 8] (by decide +kernel) (by decide +kernel)
set_option maxRecDepth 20000 in
theorem gX5_setMultiplier_X6_isDimension_n100 : GoodIn wsX5_setMultiplier (wsX6_isDimension) := ggX5_setMultiplier_X6_isDimension
set_option maxRecDepth 20000 in
theorem ggX5_setMultiplier_X6_within : GoodIn wsX5_setMultiplier wsX6_within := goodIn_r _ [8] (by decide +kernel) (by decide +kernel)
set_option maxRecDepth 20000 in
theorem gX5_setMultiplier_X6_within_n68 : GoodIn wsX5_setMultiplier (wsX6_within) := ggX5_setMultiplier_X6_within
set_option maxRecDepth 20000 in
theorem ggX5_setMultiplier_X5_lowerBestBound : GoodIn wsX5_setMultiplier wsX5_lowerBestBound := goodIn_r _ [13, 14, 2, 15, 16, 17, 18, 19, 20, 21, 22, 23, 24, 25, 26, 27, 28, 29, 30, 31, 32, 33, 34, 35, 36, 37, 38, 39, 40, 41, 42, 43, 44, 45, 46, 47] (by decide +kernel) (by decide +kernel)
set_option maxRecDepth 20000 in
theorem gX5_setMultiplier_X5_lowerBestBound : GoodIn wsX5_setMultiplier (wsV RX5 107 RX5 yX5_lowerBestBound wsX5_lowerBestBound) := goodIn_app (goodIn_of _ (by decide +kernel)) ggX5_setMultiplier_X5_lowerBestBound
theorem dX5_setMultiplier_0 : decode cX5_setMultiplier 0 = .ok (.iload_n 1, 1) := by decide +kernel
theorem dX5_setMultiplier_1 : decode cX5_setMultiplier 1 = .ok (.invokestatic 100, 3) := by decide +kernel
theorem dX5_setMultiplier_4 : decode cX5_setMultiplier 4 = .ok (.ifCond .ne 5, 3) := by decide +kernel
theorem dX5_setMultiplier_7 : decode cX5_setMultiplier 7 = .ok (.iconst (-1), 1) := by decide +kernel
theorem dX5_setMultiplier_8 : decode cX5_setMultiplier 8 = .ok (.ireturn, 1) := by decide +kernel
theorem dX5_setMultiplier_9 : decode cX5_setMultiplier 9 = .ok (.iload_n 2, 1) := by decide +kernel
theorem dX5_setMultiplier_10 : decode cX5_setMultiplier 10 = .ok (.iconst 0, 1) := by decide +kernel
theorem dX5_setMultiplier_11 : decode cX5_setMultiplier 11 = .ok (.ldc 106, 2) := by decide +kernel
theorem dX5_setMultiplier_13 : decode cX5_setMultiplier 13 = .ok (.invokestatic 68, 3) := by decide +kernel
theorem dX5_setMultiplier_16 : decode cX5_setMultiplier 16 = .ok (.ifCond .ne 6, 3) := by decide +kernel
theorem dX5_setMultiplier_19 : decode cX5_setMultiplier 19 = .ok (.bipush (-2), 2) := by decide +kernel
theorem dX5_setMultiplier_21 : decode cX5_setMultiplier 21 = .ok (.ireturn, 1) := by decide +kernel
theorem dX5_setMultiplier_22 : decode cX5_setMultiplier 22 = .ok (.aload_n 0, 1) := by decide +kernel
theorem dX5_setMultiplier_23 : decode cX5_setMultiplier 23 = .ok (.getfield 25, 3) := by decide +kernel
theorem dX5_setMultiplier_26 : decode cX5_setMultiplier 26 = .ok (.iload_n 1, 1) := by decide +kernel
theorem dX5_setMultiplier_27 : decode cX5_setMultiplier 27 = .ok (.iaload, 1) := by decide +kernel
theorem dX5_setMultiplier_28 : decode cX5_setMultiplier 28 = .ok (.istore_n 3, 1) := by decide +kernel
theorem dX5_setMultiplier_29 : decode cX5_setMultiplier 29 = .ok (.aload_n 0, 1) := by decide +kernel
theorem dX5_setMultiplier_30 : decode cX5_setMultiplier 30 = .ok (.getfield 25, 3) := by decide +kernel
theorem dX5_setMultiplier_33 : decode cX5_setMultiplier 33 = .ok (.iload_n 1, 1) := by decide +kernel
theorem dX5_setMultiplier_34 : decode cX5_setMultiplier 34 = .ok (.iload_n 2, 1) := by decide +kernel
theorem dX5_setMultiplier_35 : decode cX5_setMultiplier 35 = .ok (.iastore, 1) := by decide +kernel
theorem dX5_setMultiplier_36 : decode cX5_setMultiplier 36 = .ok (.aload_n 0, 1) := by decide +kernel
theorem dX5_setMultiplier_37 : decode cX5_setMultiplier 37 = .ok (.invokevirtual 107, 3) := by decide +kernel
theorem dX5_setMultiplier_40 : decode cX5_setMultiplier 40 = .ok (.pop, 1) := by decide +kernel
theorem dX5_setMultiplier_41 : decode cX5_setMultiplier 41 = .ok (.iload_n 3, 1) := by decide +kernel
theorem dX5_setMultiplier_42 : decode cX5_setMultiplier 42 = .ok (.ireturn, 1) := by decide +kernel
set_option maxRecDepth 20000 in
theorem ggX5_makeSteps_X6_within : GoodIn wsX5_makeSteps wsX6_within := goodIn_r _ [7] (by decide +kernel) (by decide +kernel)
set_option maxRecDepth 20000 in
theorem gX5_makeSteps_X6_within_n68 : GoodIn wsX5_makeSteps (wsX6_within) := ggX5_makeSteps_X6_within
set_option maxRecDepth 20000 in
theorem ggX5_makeSteps_X5_relaxedSet : GoodIn wsX5_makeSteps wsX5_relaxedSet := goodIn_r _ [12, 13, 2, 14, 15, 16, 17, 18, 19, 20, 21, 22, 23, 24, 25, 96, 97, 98, 99, 100, 101, 102, 103, 104, 105, 106, 107, 108, 109, 110] (by decide +kernel) (by decide +kernel)
set_option maxRecDepth 20000 in
theorem gX5_makeSteps_X5_relaxedSet : GoodIn wsX5_makeSteps (wsV RX5 110 RX5 yX5_relaxedSet wsX5_relaxedSet) := goodIn_app (goodIn_of _ (by decide +kernel)) ggX5_makeSteps_X5_relaxedSet
set_option maxRecDepth 20000 in
theorem ggX5_makeSteps_X0_append : GoodIn wsX5_makeSteps wsX0_append := goodIn_r _ [30, 31, 32, 33, 34, 35, 29, 36, 111, 112] (by decide +kernel) (by decide +kernel)
set_option maxRecDepth 20000 in
theorem gX5_makeSteps_X0_append : GoodIn wsX5_makeSteps (wsV RX5 114 RX0 yX0_append wsX0_append) := goodIn_app (goodIn_of _ (by decide +kernel)) ggX5_makeSteps_X0_append
set_option maxRecDepth 20000 in
theorem ggX5_makeSteps_X5_stepInto : GoodIn wsX5_makeSteps wsX5_stepInto := goodIn_r _ [40, 41, 2, 42, 43, 44, 45, 46, 47, 48, 49, 8, 9, 10, 11, 12, 13, 14, 15, 16, 17, 18, 19, 20, 21, 22, 23, 24, 25, 50, 51, 52, 53, 54, 55, 56, 57, 58, 59, 6, 60, 61, 62, 63, 64, 65, 66, 3, 67, 68, 69, 70, 71, 72, 73, 74, 75, 76, 77, 78, 79, 80, 81, 82, 83, 84, 85, 86, 87, 88, 96, 97, 98, 99, 100, 101, 102, 103, 104, 105, 106, 107, 108, 109, 110] (by decide +kernel) (by decide +kernel)
set_option maxRecDepth 20000 in
theorem gX5_makeSteps_X5_stepInto : GoodIn wsX5_makeSteps (wsV RX5 116 RX5 yX5_stepInto wsX5_stepInto) := goodIn_app (goodIn_of _ (by decide +kernel)) ggX5_makeSteps_X5_stepInto
set_option maxRecDepth 20000 in
theorem ggX5_makeSteps_X5_lowerBestBound : GoodIn wsX5_makeSteps wsX5_lowerBestBound := goodIn_r _ [92, 13, 2, 93, 70, 71, 72, 17, 73, 19, 74, 68, 45, 69, 75, 20, 21, 22, 23, 24, 25, 96, 97, 98, 99, 100, 101, 102, 103, 104, 105, 106, 107, 108, 109, 110] (by decide +kernel) (by decide +kernel)
set_option maxRecDepth 20000 in
theorem gX5_makeSteps_X5_lowerBestBound : GoodIn wsX5_makeSteps (wsV RX5 107 RX5 yX5_lowerBestBound wsX5_lowerBestBound) := goodIn_app (goodIn_of _ (by decide +kernel)) ggX5_makeSteps_X5_lowerBestBound
set_option maxRecDepth 20000 in
theorem ggX5_makeSteps_X6_oneIf : GoodIn wsX5_makeSteps wsX6_oneIf := goodIn_r _ [95] (by decide +kernel) (by decide +kernel)
set_option maxRecDepth 20000 in
theorem gX5_makeSteps_X6_oneIf_n120 : GoodIn wsX5_makeSteps (wsX6_oneIf) := ggX5_makeSteps_X6_oneIf
theorem dX5_makeSteps_0 : decode cX5_makeSteps 0 = .ok (.iload_n 1, 1) := by decide +kernel
theorem dX5_makeSteps_1 : decode cX5_makeSteps 1 = .ok (.iconst 1, 1) := by decide +kernel
theorem dX5_makeSteps_2 : decode cX5_makeSteps 2 = .ok (.bipush 99, 2) := by decide +kernel
theorem dX5_makeSteps_4 : decode cX5_makeSteps 4 = .ok (.invokestatic 68, 3) := by decide +kernel
theorem dX5_makeSteps_7 : decode cX5_makeSteps 7 = .ok (.ifCond .ne 6, 3) := by decide +kernel
theorem dX5_makeSteps_10 : decode cX5_makeSteps 10 = .ok (.bipush (-2), 2) := by decide +kernel
theorem dX5_makeSteps_12 : decode cX5_makeSteps 12 = .ok (.ireturn, 1) := by decide +kernel
theorem dX5_makeSteps_13 : decode cX5_makeSteps 13 = .ok (.iconst 0, 1) := by decide +kernel
theorem dX5_makeSteps_14 : decode cX5_makeSteps 14 = .ok (.istore_n 2, 1) := by decide +kernel
theorem dX5_makeSteps_15 : decode cX5_makeSteps 15 = .ok (.iconst 0, 1) := by decide +kernel
theorem dX5_makeSteps_16 : decode cX5_makeSteps 16 = .ok (.istore_n 3, 1) := by decide +kernel
theorem dX5_makeSteps_17 : decode cX5_makeSteps 17 = .ok (.iload_n 3, 1) := by decide +kernel
theorem dX5_makeSteps_18 : decode cX5_makeSteps 18 = .ok (.iload_n 1, 1) := by decide +kernel
theorem dX5_makeSteps_19 : decode cX5_makeSteps 19 = .ok (.if_icmp .ge 58, 3) := by decide +kernel
theorem dX5_makeSteps_22 : decode cX5_makeSteps 22 = .ok (.aload_n 0, 1) := by decide +kernel
theorem dX5_makeSteps_23 : decode cX5_makeSteps 23 = .ok (.getfield 21, 3) := by decide +kernel
theorem dX5_makeSteps_26 : decode cX5_makeSteps 26 = .ok (.aload_n 0, 1) := by decide +kernel
theorem dX5_makeSteps_27 : decode cX5_makeSteps 27 = .ok (.invokevirtual 110, 3) := by decide +kernel
theorem dX5_makeSteps_30 : decode cX5_makeSteps 30 = .ok (.invokevirtual 114, 3) := by decide +kernel
theorem dX5_makeSteps_33 : decode cX5_makeSteps 33 = .ok (.aload_n 0, 1) := by decide +kernel
theorem dX5_makeSteps_34 : decode cX5_makeSteps 34 = .ok (.aload_n 0, 1) := by decide +kernel
theorem dX5_makeSteps_35 : decode cX5_makeSteps 35 = .ok (.getfield 25, 3) := by decide +kernel
theorem dX5_makeSteps_38 : decode cX5_makeSteps 38 = .ok (.invokevirtual 116, 3) := by decide +kernel
theorem dX5_makeSteps_41 : decode cX5_makeSteps 41 = .ok (.aload_n 0, 1) := by decide +kernel
theorem dX5_makeSteps_42 : decode cX5_makeSteps 42 = .ok (.dup, 1) := by decide +kernel
theorem dX5_makeSteps_43 : decode cX5_makeSteps 43 = .ok (.getfield 45, 3) := by decide +kernel
theorem dX5_makeSteps_46 : decode cX5_makeSteps 46 = .ok (.iconst 1, 1) := by decide +kernel
theorem dX5_makeSteps_47 : decode cX5_makeSteps 47 = .ok (.iadd, 1) := by decide +kernel
theorem dX5_makeSteps_48 : decode cX5_makeSteps 48 = .ok (.putfield 45, 3) := by decide +kernel
theorem dX5_makeSteps_51 : decode cX5_makeSteps 51 = .ok (.aload_n 0, 1) := by decide +kernel
theorem dX5_makeSteps_52 : decode cX5_makeSteps 52 = .ok (.dup, 1) := by decide +kernel
theorem dX5_makeSteps_53 : decode cX5_makeSteps 53 = .ok (.getfield 48, 3) := by decide +kernel
theorem dX5_makeSteps_56 : decode cX5_makeSteps 56 = .ok (.iconst 1, 1) := by decide +kernel
theorem dX5_makeSteps_57 : decode cX5_makeSteps 57 = .ok (.iadd, 1) := by decide +kernel
theorem dX5_makeSteps_58 : decode cX5_makeSteps 58 = .ok (.putfield 48, 3) := by decide +kernel
theorem dX5_makeSteps_61 : decode cX5_makeSteps 61 = .ok (.iload_n 2, 1) := by decide +kernel
theorem dX5_makeSteps_62 : decode cX5_makeSteps 62 = .ok (.aload_n 0, 1) := by decide +kernel
theorem dX5_makeSteps_63 : decode cX5_makeSteps 63 = .ok (.invokevirtual 107, 3) := by decide +kernel
theorem dX5_makeSteps_66 : decode cX5_makeSteps 66 = .ok (.invokestatic 120, 3) := by decide +kernel
theorem dX5_makeSteps_69 : decode cX5_makeSteps 69 = .ok (.iadd, 1) := by decide +kernel
theorem dX5_makeSteps_70 : decode cX5_makeSteps 70 = .ok (.istore_n 2, 1) := by decide +kernel
theorem dX5_makeSteps_71 : decode cX5_makeSteps 71 = .ok (.iinc 3 1, 3) := by decide +kernel
theorem dX5_makeSteps_74 : decode cX5_makeSteps 74 = .ok (.goto (-57), 3) := by decide +kernel
theorem dX5_makeSteps_77 : decode cX5_makeSteps 77 = .ok (.iload_n 2, 1) := by decide +kernel
theorem dX5_makeSteps_78 : decode cX5_makeSteps 78 = .ok (.ireturn, 1) := by decide +kernel
set_option maxRecDepth 20000 in
theorem ggX5_keepMended_X5_relaxedSet : GoodIn wsX5_keepMended wsX5_relaxedSet := goodIn_r _ [8, 1, 9, 10, 11, 12, 13, 14, 15, 16, 17, 18, 19, 20, 21, 62, 63, 64, 65, 66, 67, 68, 69, 70, 71, 72, 73, 74, 75, 76] (by decide +kernel) (by decide +kernel)
set_option maxRecDepth 20000 in
theorem gX5_keepMended_X5_relaxedSet : GoodIn wsX5_keepMended (wsV RX5 110 RX5 yX5_relaxedSet wsX5_relaxedSet) := goodIn_app (goodIn_of _ (by decide +kernel)) ggX5_keepMended_X5_relaxedSet
set_option maxRecDepth 20000 in
theorem ggX5_keepMended_X2_mended : GoodIn wsX5_keepMended wsX2_mended := goodIn_r _ [25, 15, 26, 27, 28, 13, 29, 30, 31, 32, 33, 34, 21, 35, 36, 37, 38, 39, 40, 41, 42, 43, 44, 45, 46, 47, 48, 49, 50, 51, 52, 53, 20, 73, 74, 75, 76] (by decide +kernel) (by decide +kernel)
set_option maxRecDepth 20000 in
theorem gX5_keepMended_X2_mended : GoodIn wsX5_keepMended (wsV RX5 124 RX2 yX2_mended wsX2_mended) := goodIn_app (goodIn_of _ (by decide +kernel)) ggX5_keepMended_X2_mended
set_option maxRecDepth 20000 in
theorem ggX5_keepMended_X2_worthIn : GoodIn wsX5_keepMended wsX2_worthIn := goodIn_r _ [57, 15, 20, 35, 36, 37, 73, 74, 75, 76] (by decide +kernel) (by decide +kernel)
set_option maxRecDepth 20000 in
theorem gX5_keepMended_X2_worthIn : GoodIn wsX5_keepMended (wsV RX5 128 RX2 yX2_worthIn wsX2_worthIn) := goodIn_app (goodIn_of _ (by decide +kernel)) ggX5_keepMended_X2_worthIn
set_option maxRecDepth 20000 in
theorem ggX5_keepMended_X5_hasSolution : GoodIn wsX5_keepMended wsX5_hasSolution := goodIn_r _ [61, 2, 62, 63, 64, 65, 66, 67, 68, 69, 70, 71, 72] (by decide +kernel) (by decide +kernel)
set_option maxRecDepth 20000 in
theorem gX5_keepMended_X5_hasSolution : GoodIn wsX5_keepMended (wsV RX5 131 RX5 yX5_hasSolution wsX5_hasSolution) := goodIn_app (goodIn_of _ (by decide +kernel)) ggX5_keepMended_X5_hasSolution
theorem dX5_keepMended_0 : decode cX5_keepMended 0 = .ok (.aload_n 0, 1) := by decide +kernel
theorem dX5_keepMended_1 : decode cX5_keepMended 1 = .ok (.getfield 12, 3) := by decide +kernel
theorem dX5_keepMended_4 : decode cX5_keepMended 4 = .ok (.aload_n 0, 1) := by decide +kernel
theorem dX5_keepMended_5 : decode cX5_keepMended 5 = .ok (.invokevirtual 110, 3) := by decide +kernel
theorem dX5_keepMended_8 : decode cX5_keepMended 8 = .ok (.invokevirtual 124, 3) := by decide +kernel
theorem dX5_keepMended_11 : decode cX5_keepMended 11 = .ok (.istore_n 1, 1) := by decide +kernel
theorem dX5_keepMended_12 : decode cX5_keepMended 12 = .ok (.aload_n 0, 1) := by decide +kernel
theorem dX5_keepMended_13 : decode cX5_keepMended 13 = .ok (.getfield 12, 3) := by decide +kernel
theorem dX5_keepMended_16 : decode cX5_keepMended 16 = .ok (.iload_n 1, 1) := by decide +kernel
theorem dX5_keepMended_17 : decode cX5_keepMended 17 = .ok (.invokevirtual 128, 3) := by decide +kernel
theorem dX5_keepMended_20 : decode cX5_keepMended 20 = .ok (.istore_n 2, 1) := by decide +kernel
theorem dX5_keepMended_21 : decode cX5_keepMended 21 = .ok (.aload_n 0, 1) := by decide +kernel
theorem dX5_keepMended_22 : decode cX5_keepMended 22 = .ok (.invokevirtual 131, 3) := by decide +kernel
theorem dX5_keepMended_25 : decode cX5_keepMended 25 = .ok (.ifCond .eq 11, 3) := by decide +kernel
theorem dX5_keepMended_28 : decode cX5_keepMended 28 = .ok (.iload_n 2, 1) := by decide +kernel
theorem dX5_keepMended_29 : decode cX5_keepMended 29 = .ok (.aload_n 0, 1) := by decide +kernel
theorem dX5_keepMended_30 : decode cX5_keepMended 30 = .ok (.getfield 42, 3) := by decide +kernel
theorem dX5_keepMended_33 : decode cX5_keepMended 33 = .ok (.if_icmp .le 13, 3) := by decide +kernel
theorem dX5_keepMended_36 : decode cX5_keepMended 36 = .ok (.aload_n 0, 1) := by decide +kernel
theorem dX5_keepMended_37 : decode cX5_keepMended 37 = .ok (.iload_n 1, 1) := by decide +kernel
theorem dX5_keepMended_38 : decode cX5_keepMended 38 = .ok (.putfield 39, 3) := by decide +kernel
theorem dX5_keepMended_41 : decode cX5_keepMended 41 = .ok (.aload_n 0, 1) := by decide +kernel
theorem dX5_keepMended_42 : decode cX5_keepMended 42 = .ok (.iload_n 2, 1) := by decide +kernel
theorem dX5_keepMended_43 : decode cX5_keepMended 43 = .ok (.putfield 42, 3) := by decide +kernel
theorem dX5_keepMended_46 : decode cX5_keepMended 46 = .ok (.iload_n 2, 1) := by decide +kernel
theorem dX5_keepMended_47 : decode cX5_keepMended 47 = .ok (.ireturn, 1) := by decide +kernel
theorem dX5_hasSolution_0 : decode cX5_hasSolution 0 = .ok (.aload_n 0, 1) := by decide +kernel
theorem dX5_hasSolution_1 : decode cX5_hasSolution 1 = .ok (.getfield 42, 3) := by decide +kernel
theorem dX5_hasSolution_4 : decode cX5_hasSolution 4 = .ok (.bipush (-6), 2) := by decide +kernel
theorem dX5_hasSolution_6 : decode cX5_hasSolution 6 = .ok (.if_icmp .eq 7, 3) := by decide +kernel
theorem dX5_hasSolution_9 : decode cX5_hasSolution 9 = .ok (.iconst 1, 1) := by decide +kernel
theorem dX5_hasSolution_10 : decode cX5_hasSolution 10 = .ok (.goto 4, 3) := by decide +kernel
theorem dX5_hasSolution_13 : decode cX5_hasSolution 13 = .ok (.iconst 0, 1) := by decide +kernel
theorem dX5_hasSolution_14 : decode cX5_hasSolution 14 = .ok (.ireturn, 1) := by decide +kernel
set_option maxRecDepth 20000 in
theorem ggX5_solutionHundredths_X5_hasSolution : GoodIn wsX5_solutionHundredths wsX5_hasSolution := goodIn_r _ [6, 1, 7, 8, 9, 10, 11, 12, 13, 14, 15, 16, 17] (by decide +kernel) (by decide +kernel)
set_option maxRecDepth 20000 in
theorem gX5_solutionHundredths_X5_hasSolution : GoodIn wsX5_solutionHundredths (wsV RX5 131 RX5 yX5_hasSolution wsX5_hasSolution) := goodIn_app (goodIn_of _ (by decide +kernel)) ggX5_solutionHundredths_X5_hasSolution
theorem dX5_solutionHundredths_0 : decode cX5_solutionHundredths 0 = .ok (.aload_n 0, 1) := by decide +kernel
theorem dX5_solutionHundredths_1 : decode cX5_solutionHundredths 1 = .ok (.invokevirtual 131, 3) := by decide +kernel
theorem dX5_solutionHundredths_4 : decode cX5_solutionHundredths 4 = .ok (.ifCond .eq 13, 3) := by decide +kernel
theorem dX5_solutionHundredths_7 : decode cX5_solutionHundredths 7 = .ok (.bipush 100, 2) := by decide +kernel
theorem dX5_solutionHundredths_9 : decode cX5_solutionHundredths 9 = .ok (.aload_n 0, 1) := by decide +kernel
theorem dX5_solutionHundredths_10 : decode cX5_solutionHundredths 10 = .ok (.getfield 42, 3) := by decide +kernel
theorem dX5_solutionHundredths_13 : decode cX5_solutionHundredths 13 = .ok (.imul, 1) := by decide +kernel
theorem dX5_solutionHundredths_14 : decode cX5_solutionHundredths 14 = .ok (.goto 4, 3) := by decide +kernel
theorem dX5_solutionHundredths_17 : decode cX5_solutionHundredths 17 = .ok (.iconst 0, 1) := by decide +kernel
theorem dX5_solutionHundredths_18 : decode cX5_solutionHundredths 18 = .ok (.ireturn, 1) := by decide +kernel
set_option maxRecDepth 20000 in
theorem ggX5_isTight_X2_use : GoodIn wsX5_isTight wsX2_use := goodIn_r _ [8, 9, 10, 11, 12, 13, 25, 26, 27, 28] (by decide +kernel) (by decide +kernel)
set_option maxRecDepth 20000 in
theorem gX5_isTight_X2_use : GoodIn wsX5_isTight (wsV RX5 134 RX2 yX2_use wsX2_use) := goodIn_app (goodIn_of _ (by decide +kernel)) ggX5_isTight_X2_use
theorem dX5_isTight_0 : decode cX5_isTight 0 = .ok (.aload_n 0, 1) := by decide +kernel
theorem dX5_isTight_1 : decode cX5_isTight 1 = .ok (.getfield 12, 3) := by decide +kernel
theorem dX5_isTight_4 : decode cX5_isTight 4 = .ok (.aload_n 0, 1) := by decide +kernel
theorem dX5_isTight_5 : decode cX5_isTight 5 = .ok (.getfield 39, 3) := by decide +kernel
theorem dX5_isTight_8 : decode cX5_isTight 8 = .ok (.iload_n 1, 1) := by decide +kernel
theorem dX5_isTight_9 : decode cX5_isTight 9 = .ok (.invokevirtual 134, 3) := by decide +kernel
theorem dX5_isTight_12 : decode cX5_isTight 12 = .ok (.aload_n 0, 1) := by decide +kernel
theorem dX5_isTight_13 : decode cX5_isTight 13 = .ok (.getfield 12, 3) := by decide +kernel
theorem dX5_isTight_16 : decode cX5_isTight 16 = .ok (.getfield 103, 3) := by decide +kernel
theorem dX5_isTight_19 : decode cX5_isTight 19 = .ok (.iload_n 1, 1) := by decide +kernel
theorem dX5_isTight_20 : decode cX5_isTight 20 = .ok (.iaload, 1) := by decide +kernel
theorem dX5_isTight_21 : decode cX5_isTight 21 = .ok (.if_icmp .ne 7, 3) := by decide +kernel
theorem dX5_isTight_24 : decode cX5_isTight 24 = .ok (.iconst 1, 1) := by decide +kernel
theorem dX5_isTight_25 : decode cX5_isTight 25 = .ok (.goto 4, 3) := by decide +kernel
theorem dX5_isTight_28 : decode cX5_isTight 28 = .ok (.iconst 0, 1) := by decide +kernel
theorem dX5_isTight_29 : decode cX5_isTight 29 = .ok (.ireturn, 1) := by decide +kernel
set_option maxRecDepth 20000 in
theorem ggX5_relaxedSet_X2_relaxed : GoodIn wsX5_relaxedSet wsX2_relaxed := goodIn_r _ [7, 8, 9, 10, 11, 6, 12, 13, 14, 26, 27, 28, 29] (by decide +kernel) (by decide +kernel)
set_option maxRecDepth 20000 in
theorem gX5_relaxedSet_X2_relaxed : GoodIn wsX5_relaxedSet (wsV RX5 138 RX2 yX2_relaxed wsX2_relaxed) := goodIn_app (goodIn_of _ (by decide +kernel)) ggX5_relaxedSet_X2_relaxed
theorem dX5_relaxedSet_0 : decode cX5_relaxedSet 0 = .ok (.aload_n 0, 1) := by decide +kernel
theorem dX5_relaxedSet_1 : decode cX5_relaxedSet 1 = .ok (.getfield 12, 3) := by decide +kernel
theorem dX5_relaxedSet_4 : decode cX5_relaxedSet 4 = .ok (.aload_n 0, 1) := by decide +kernel
theorem dX5_relaxedSet_5 : decode cX5_relaxedSet 5 = .ok (.getfield 25, 3) := by decide +kernel
theorem dX5_relaxedSet_8 : decode cX5_relaxedSet 8 = .ok (.invokevirtual 138, 3) := by decide +kernel
theorem dX5_relaxedSet_11 : decode cX5_relaxedSet 11 = .ok (.ireturn, 1) := by decide +kernel
set_option maxRecDepth 20000 in
theorem ggX5_slope_X2_use : GoodIn wsX5_slope wsX2_use := goodIn_r _ [7, 8, 9, 10, 11, 12, 24, 25, 26, 27] (by decide +kernel) (by decide +kernel)
set_option maxRecDepth 20000 in
theorem gX5_slope_X2_use : GoodIn wsX5_slope (wsV RX5 134 RX2 yX2_use wsX2_use) := goodIn_app (goodIn_of _ (by decide +kernel)) ggX5_slope_X2_use
theorem dX5_slope_0 : decode cX5_slope 0 = .ok (.aload_n 0, 1) := by decide +kernel
theorem dX5_slope_1 : decode cX5_slope 1 = .ok (.getfield 12, 3) := by decide +kernel
theorem dX5_slope_4 : decode cX5_slope 4 = .ok (.iload_n 2, 1) := by decide +kernel
theorem dX5_slope_5 : decode cX5_slope 5 = .ok (.iload_n 1, 1) := by decide +kernel
theorem dX5_slope_6 : decode cX5_slope 6 = .ok (.invokevirtual 134, 3) := by decide +kernel
theorem dX5_slope_9 : decode cX5_slope 9 = .ok (.aload_n 0, 1) := by decide +kernel
theorem dX5_slope_10 : decode cX5_slope 10 = .ok (.getfield 12, 3) := by decide +kernel
theorem dX5_slope_13 : decode cX5_slope 13 = .ok (.getfield 103, 3) := by decide +kernel
theorem dX5_slope_16 : decode cX5_slope 16 = .ok (.iload_n 1, 1) := by decide +kernel
theorem dX5_slope_17 : decode cX5_slope 17 = .ok (.iaload, 1) := by decide +kernel
theorem dX5_slope_18 : decode cX5_slope 18 = .ok (.isub, 1) := by decide +kernel
theorem dX5_slope_19 : decode cX5_slope 19 = .ok (.ireturn, 1) := by decide +kernel
set_option maxRecDepth 20000 in
theorem ggX5_stepInto_X5_relaxedSet : GoodIn wsX5_stepInto wsX5_relaxedSet := goodIn_r _ [15, 16, 2, 17, 18, 19, 20, 21, 22, 23, 24, 25, 26, 27, 28, 70, 71, 72, 73, 74, 75, 76, 77, 78, 79, 80, 81, 82, 83, 84] (by decide +kernel) (by decide +kernel)
set_option maxRecDepth 20000 in
theorem gX5_stepInto_X5_relaxedSet : GoodIn wsX5_stepInto (wsV RX5 110 RX5 yX5_relaxedSet wsX5_relaxedSet) := goodIn_app (goodIn_of _ (by decide +kernel)) ggX5_stepInto_X5_relaxedSet
set_option maxRecDepth 20000 in
theorem ggX5_stepInto_X5_slope : GoodIn wsX5_stepInto wsX5_slope := goodIn_r _ [32, 16, 33, 34, 35, 36, 20, 37, 28, 22, 38, 39, 40, 70, 71, 72, 73, 74, 75, 76, 77, 78, 79, 80, 81, 82, 83, 84] (by decide +kernel) (by decide +kernel)
set_option maxRecDepth 20000 in
theorem gX5_stepInto_X5_slope : GoodIn wsX5_stepInto (wsV RX5 142 RX5 yX5_slope wsX5_slope) := goodIn_app (goodIn_of _ (by decide +kernel)) ggX5_stepInto_X5_slope
set_option maxRecDepth 20000 in
theorem ggX5_stepInto_X5_length : GoodIn wsX5_stepInto wsX5_length := goodIn_r _ [44, 45, 46, 47, 48, 49, 6, 50, 16, 2, 8, 9, 10, 51, 52, 53, 20, 54, 22, 55, 56, 23, 24, 25, 26, 27, 28, 57, 58, 59, 14, 60, 61, 62, 63, 64, 65, 66, 67, 68, 69, 70, 71, 72, 73, 74, 75, 76, 77, 78, 79, 80, 81, 82, 83, 84] (by decide +kernel) (by decide +kernel)
set_option maxRecDepth 20000 in
theorem gX5_stepInto_X5_length : GoodIn wsX5_stepInto (wsV RX5 145 RX5 yX5_length wsX5_length) := goodIn_app (goodIn_of _ (by decide +kernel)) ggX5_stepInto_X5_length
theorem dX5_stepInto_0 : decode cX5_stepInto 0 = .ok (.aload_n 0, 1) := by decide +kernel
theorem dX5_stepInto_1 : decode cX5_stepInto 1 = .ok (.invokevirtual 110, 3) := by decide +kernel
theorem dX5_stepInto_4 : decode cX5_stepInto 4 = .ok (.istore_n 2, 1) := by decide +kernel
theorem dX5_stepInto_5 : decode cX5_stepInto 5 = .ok (.lconst 0, 1) := by decide +kernel
theorem dX5_stepInto_6 : decode cX5_stepInto 6 = .ok (.lstore_n 3, 1) := by decide +kernel
theorem dX5_stepInto_7 : decode cX5_stepInto 7 = .ok (.iconst 0, 1) := by decide +kernel
theorem dX5_stepInto_8 : decode cX5_stepInto 8 = .ok (.istore 5, 2) := by decide +kernel
theorem dX5_stepInto_10 : decode cX5_stepInto 10 = .ok (.iload 5, 2) := by decide +kernel
theorem dX5_stepInto_12 : decode cX5_stepInto 12 = .ok (.iconst 3, 1) := by decide +kernel
theorem dX5_stepInto_13 : decode cX5_stepInto 13 = .ok (.if_icmp .ge 36, 3) := by decide +kernel
theorem dX5_stepInto_16 : decode cX5_stepInto 16 = .ok (.aload_n 0, 1) := by decide +kernel
theorem dX5_stepInto_17 : decode cX5_stepInto 17 = .ok (.iload 5, 2) := by decide +kernel
theorem dX5_stepInto_19 : decode cX5_stepInto 19 = .ok (.iload_n 2, 1) := by decide +kernel
theorem dX5_stepInto_20 : decode cX5_stepInto 20 = .ok (.invokevirtual 142, 3) := by decide +kernel
theorem dX5_stepInto_23 : decode cX5_stepInto 23 = .ok (.istore 6, 2) := by decide +kernel
theorem dX5_stepInto_25 : decode cX5_stepInto 25 = .ok (.aload_n 0, 1) := by decide +kernel
theorem dX5_stepInto_26 : decode cX5_stepInto 26 = .ok (.getfield 29, 3) := by decide +kernel
theorem dX5_stepInto_29 : decode cX5_stepInto 29 = .ok (.iload 5, 2) := by decide +kernel
theorem dX5_stepInto_31 : decode cX5_stepInto 31 = .ok (.iload 6, 2) := by decide +kernel
theorem dX5_stepInto_33 : decode cX5_stepInto 33 = .ok (.iastore, 1) := by decide +kernel
theorem dX5_stepInto_34 : decode cX5_stepInto 34 = .ok (.lload_n 3, 1) := by decide +kernel
theorem dX5_stepInto_35 : decode cX5_stepInto 35 = .ok (.iload 6, 2) := by decide +kernel
theorem dX5_stepInto_37 : decode cX5_stepInto 37 = .ok (.iload 6, 2) := by decide +kernel
theorem dX5_stepInto_39 : decode cX5_stepInto 39 = .ok (.imul, 1) := by decide +kernel
theorem dX5_stepInto_40 : decode cX5_stepInto 40 = .ok (.i2l, 1) := by decide +kernel
theorem dX5_stepInto_41 : decode cX5_stepInto 41 = .ok (.ladd, 1) := by decide +kernel
theorem dX5_stepInto_42 : decode cX5_stepInto 42 = .ok (.lstore_n 3, 1) := by decide +kernel
theorem dX5_stepInto_43 : decode cX5_stepInto 43 = .ok (.iinc 5 1, 3) := by decide +kernel
theorem dX5_stepInto_46 : decode cX5_stepInto 46 = .ok (.goto (-36), 3) := by decide +kernel
theorem dX5_stepInto_49 : decode cX5_stepInto 49 = .ok (.aload_n 0, 1) := by decide +kernel
theorem dX5_stepInto_50 : decode cX5_stepInto 50 = .ok (.lload_n 3, 1) := by decide +kernel
theorem dX5_stepInto_51 : decode cX5_stepInto 51 = .ok (.invokevirtual 145, 3) := by decide +kernel
theorem dX5_stepInto_54 : decode cX5_stepInto 54 = .ok (.lstore 5, 2) := by decide +kernel
theorem dX5_stepInto_56 : decode cX5_stepInto 56 = .ok (.iconst 0, 1) := by decide +kernel
theorem dX5_stepInto_57 : decode cX5_stepInto 57 = .ok (.istore 7, 2) := by decide +kernel
theorem dX5_stepInto_59 : decode cX5_stepInto 59 = .ok (.iload 7, 2) := by decide +kernel
theorem dX5_stepInto_61 : decode cX5_stepInto 61 = .ok (.iconst 3, 1) := by decide +kernel
theorem dX5_stepInto_62 : decode cX5_stepInto 62 = .ok (.if_icmp .ge 48, 3) := by decide +kernel
theorem dX5_stepInto_65 : decode cX5_stepInto 65 = .ok (.aload_n 0, 1) := by decide +kernel
theorem dX5_stepInto_66 : decode cX5_stepInto 66 = .ok (.getfield 25, 3) := by decide +kernel
theorem dX5_stepInto_69 : decode cX5_stepInto 69 = .ok (.iload 7, 2) := by decide +kernel
theorem dX5_stepInto_71 : decode cX5_stepInto 71 = .ok (.iaload, 1) := by decide +kernel
theorem dX5_stepInto_72 : decode cX5_stepInto 72 = .ok (.i2l, 1) := by decide +kernel
theorem dX5_stepInto_73 : decode cX5_stepInto 73 = .ok (.lload 5, 2) := by decide +kernel
theorem dX5_stepInto_75 : decode cX5_stepInto 75 = .ok (.aload_n 0, 1) := by decide +kernel
theorem dX5_stepInto_76 : decode cX5_stepInto 76 = .ok (.getfield 29, 3) := by decide +kernel
theorem dX5_stepInto_79 : decode cX5_stepInto 79 = .ok (.iload 7, 2) := by decide +kernel
theorem dX5_stepInto_81 : decode cX5_stepInto 81 = .ok (.iaload, 1) := by decide +kernel
theorem dX5_stepInto_82 : decode cX5_stepInto 82 = .ok (.i2l, 1) := by decide +kernel
theorem dX5_stepInto_83 : decode cX5_stepInto 83 = .ok (.lmul, 1) := by decide +kernel
theorem dX5_stepInto_84 : decode cX5_stepInto 84 = .ok (.ladd, 1) := by decide +kernel
theorem dX5_stepInto_85 : decode cX5_stepInto 85 = .ok (.lstore 8, 2) := by decide +kernel
theorem dX5_stepInto_87 : decode cX5_stepInto 87 = .ok (.aload_n 1, 1) := by decide +kernel
theorem dX5_stepInto_88 : decode cX5_stepInto 88 = .ok (.iload 7, 2) := by decide +kernel
theorem dX5_stepInto_90 : decode cX5_stepInto 90 = .ok (.lconst 0, 1) := by decide +kernel
theorem dX5_stepInto_91 : decode cX5_stepInto 91 = .ok (.ldc2_w 149, 3) := by decide +kernel
theorem dX5_stepInto_94 : decode cX5_stepInto 94 = .ok (.lload 8, 2) := by decide +kernel
theorem dX5_stepInto_96 : decode cX5_stepInto 96 = .ok (.invokestatic 151, 3) := by decide +kernel
theorem dX5_stepInto_99 : decode cX5_stepInto 99 = .ok (.invokestatic 157, 3) := by decide +kernel
theorem dX5_stepInto_102 : decode cX5_stepInto 102 = .ok (.l2i, 1) := by decide +kernel
theorem dX5_stepInto_103 : decode cX5_stepInto 103 = .ok (.iastore, 1) := by decide +kernel
theorem dX5_stepInto_104 : decode cX5_stepInto 104 = .ok (.iinc 7 1, 3) := by decide +kernel
theorem dX5_stepInto_107 : decode cX5_stepInto 107 = .ok (.goto (-48), 3) := by decide +kernel
theorem dX5_stepInto_110 : decode cX5_stepInto 110 = .ok (.return_, 1) := by decide +kernel
set_option maxRecDepth 20000 in
theorem ggX5_length_X2_boundAt : GoodIn wsX5_length wsX2_boundAt := goodIn_r _ [17, 18, 19, 5, 6, 7, 20, 21, 22, 23, 16, 24, 25, 26, 52, 53, 54, 55] (by decide +kernel) (by decide +kernel)
set_option maxRecDepth 20000 in
theorem gX5_length_X2_boundAt : GoodIn wsX5_length (wsV RX5 162 RX2 yX2_boundAt wsX2_boundAt) := goodIn_app (goodIn_of _ (by decide +kernel)) ggX5_length_X2_boundAt
set_option maxRecDepth 20000 in
theorem ggX5_length_X5_solutionHundredths : GoodIn wsX5_length wsX5_solutionHundredths := goodIn_r _ [31, 32, 33, 34, 35, 30, 36, 41, 42, 43, 44, 45, 46, 47, 48, 49, 50, 51] (by decide +kernel) (by decide +kernel)
set_option maxRecDepth 20000 in
theorem gX5_length_X5_solutionHundredths : GoodIn wsX5_length (wsV RX5 166 RX5 yX5_solutionHundredths wsX5_solutionHundredths) := goodIn_app (goodIn_of _ (by decide +kernel)) ggX5_length_X5_solutionHundredths
set_option maxRecDepth 20000 in
theorem ggX5_length_J9_floorDiv_f86c9 : GoodIn wsX5_length wsJ9_floorDiv_f86c9 := goodIn_r _ [40] (by decide +kernel) (by decide +kernel)
set_option maxRecDepth 20000 in
theorem gX5_length_J9_floorDiv_f86c9 : GoodIn wsX5_length (va_wsS RX5 169 yJ9_floorDiv_f86c9 wsJ9_floorDiv_f86c9) := goodIn_app (goodIn_of _ (by decide +kernel)) ggX5_length_J9_floorDiv_f86c9
theorem dX5_length_0 : decode cX5_length 0 = .ok (.aload_n 0, 1) := by decide +kernel
theorem dX5_length_1 : decode cX5_length 1 = .ok (.getfield 32, 3) := by decide +kernel
theorem dX5_length_4 : decode cX5_length 4 = .ok (.lookupswitch 85 #[(1, 28), (2, 49)], 28) := by decide +kernel
theorem dX5_length_32 : decode cX5_length 32 = .ok (.iconst 1, 1) := by decide +kernel
theorem dX5_length_33 : decode cX5_length 33 = .ok (.aload_n 0, 1) := by decide +kernel
theorem dX5_length_34 : decode cX5_length 34 = .ok (.getfield 36, 3) := by decide +kernel
theorem dX5_length_37 : decode cX5_length 37 = .ok (.iconst 1, 1) := by decide +kernel
theorem dX5_length_38 : decode cX5_length 38 = .ok (.aload_n 0, 1) := by decide +kernel
theorem dX5_length_39 : decode cX5_length 39 = .ok (.getfield 45, 3) := by decide +kernel
theorem dX5_length_42 : decode cX5_length 42 = .ok (.iconst 1, 1) := by decide +kernel
theorem dX5_length_43 : decode cX5_length 43 = .ok (.iadd, 1) := by decide +kernel
theorem dX5_length_44 : decode cX5_length 44 = .ok (.invokestatic 160, 3) := by decide +kernel
theorem dX5_length_47 : decode cX5_length 47 = .ok (.idiv, 1) := by decide +kernel
theorem dX5_length_48 : decode cX5_length 48 = .ok (.invokestatic 160, 3) := by decide +kernel
theorem dX5_length_51 : decode cX5_length 51 = .ok (.i2l, 1) := by decide +kernel
theorem dX5_length_52 : decode cX5_length 52 = .ok (.lreturn, 1) := by decide +kernel
theorem dX5_length_53 : decode cX5_length 53 = .ok (.lload_n 1, 1) := by decide +kernel
theorem dX5_length_54 : decode cX5_length 54 = .ok (.lconst 0, 1) := by decide +kernel
theorem dX5_length_55 : decode cX5_length 55 = .ok (.lcmp, 1) := by decide +kernel
theorem dX5_length_56 : decode cX5_length 56 = .ok (.ifCond .gt 5, 3) := by decide +kernel
theorem dX5_length_59 : decode cX5_length 59 = .ok (.lconst 0, 1) := by decide +kernel
theorem dX5_length_60 : decode cX5_length 60 = .ok (.lreturn, 1) := by decide +kernel
theorem dX5_length_61 : decode cX5_length 61 = .ok (.aload_n 0, 1) := by decide +kernel
theorem dX5_length_62 : decode cX5_length 62 = .ok (.getfield 12, 3) := by decide +kernel
theorem dX5_length_65 : decode cX5_length 65 = .ok (.aload_n 0, 1) := by decide +kernel
theorem dX5_length_66 : decode cX5_length 66 = .ok (.getfield 25, 3) := by decide +kernel
theorem dX5_length_69 : decode cX5_length 69 = .ok (.invokevirtual 162, 3) := by decide +kernel
theorem dX5_length_72 : decode cX5_length 72 = .ok (.aload_n 0, 1) := by decide +kernel
theorem dX5_length_73 : decode cX5_length 73 = .ok (.invokevirtual 166, 3) := by decide +kernel
theorem dX5_length_76 : decode cX5_length 76 = .ok (.i2l, 1) := by decide +kernel
theorem dX5_length_77 : decode cX5_length 77 = .ok (.lsub, 1) := by decide +kernel
theorem dX5_length_78 : decode cX5_length 78 = .ok (.lstore_n 3, 1) := by decide +kernel
theorem dX5_length_79 : decode cX5_length 79 = .ok (.lconst 1, 1) := by decide +kernel
theorem dX5_length_80 : decode cX5_length 80 = .ok (.lload_n 3, 1) := by decide +kernel
theorem dX5_length_81 : decode cX5_length 81 = .ok (.lload_n 1, 1) := by decide +kernel
theorem dX5_length_82 : decode cX5_length 82 = .ok (.invokestatic 169, 3) := by decide +kernel
theorem dX5_length_85 : decode cX5_length 85 = .ok (.invokestatic 157, 3) := by decide +kernel
theorem dX5_length_88 : decode cX5_length 88 = .ok (.lreturn, 1) := by decide +kernel
theorem dX5_length_89 : decode cX5_length 89 = .ok (.aload_n 0, 1) := by decide +kernel
theorem dX5_length_90 : decode cX5_length 90 = .ok (.getfield 36, 3) := by decide +kernel
theorem dX5_length_93 : decode cX5_length 93 = .ok (.i2l, 1) := by decide +kernel
theorem dX5_length_94 : decode cX5_length 94 = .ok (.lreturn, 1) := by decide +kernel
set_option maxRecDepth 20000 in
theorem ggX5_forget_X2_boundAt : GoodIn wsX5_forget wsX2_boundAt := goodIn_r _ [11, 12, 13, 14, 15, 16, 17, 18, 19, 20, 10, 21, 22, 23, 35, 36, 37, 38] (by decide +kernel) (by decide +kernel)
set_option maxRecDepth 20000 in
theorem gX5_forget_X2_boundAt : GoodIn wsX5_forget (wsV RX5 162 RX2 yX2_boundAt wsX2_boundAt) := goodIn_app (goodIn_of _ (by decide +kernel)) ggX5_forget_X2_boundAt
theorem dX5_forget_0 : decode cX5_forget 0 = .ok (.aload_n 0, 1) := by decide +kernel
theorem dX5_forget_1 : decode cX5_forget 1 = .ok (.iconst 0, 1) := by decide +kernel
theorem dX5_forget_2 : decode cX5_forget 2 = .ok (.putfield 39, 3) := by decide +kernel
theorem dX5_forget_5 : decode cX5_forget 5 = .ok (.aload_n 0, 1) := by decide +kernel
theorem dX5_forget_6 : decode cX5_forget 6 = .ok (.bipush (-6), 2) := by decide +kernel
theorem dX5_forget_8 : decode cX5_forget 8 = .ok (.putfield 42, 3) := by decide +kernel
theorem dX5_forget_11 : decode cX5_forget 11 = .ok (.aload_n 0, 1) := by decide +kernel
theorem dX5_forget_12 : decode cX5_forget 12 = .ok (.iconst 0, 1) := by decide +kernel
theorem dX5_forget_13 : decode cX5_forget 13 = .ok (.putfield 45, 3) := by decide +kernel
theorem dX5_forget_16 : decode cX5_forget 16 = .ok (.aload_n 0, 1) := by decide +kernel
theorem dX5_forget_17 : decode cX5_forget 17 = .ok (.aload_n 0, 1) := by decide +kernel
theorem dX5_forget_18 : decode cX5_forget 18 = .ok (.getfield 12, 3) := by decide +kernel
theorem dX5_forget_21 : decode cX5_forget 21 = .ok (.aload_n 0, 1) := by decide +kernel
theorem dX5_forget_22 : decode cX5_forget 22 = .ok (.getfield 25, 3) := by decide +kernel
theorem dX5_forget_25 : decode cX5_forget 25 = .ok (.invokevirtual 162, 3) := by decide +kernel
theorem dX5_forget_28 : decode cX5_forget 28 = .ok (.putfield 51, 3) := by decide +kernel
theorem dX5_forget_31 : decode cX5_forget 31 = .ok (.return_, 1) := by decide +kernel
set_option maxRecDepth 20000 in
theorem ggX5_lowerBestBound_X2_boundAt : GoodIn wsX5_lowerBestBound wsX2_boundAt := goodIn_r _ [8, 9, 10, 11, 12, 13, 14, 15, 16, 17, 7, 18, 19, 20, 32, 33, 34, 35] (by decide +kernel) (by decide +kernel)
set_option maxRecDepth 20000 in
theorem gX5_lowerBestBound_X2_boundAt : GoodIn wsX5_lowerBestBound (wsV RX5 162 RX2 yX2_boundAt wsX2_boundAt) := goodIn_app (goodIn_of _ (by decide +kernel)) ggX5_lowerBestBound_X2_boundAt
theorem dX5_lowerBestBound_0 : decode cX5_lowerBestBound 0 = .ok (.aload_n 0, 1) := by decide +kernel
theorem dX5_lowerBestBound_1 : decode cX5_lowerBestBound 1 = .ok (.getfield 12, 3) := by decide +kernel
theorem dX5_lowerBestBound_4 : decode cX5_lowerBestBound 4 = .ok (.aload_n 0, 1) := by decide +kernel
theorem dX5_lowerBestBound_5 : decode cX5_lowerBestBound 5 = .ok (.getfield 25, 3) := by decide +kernel
theorem dX5_lowerBestBound_8 : decode cX5_lowerBestBound 8 = .ok (.invokevirtual 162, 3) := by decide +kernel
theorem dX5_lowerBestBound_11 : decode cX5_lowerBestBound 11 = .ok (.lstore_n 1, 1) := by decide +kernel
theorem dX5_lowerBestBound_12 : decode cX5_lowerBestBound 12 = .ok (.lload_n 1, 1) := by decide +kernel
theorem dX5_lowerBestBound_13 : decode cX5_lowerBestBound 13 = .ok (.aload_n 0, 1) := by decide +kernel
theorem dX5_lowerBestBound_14 : decode cX5_lowerBestBound 14 = .ok (.getfield 51, 3) := by decide +kernel
theorem dX5_lowerBestBound_17 : decode cX5_lowerBestBound 17 = .ok (.lcmp, 1) := by decide +kernel
theorem dX5_lowerBestBound_18 : decode cX5_lowerBestBound 18 = .ok (.ifCond .ge 7, 3) := by decide +kernel
theorem dX5_lowerBestBound_21 : decode cX5_lowerBestBound 21 = .ok (.iconst 1, 1) := by decide +kernel
theorem dX5_lowerBestBound_22 : decode cX5_lowerBestBound 22 = .ok (.goto 4, 3) := by decide +kernel
theorem dX5_lowerBestBound_25 : decode cX5_lowerBestBound 25 = .ok (.iconst 0, 1) := by decide +kernel
theorem dX5_lowerBestBound_26 : decode cX5_lowerBestBound 26 = .ok (.istore_n 3, 1) := by decide +kernel
theorem dX5_lowerBestBound_27 : decode cX5_lowerBestBound 27 = .ok (.iload_n 3, 1) := by decide +kernel
theorem dX5_lowerBestBound_28 : decode cX5_lowerBestBound 28 = .ok (.ifCond .eq 8, 3) := by decide +kernel
theorem dX5_lowerBestBound_31 : decode cX5_lowerBestBound 31 = .ok (.aload_n 0, 1) := by decide +kernel
theorem dX5_lowerBestBound_32 : decode cX5_lowerBestBound 32 = .ok (.lload_n 1, 1) := by decide +kernel
theorem dX5_lowerBestBound_33 : decode cX5_lowerBestBound 33 = .ok (.putfield 51, 3) := by decide +kernel
theorem dX5_lowerBestBound_36 : decode cX5_lowerBestBound 36 = .ok (.iload_n 3, 1) := by decide +kernel
theorem dX5_lowerBestBound_37 : decode cX5_lowerBestBound 37 = .ok (.ireturn, 1) := by decide +kernel
set_option maxRecDepth 20000 in
theorem ggX5_isSize_X6_within : GoodIn wsX5_isSize wsX6_within := goodIn_r _ [3] (by decide +kernel) (by decide +kernel)
set_option maxRecDepth 20000 in
theorem gX5_isSize_X6_within_n68 : GoodIn wsX5_isSize (wsX6_within) := ggX5_isSize_X6_within
theorem dX5_isSize_0 : decode cX5_isSize 0 = .ok (.iload_n 0, 1) := by decide +kernel
theorem dX5_isSize_1 : decode cX5_isSize 1 = .ok (.iconst 0, 1) := by decide +kernel
theorem dX5_isSize_2 : decode cX5_isSize 2 = .ok (.bipush 99, 2) := by decide +kernel
theorem dX5_isSize_4 : decode cX5_isSize 4 = .ok (.invokestatic 68, 3) := by decide +kernel
theorem dX5_isSize_7 : decode cX5_isSize 7 = .ok (.ireturn, 1) := by decide +kernel
set_option maxRecDepth 20000 in
theorem ggX6_init_X5_init : GoodIn wsX6_init wsX5_init := goodIn_r _ [26, 27, 2, 3, 28, 29, 30, 31, 32, 33, 34, 35, 23, 36, 37, 38, 39, 40, 41, 42, 43, 44, 45, 46, 47, 48, 49, 50, 51, 52, 53, 54, 55, 56, 57, 58, 59, 60, 61, 62, 115, 116, 117, 118, 86, 87, 88, 89, 90, 91, 92, 93, 94, 95, 96, 119, 120] (by decide +kernel) (by decide +kernel)
set_option maxRecDepth 20000 in
theorem gX6_init_X5_init_n9 : GoodIn wsX6_init (wsX5_init) := ggX6_init_X5_init
set_option maxRecDepth 20000 in
theorem ggX6_init_X1_init : GoodIn wsX6_init wsX1_init := goodIn_r _ [65, 66, 2, 3, 67, 68, 69, 70, 5, 6, 25, 26, 27, 28, 29, 30, 31, 32, 33, 34, 35, 23, 36, 37, 38, 39, 40, 41, 42, 43, 44, 45, 46, 47, 48, 49, 50, 51, 52, 53, 54, 55, 56, 57, 58, 59, 60, 61, 62, 104, 105, 106, 86, 87, 88, 89, 90, 91, 92, 93, 94, 95, 96, 115, 116, 117, 118, 119, 120] (by decide +kernel) (by decide +kernel)
set_option maxRecDepth 20000 in
theorem gX6_init_X1_init : GoodIn wsX6_init (wsX1_init) := ggX6_init_X1_init
set_option maxRecDepth 20000 in
theorem ggX6_init_X3_init : GoodIn wsX6_init wsX3_init := goodIn_r _ [72, 73, 2, 3, 74, 75, 76, 77, 78, 23, 79, 80, 107, 108, 109, 110, 111, 112] (by decide +kernel) (by decide +kernel)
set_option maxRecDepth 20000 in
theorem gX6_init_X3_init_n33 : GoodIn wsX6_init (wsX3_init) := ggX6_init_X3_init
set_option maxRecDepth 20000 in
theorem ggX6_init_X4_init : GoodIn wsX6_init wsX4_init := goodIn_r _ [82, 83, 2, 3, 23, 84, 85, 113, 114] (by decide +kernel) (by decide +kernel)
set_option maxRecDepth 20000 in
theorem gX6_init_X4_init_n40 : GoodIn wsX6_init (wsX4_init) := ggX6_init_X4_init
theorem dX6_init_0 : decode cX6_init 0 = .ok (.aload_n 0, 1) := by decide +kernel
theorem dX6_init_1 : decode cX6_init 1 = .ok (.invokespecial 1, 3) := by decide +kernel
theorem dX6_init_4 : decode cX6_init 4 = .ok (.aload_n 0, 1) := by decide +kernel
theorem dX6_init_5 : decode cX6_init 5 = .ok (.new 7, 3) := by decide +kernel
theorem dX6_init_8 : decode cX6_init 8 = .ok (.dup, 1) := by decide +kernel
theorem dX6_init_9 : decode cX6_init 9 = .ok (.invokespecial 9, 3) := by decide +kernel
theorem dX6_init_12 : decode cX6_init 12 = .ok (.putfield 10, 3) := by decide +kernel
theorem dX6_init_15 : decode cX6_init 15 = .ok (.aload_n 0, 1) := by decide +kernel
theorem dX6_init_16 : decode cX6_init 16 = .ok (.new 16, 3) := by decide +kernel
theorem dX6_init_19 : decode cX6_init 19 = .ok (.dup, 1) := by decide +kernel
theorem dX6_init_20 : decode cX6_init 20 = .ok (.invokespecial 18, 3) := by decide +kernel
theorem dX6_init_23 : decode cX6_init 23 = .ok (.putfield 19, 3) := by decide +kernel
theorem dX6_init_26 : decode cX6_init 26 = .ok (.aload_n 0, 1) := by decide +kernel
theorem dX6_init_27 : decode cX6_init 27 = .ok (.iconst 2, 1) := by decide +kernel
theorem dX6_init_28 : decode cX6_init 28 = .ok (.anewarray 7, 3) := by decide +kernel
theorem dX6_init_31 : decode cX6_init 31 = .ok (.putfield 23, 3) := by decide +kernel
theorem dX6_init_34 : decode cX6_init 34 = .ok (.aload_n 0, 1) := by decide +kernel
theorem dX6_init_35 : decode cX6_init 35 = .ok (.iconst 2, 1) := by decide +kernel
theorem dX6_init_36 : decode cX6_init 36 = .ok (.newarray .boolean, 2) := by decide +kernel
theorem dX6_init_38 : decode cX6_init 38 = .ok (.putfield 27, 3) := by decide +kernel
theorem dX6_init_41 : decode cX6_init 41 = .ok (.aload_n 0, 1) := by decide +kernel
theorem dX6_init_42 : decode cX6_init 42 = .ok (.new 31, 3) := by decide +kernel
theorem dX6_init_45 : decode cX6_init 45 = .ok (.dup, 1) := by decide +kernel
theorem dX6_init_46 : decode cX6_init 46 = .ok (.invokespecial 33, 3) := by decide +kernel
theorem dX6_init_49 : decode cX6_init 49 = .ok (.putfield 34, 3) := by decide +kernel
theorem dX6_init_52 : decode cX6_init 52 = .ok (.aload_n 0, 1) := by decide +kernel
theorem dX6_init_53 : decode cX6_init 53 = .ok (.new 38, 3) := by decide +kernel
theorem dX6_init_56 : decode cX6_init 56 = .ok (.dup, 1) := by decide +kernel
theorem dX6_init_57 : decode cX6_init 57 = .ok (.invokespecial 40, 3) := by decide +kernel
theorem dX6_init_60 : decode cX6_init 60 = .ok (.putfield 41, 3) := by decide +kernel
theorem dX6_init_63 : decode cX6_init 63 = .ok (.aload_n 0, 1) := by decide +kernel
theorem dX6_init_64 : decode cX6_init 64 = .ok (.iconst 3, 1) := by decide +kernel
theorem dX6_init_65 : decode cX6_init 65 = .ok (.newarray .int, 2) := by decide +kernel
theorem dX6_init_67 : decode cX6_init 67 = .ok (.putfield 45, 3) := by decide +kernel
theorem dX6_init_70 : decode cX6_init 70 = .ok (.iconst 0, 1) := by decide +kernel
theorem dX6_init_71 : decode cX6_init 71 = .ok (.istore_n 1, 1) := by decide +kernel
theorem dX6_init_72 : decode cX6_init 72 = .ok (.iload_n 1, 1) := by decide +kernel
theorem dX6_init_73 : decode cX6_init 73 = .ok (.iconst 2, 1) := by decide +kernel
theorem dX6_init_74 : decode cX6_init 74 = .ok (.if_icmp .ge 22, 3) := by decide +kernel
theorem dX6_init_77 : decode cX6_init 77 = .ok (.aload_n 0, 1) := by decide +kernel
theorem dX6_init_78 : decode cX6_init 78 = .ok (.getfield 23, 3) := by decide +kernel
theorem dX6_init_81 : decode cX6_init 81 = .ok (.iload_n 1, 1) := by decide +kernel
theorem dX6_init_82 : decode cX6_init 82 = .ok (.new 7, 3) := by decide +kernel
theorem dX6_init_85 : decode cX6_init 85 = .ok (.dup, 1) := by decide +kernel
theorem dX6_init_86 : decode cX6_init 86 = .ok (.invokespecial 9, 3) := by decide +kernel
theorem dX6_init_89 : decode cX6_init 89 = .ok (.aastore, 1) := by decide +kernel
theorem dX6_init_90 : decode cX6_init 90 = .ok (.iinc 1 1, 3) := by decide +kernel
theorem dX6_init_93 : decode cX6_init 93 = .ok (.goto (-21), 3) := by decide +kernel
theorem dX6_init_96 : decode cX6_init 96 = .ok (.return_, 1) := by decide +kernel
set_option maxRecDepth 20000 in
theorem ggX6_item_X1_prepare : GoodIn wsX6_item wsX1_prepare := goodIn_r _ [7, 8, 9, 10, 11, 12, 13, 14, 15, 16, 17, 18, 19, 20, 21, 22, 23, 24, 25, 26, 27, 28, 29, 30, 31, 32, 33, 34, 35, 36, 37, 38, 39, 40, 41, 42, 43, 44, 45, 46, 99, 100, 101, 102, 103, 104, 105, 106, 107, 108, 109, 110, 111, 112, 113, 114, 115, 116, 117, 118] (by decide +kernel) (by decide +kernel)
set_option maxRecDepth 20000 in
theorem gX6_item_X1_prepare : GoodIn wsX6_item (wsV RX6 49 RX1 yX1_prepare wsX1_prepare) := goodIn_app (goodIn_of _ (by decide +kernel)) ggX6_item_X1_prepare
set_option maxRecDepth 20000 in
theorem ggX6_item_X5_addItem : GoodIn wsX6_item wsX5_addItem := goodIn_r _ [50, 15, 16, 51, 52, 53, 54, 55, 56, 57, 13, 58, 59, 60, 61, 32, 62, 38, 63, 64, 65, 66, 34, 36, 67, 68, 69, 70, 71, 24, 25, 26, 17, 28, 72, 73, 74, 75, 76, 77, 78, 79, 37, 80, 81, 82, 83, 102, 103, 104, 105, 106, 107, 108, 109, 110, 111, 112, 117, 118, 113, 114, 115, 116] (by decide +kernel) (by decide +kernel)
set_option maxRecDepth 20000 in
theorem gX6_item_X5_addItem : GoodIn wsX6_item (wsV RX6 53 RX5 yX5_addItem wsX5_addItem) := goodIn_app (goodIn_of _ (by decide +kernel)) ggX6_item_X5_addItem
set_option maxRecDepth 20000 in
theorem ggX6_item_X1_kept : GoodIn wsX6_item wsX1_kept := goodIn_r _ [87, 9, 88, 89, 90, 78, 91, 99, 100, 101] (by decide +kernel) (by decide +kernel)
set_option maxRecDepth 20000 in
theorem gX6_item_X1_kept : GoodIn wsX6_item (wsV RX6 57 RX1 yX1_kept wsX1_kept) := goodIn_app (goodIn_of _ (by decide +kernel)) ggX6_item_X1_kept
theorem dX6_item_0 : decode cX6_item 0 = .ok (.aload_n 0, 1) := by decide +kernel
theorem dX6_item_1 : decode cX6_item 1 = .ok (.getfield 19, 3) := by decide +kernel
theorem dX6_item_4 : decode cX6_item 4 = .ok (.aload_n 0, 1) := by decide +kernel
theorem dX6_item_5 : decode cX6_item 5 = .ok (.getfield 10, 3) := by decide +kernel
theorem dX6_item_8 : decode cX6_item 8 = .ok (.invokevirtual 49, 3) := by decide +kernel
theorem dX6_item_11 : decode cX6_item 11 = .ok (.aload_n 0, 1) := by decide +kernel
theorem dX6_item_12 : decode cX6_item 12 = .ok (.getfield 19, 3) := by decide +kernel
theorem dX6_item_15 : decode cX6_item 15 = .ok (.aload_n 0, 1) := by decide +kernel
theorem dX6_item_16 : decode cX6_item 16 = .ok (.getfield 10, 3) := by decide +kernel
theorem dX6_item_19 : decode cX6_item 19 = .ok (.iload_n 1, 1) := by decide +kernel
theorem dX6_item_20 : decode cX6_item 20 = .ok (.iload_n 2, 1) := by decide +kernel
theorem dX6_item_21 : decode cX6_item 21 = .ok (.iload_n 3, 1) := by decide +kernel
theorem dX6_item_22 : decode cX6_item 22 = .ok (.iload 4, 2) := by decide +kernel
theorem dX6_item_24 : decode cX6_item 24 = .ok (.invokevirtual 53, 3) := by decide +kernel
theorem dX6_item_27 : decode cX6_item 27 = .ok (.invokevirtual 57, 3) := by decide +kernel
theorem dX6_item_30 : decode cX6_item 30 = .ok (.ireturn, 1) := by decide +kernel
set_option maxRecDepth 20000 in
theorem ggX6_drop_X1_prepare : GoodIn wsX6_drop wsX1_prepare := goodIn_r _ [7, 8, 9, 10, 11, 12, 13, 14, 15, 16, 17, 18, 19, 20, 21, 22, 23, 24, 25, 26, 27, 28, 29, 30, 31, 32, 33, 34, 35, 36, 37, 38, 39, 40, 41, 42, 43, 44, 45, 46, 96, 97, 98, 99, 100, 101, 102, 103, 104, 105, 106, 107, 108, 109, 110, 111, 112, 113, 114, 115] (by decide +kernel) (by decide +kernel)
set_option maxRecDepth 20000 in
theorem gX6_drop_X1_prepare : GoodIn wsX6_drop (wsV RX6 49 RX1 yX1_prepare wsX1_prepare) := goodIn_app (goodIn_of _ (by decide +kernel)) ggX6_drop_X1_prepare
set_option maxRecDepth 20000 in
theorem ggX6_drop_X5_removeItem : GoodIn wsX6_drop wsX5_removeItem := goodIn_r _ [50, 15, 16, 51, 52, 53, 54, 55, 32, 56, 38, 57, 58, 59, 60, 61, 62, 63, 34, 35, 19, 20, 21, 36, 64, 65, 66, 67, 13, 68, 24, 25, 26, 17, 28, 69, 70, 71, 72, 73, 74, 75, 76, 37, 77, 78, 79, 80, 99, 100, 101, 102, 103, 104, 105, 106, 107, 108, 109, 114, 115, 110, 111, 112, 113] (by decide +kernel) (by decide +kernel)
set_option maxRecDepth 20000 in
theorem gX6_drop_X5_removeItem : GoodIn wsX6_drop (wsV RX6 61 RX5 yX5_removeItem wsX5_removeItem) := goodIn_app (goodIn_of _ (by decide +kernel)) ggX6_drop_X5_removeItem
set_option maxRecDepth 20000 in
theorem ggX6_drop_X1_kept : GoodIn wsX6_drop wsX1_kept := goodIn_r _ [84, 9, 85, 86, 87, 75, 88, 96, 97, 98] (by decide +kernel) (by decide +kernel)
set_option maxRecDepth 20000 in
theorem gX6_drop_X1_kept : GoodIn wsX6_drop (wsV RX6 57 RX1 yX1_kept wsX1_kept) := goodIn_app (goodIn_of _ (by decide +kernel)) ggX6_drop_X1_kept
theorem dX6_drop_0 : decode cX6_drop 0 = .ok (.aload_n 0, 1) := by decide +kernel
theorem dX6_drop_1 : decode cX6_drop 1 = .ok (.getfield 19, 3) := by decide +kernel
theorem dX6_drop_4 : decode cX6_drop 4 = .ok (.aload_n 0, 1) := by decide +kernel
theorem dX6_drop_5 : decode cX6_drop 5 = .ok (.getfield 10, 3) := by decide +kernel
theorem dX6_drop_8 : decode cX6_drop 8 = .ok (.invokevirtual 49, 3) := by decide +kernel
theorem dX6_drop_11 : decode cX6_drop 11 = .ok (.aload_n 0, 1) := by decide +kernel
theorem dX6_drop_12 : decode cX6_drop 12 = .ok (.getfield 19, 3) := by decide +kernel
theorem dX6_drop_15 : decode cX6_drop 15 = .ok (.aload_n 0, 1) := by decide +kernel
theorem dX6_drop_16 : decode cX6_drop 16 = .ok (.getfield 10, 3) := by decide +kernel
theorem dX6_drop_19 : decode cX6_drop 19 = .ok (.iload_n 1, 1) := by decide +kernel
theorem dX6_drop_20 : decode cX6_drop 20 = .ok (.invokevirtual 61, 3) := by decide +kernel
theorem dX6_drop_23 : decode cX6_drop 23 = .ok (.invokevirtual 57, 3) := by decide +kernel
theorem dX6_drop_26 : decode cX6_drop 26 = .ok (.ireturn, 1) := by decide +kernel
set_option maxRecDepth 20000 in
theorem ggX6_limit_X1_prepare : GoodIn wsX6_limit wsX1_prepare := goodIn_r _ [7, 8, 9, 10, 11, 12, 13, 14, 15, 16, 17, 18, 19, 20, 21, 22, 23, 24, 25, 26, 27, 28, 29, 30, 31, 32, 33, 34, 35, 36, 37, 38, 39, 40, 41, 42, 43, 44, 45, 46, 89, 90, 91, 92, 93, 94, 95, 96, 97, 98, 99, 100, 101, 102, 103, 104, 105, 106, 107, 108] (by decide +kernel) (by decide +kernel)
set_option maxRecDepth 20000 in
theorem gX6_limit_X1_prepare : GoodIn wsX6_limit (wsV RX6 49 RX1 yX1_prepare wsX1_prepare) := goodIn_app (goodIn_of _ (by decide +kernel)) ggX6_limit_X1_prepare
set_option maxRecDepth 20000 in
theorem ggX6_limit_X5_setLimit : GoodIn wsX6_limit wsX5_setLimit := goodIn_r _ [50, 15, 51, 52, 53, 54, 55, 56, 57, 58, 59, 60, 13, 61, 24, 25, 26, 17, 28, 62, 63, 64, 32, 65, 38, 66, 67, 68, 69, 37, 70, 71, 72, 73, 34, 36, 92, 93, 94, 95, 96, 97, 98, 99, 100, 101, 102, 103, 104, 105, 106] (by decide +kernel) (by decide +kernel)
set_option maxRecDepth 20000 in
theorem gX6_limit_X5_setLimit : GoodIn wsX6_limit (wsV RX6 64 RX5 yX5_setLimit wsX5_setLimit) := goodIn_app (goodIn_of _ (by decide +kernel)) ggX6_limit_X5_setLimit
set_option maxRecDepth 20000 in
theorem ggX6_limit_X1_kept : GoodIn wsX6_limit wsX1_kept := goodIn_r _ [77, 9, 78, 79, 80, 68, 81, 89, 90, 91] (by decide +kernel) (by decide +kernel)
set_option maxRecDepth 20000 in
theorem gX6_limit_X1_kept : GoodIn wsX6_limit (wsV RX6 57 RX1 yX1_kept wsX1_kept) := goodIn_app (goodIn_of _ (by decide +kernel)) ggX6_limit_X1_kept
theorem dX6_limit_0 : decode cX6_limit 0 = .ok (.aload_n 0, 1) := by decide +kernel
theorem dX6_limit_1 : decode cX6_limit 1 = .ok (.getfield 19, 3) := by decide +kernel
theorem dX6_limit_4 : decode cX6_limit 4 = .ok (.aload_n 0, 1) := by decide +kernel
theorem dX6_limit_5 : decode cX6_limit 5 = .ok (.getfield 10, 3) := by decide +kernel
theorem dX6_limit_8 : decode cX6_limit 8 = .ok (.invokevirtual 49, 3) := by decide +kernel
theorem dX6_limit_11 : decode cX6_limit 11 = .ok (.aload_n 0, 1) := by decide +kernel
theorem dX6_limit_12 : decode cX6_limit 12 = .ok (.getfield 19, 3) := by decide +kernel
theorem dX6_limit_15 : decode cX6_limit 15 = .ok (.aload_n 0, 1) := by decide +kernel
theorem dX6_limit_16 : decode cX6_limit 16 = .ok (.getfield 10, 3) := by decide +kernel
theorem dX6_limit_19 : decode cX6_limit 19 = .ok (.iload_n 1, 1) := by decide +kernel
theorem dX6_limit_20 : decode cX6_limit 20 = .ok (.iload_n 2, 1) := by decide +kernel
theorem dX6_limit_21 : decode cX6_limit 21 = .ok (.invokevirtual 64, 3) := by decide +kernel
theorem dX6_limit_24 : decode cX6_limit 24 = .ok (.invokevirtual 57, 3) := by decide +kernel
theorem dX6_limit_27 : decode cX6_limit 27 = .ok (.ireturn, 1) := by decide +kernel
set_option maxRecDepth 20000 in
theorem ggX6_rule_X1_prepare : GoodIn wsX6_rule wsX1_prepare := goodIn_r _ [7, 8, 9, 10, 11, 12, 13, 14, 15, 16, 17, 18, 19, 20, 21, 22, 23, 24, 25, 26, 27, 28, 29, 30, 31, 32, 33, 34, 35, 36, 37, 38, 39, 40, 41, 42, 43, 44, 45, 46, 70, 71, 72, 73, 74, 75, 76, 77, 78, 79, 80, 81, 82, 83, 84, 85, 86, 87, 88, 89] (by decide +kernel) (by decide +kernel)
set_option maxRecDepth 20000 in
theorem gX6_rule_X1_prepare : GoodIn wsX6_rule (wsV RX6 49 RX1 yX1_prepare wsX1_prepare) := goodIn_app (goodIn_of _ (by decide +kernel)) ggX6_rule_X1_prepare
set_option maxRecDepth 20000 in
theorem ggX6_rule_X5_setRule : GoodIn wsX6_rule wsX5_setRule := goodIn_r _ [50, 22, 23, 51, 52, 53, 73, 74, 75, 76, 77, 78, 79, 80, 81, 82, 83] (by decide +kernel) (by decide +kernel)
set_option maxRecDepth 20000 in
theorem gX6_rule_X5_setRule : GoodIn wsX6_rule (wsV RX6 68 RX5 yX5_setRule wsX5_setRule) := goodIn_app (goodIn_of _ (by decide +kernel)) ggX6_rule_X5_setRule
set_option maxRecDepth 20000 in
theorem ggX6_rule_X1_kept : GoodIn wsX6_rule wsX1_kept := goodIn_r _ [57, 9, 58, 59, 60, 61, 62, 70, 71, 72] (by decide +kernel) (by decide +kernel)
set_option maxRecDepth 20000 in
theorem gX6_rule_X1_kept : GoodIn wsX6_rule (wsV RX6 57 RX1 yX1_kept wsX1_kept) := goodIn_app (goodIn_of _ (by decide +kernel)) ggX6_rule_X1_kept
theorem dX6_rule_0 : decode cX6_rule 0 = .ok (.aload_n 0, 1) := by decide +kernel
theorem dX6_rule_1 : decode cX6_rule 1 = .ok (.getfield 19, 3) := by decide +kernel
theorem dX6_rule_4 : decode cX6_rule 4 = .ok (.aload_n 0, 1) := by decide +kernel
theorem dX6_rule_5 : decode cX6_rule 5 = .ok (.getfield 10, 3) := by decide +kernel
theorem dX6_rule_8 : decode cX6_rule 8 = .ok (.invokevirtual 49, 3) := by decide +kernel
theorem dX6_rule_11 : decode cX6_rule 11 = .ok (.aload_n 0, 1) := by decide +kernel
theorem dX6_rule_12 : decode cX6_rule 12 = .ok (.getfield 19, 3) := by decide +kernel
theorem dX6_rule_15 : decode cX6_rule 15 = .ok (.aload_n 0, 1) := by decide +kernel
theorem dX6_rule_16 : decode cX6_rule 16 = .ok (.getfield 10, 3) := by decide +kernel
theorem dX6_rule_19 : decode cX6_rule 19 = .ok (.iload_n 1, 1) := by decide +kernel
theorem dX6_rule_20 : decode cX6_rule 20 = .ok (.iload_n 2, 1) := by decide +kernel
theorem dX6_rule_21 : decode cX6_rule 21 = .ok (.invokevirtual 68, 3) := by decide +kernel
theorem dX6_rule_24 : decode cX6_rule 24 = .ok (.invokevirtual 57, 3) := by decide +kernel
theorem dX6_rule_27 : decode cX6_rule 27 = .ok (.ireturn, 1) := by decide +kernel
set_option maxRecDepth 20000 in
theorem ggX6_multiplier_X1_prepare : GoodIn wsX6_multiplier wsX1_prepare := goodIn_r _ [7, 8, 9, 10, 11, 12, 13, 14, 15, 16, 17, 18, 19, 20, 21, 22, 23, 24, 25, 26, 27, 28, 29, 30, 31, 32, 33, 34, 35, 36, 37, 38, 39, 40, 41, 42, 43, 44, 45, 46, 89, 90, 91, 92, 93, 94, 95, 96, 97, 98, 99, 100, 101, 102, 103, 104, 105, 106, 107, 108] (by decide +kernel) (by decide +kernel)
set_option maxRecDepth 20000 in
theorem gX6_multiplier_X1_prepare : GoodIn wsX6_multiplier (wsV RX6 49 RX1 yX1_prepare wsX1_prepare) := goodIn_app (goodIn_of _ (by decide +kernel)) ggX6_multiplier_X1_prepare
set_option maxRecDepth 20000 in
theorem ggX6_multiplier_X5_setMultiplier : GoodIn wsX6_multiplier wsX5_setMultiplier := goodIn_r _ [50, 51, 17, 52, 53, 54, 55, 56, 57, 58, 59, 60, 13, 61, 15, 28, 62, 63, 64, 32, 65, 38, 66, 67, 68, 69, 37, 70, 71, 72, 73, 34, 36, 92, 93, 94, 95, 96, 97, 98, 99, 100, 101, 102, 103, 104, 105, 106] (by decide +kernel) (by decide +kernel)
set_option maxRecDepth 20000 in
theorem gX6_multiplier_X5_setMultiplier : GoodIn wsX6_multiplier (wsV RX6 71 RX5 yX5_setMultiplier wsX5_setMultiplier) := goodIn_app (goodIn_of _ (by decide +kernel)) ggX6_multiplier_X5_setMultiplier
set_option maxRecDepth 20000 in
theorem ggX6_multiplier_X1_kept : GoodIn wsX6_multiplier wsX1_kept := goodIn_r _ [77, 9, 78, 79, 80, 68, 81, 89, 90, 91] (by decide +kernel) (by decide +kernel)
set_option maxRecDepth 20000 in
theorem gX6_multiplier_X1_kept : GoodIn wsX6_multiplier (wsV RX6 57 RX1 yX1_kept wsX1_kept) := goodIn_app (goodIn_of _ (by decide +kernel)) ggX6_multiplier_X1_kept
theorem dX6_multiplier_0 : decode cX6_multiplier 0 = .ok (.aload_n 0, 1) := by decide +kernel
theorem dX6_multiplier_1 : decode cX6_multiplier 1 = .ok (.getfield 19, 3) := by decide +kernel
theorem dX6_multiplier_4 : decode cX6_multiplier 4 = .ok (.aload_n 0, 1) := by decide +kernel
theorem dX6_multiplier_5 : decode cX6_multiplier 5 = .ok (.getfield 10, 3) := by decide +kernel
theorem dX6_multiplier_8 : decode cX6_multiplier 8 = .ok (.invokevirtual 49, 3) := by decide +kernel
theorem dX6_multiplier_11 : decode cX6_multiplier 11 = .ok (.aload_n 0, 1) := by decide +kernel
theorem dX6_multiplier_12 : decode cX6_multiplier 12 = .ok (.getfield 19, 3) := by decide +kernel
theorem dX6_multiplier_15 : decode cX6_multiplier 15 = .ok (.aload_n 0, 1) := by decide +kernel
theorem dX6_multiplier_16 : decode cX6_multiplier 16 = .ok (.getfield 10, 3) := by decide +kernel
theorem dX6_multiplier_19 : decode cX6_multiplier 19 = .ok (.iload_n 1, 1) := by decide +kernel
theorem dX6_multiplier_20 : decode cX6_multiplier 20 = .ok (.iload_n 2, 1) := by decide +kernel
theorem dX6_multiplier_21 : decode cX6_multiplier 21 = .ok (.invokevirtual 71, 3) := by decide +kernel
theorem dX6_multiplier_24 : decode cX6_multiplier 24 = .ok (.invokevirtual 57, 3) := by decide +kernel
theorem dX6_multiplier_27 : decode cX6_multiplier 27 = .ok (.ireturn, 1) := by decide +kernel
set_option maxRecDepth 20000 in
theorem ggX6_step_X1_prepare : GoodIn wsX6_step wsX1_prepare := goodIn_r _ [7, 8, 9, 10, 11, 12, 13, 14, 15, 16, 17, 18, 19, 20, 21, 22, 23, 24, 25, 26, 27, 28, 29, 30, 31, 32, 33, 34, 35, 36, 37, 38, 39, 40, 41, 42, 43, 44, 45, 46, 143, 144, 145, 146, 147, 148, 149, 150, 151, 152, 153, 154, 155, 156, 157, 158, 159, 160, 161, 162] (by decide +kernel) (by decide +kernel)
set_option maxRecDepth 20000 in
theorem gX6_step_X1_prepare : GoodIn wsX6_step (wsV RX6 49 RX1 yX1_prepare wsX1_prepare) := goodIn_app (goodIn_of _ (by decide +kernel)) ggX6_step_X1_prepare
set_option maxRecDepth 20000 in
theorem ggX6_step_X5_makeSteps : GoodIn wsX6_step wsX5_makeSteps := goodIn_r _ [50, 16, 17, 26, 27, 51, 52, 53, 54, 55, 56, 13, 57, 15, 58, 59, 60, 32, 61, 38, 62, 63, 64, 65, 34, 36, 66, 67, 68, 42, 69, 46, 44, 70, 71, 72, 73, 74, 75, 76, 77, 78, 79, 80, 81, 82, 83, 84, 85, 86, 87, 88, 89, 90, 91, 92, 93, 94, 95, 96, 97, 98, 99, 100, 101, 22, 23, 102, 103, 104, 105, 106, 107, 108, 109, 37, 110, 111, 112, 113, 25, 114, 115, 116, 117, 118, 119, 120, 121, 122, 123, 124, 125, 28, 126, 127, 146, 147, 148, 149, 150, 151, 152, 153, 154, 155, 156, 157, 158, 159, 160, 161, 162] (by decide +kernel) (by decide +kernel)
set_option maxRecDepth 20000 in
theorem gX6_step_X5_makeSteps : GoodIn wsX6_step (wsV RX6 74 RX5 yX5_makeSteps wsX5_makeSteps) := goodIn_app (goodIn_of _ (by decide +kernel)) ggX6_step_X5_makeSteps
set_option maxRecDepth 20000 in
theorem ggX6_step_X1_kept : GoodIn wsX6_step wsX1_kept := goodIn_r _ [131, 9, 132, 133, 134, 82, 135, 143, 144, 145] (by decide +kernel) (by decide +kernel)
set_option maxRecDepth 20000 in
theorem gX6_step_X1_kept : GoodIn wsX6_step (wsV RX6 57 RX1 yX1_kept wsX1_kept) := goodIn_app (goodIn_of _ (by decide +kernel)) ggX6_step_X1_kept
theorem dX6_step_0 : decode cX6_step 0 = .ok (.aload_n 0, 1) := by decide +kernel
theorem dX6_step_1 : decode cX6_step 1 = .ok (.getfield 19, 3) := by decide +kernel
theorem dX6_step_4 : decode cX6_step 4 = .ok (.aload_n 0, 1) := by decide +kernel
theorem dX6_step_5 : decode cX6_step 5 = .ok (.getfield 10, 3) := by decide +kernel
theorem dX6_step_8 : decode cX6_step 8 = .ok (.invokevirtual 49, 3) := by decide +kernel
theorem dX6_step_11 : decode cX6_step 11 = .ok (.aload_n 0, 1) := by decide +kernel
theorem dX6_step_12 : decode cX6_step 12 = .ok (.getfield 19, 3) := by decide +kernel
theorem dX6_step_15 : decode cX6_step 15 = .ok (.aload_n 0, 1) := by decide +kernel
theorem dX6_step_16 : decode cX6_step 16 = .ok (.getfield 10, 3) := by decide +kernel
theorem dX6_step_19 : decode cX6_step 19 = .ok (.iload_n 1, 1) := by decide +kernel
theorem dX6_step_20 : decode cX6_step 20 = .ok (.invokevirtual 74, 3) := by decide +kernel
theorem dX6_step_23 : decode cX6_step 23 = .ok (.invokevirtual 57, 3) := by decide +kernel
theorem dX6_step_26 : decode cX6_step 26 = .ok (.ireturn, 1) := by decide +kernel
set_option maxRecDepth 20000 in
theorem ggX6_repair_X1_prepare : GoodIn wsX6_repair wsX1_prepare := goodIn_r _ [7, 8, 9, 10, 11, 12, 13, 14, 15, 16, 17, 18, 19, 20, 21, 22, 23, 24, 25, 26, 27, 28, 29, 30, 31, 32, 33, 34, 35, 36, 37, 38, 39, 40, 41, 42, 43, 44, 45, 46, 117, 118, 119, 120, 121, 122, 123, 124, 125, 126, 127, 128, 129, 130, 131, 132, 133, 134, 135, 136] (by decide +kernel) (by decide +kernel)
set_option maxRecDepth 20000 in
theorem gX6_repair_X1_prepare : GoodIn wsX6_repair (wsV RX6 49 RX1 yX1_prepare wsX1_prepare) := goodIn_app (goodIn_of _ (by decide +kernel)) ggX6_repair_X1_prepare
set_option maxRecDepth 20000 in
theorem ggX6_repair_X5_keepMended : GoodIn wsX6_repair wsX5_keepMended := goodIn_r _ [50, 15, 25, 24, 51, 52, 53, 13, 54, 17, 55, 56, 57, 32, 58, 38, 59, 60, 61, 62, 34, 36, 63, 64, 65, 66, 67, 68, 69, 70, 37, 71, 72, 73, 74, 75, 76, 77, 78, 79, 80, 81, 82, 83, 84, 85, 86, 87, 88, 89, 90, 91, 92, 93, 94, 95, 96, 97, 98, 99, 100, 101, 120, 121, 122, 123, 124, 125, 126, 127, 128, 129, 130, 131, 132, 133, 134] (by decide +kernel) (by decide +kernel)
set_option maxRecDepth 20000 in
theorem gX6_repair_X5_keepMended : GoodIn wsX6_repair (wsV RX6 77 RX5 yX5_keepMended wsX5_keepMended) := goodIn_app (goodIn_of _ (by decide +kernel)) ggX6_repair_X5_keepMended
set_option maxRecDepth 20000 in
theorem ggX6_repair_X1_kept : GoodIn wsX6_repair wsX1_kept := goodIn_r _ [105, 9, 106, 107, 108, 84, 109, 117, 118, 119] (by decide +kernel) (by decide +kernel)
set_option maxRecDepth 20000 in
theorem gX6_repair_X1_kept : GoodIn wsX6_repair (wsV RX6 57 RX1 yX1_kept wsX1_kept) := goodIn_app (goodIn_of _ (by decide +kernel)) ggX6_repair_X1_kept
theorem dX6_repair_0 : decode cX6_repair 0 = .ok (.aload_n 0, 1) := by decide +kernel
theorem dX6_repair_1 : decode cX6_repair 1 = .ok (.getfield 19, 3) := by decide +kernel
theorem dX6_repair_4 : decode cX6_repair 4 = .ok (.aload_n 0, 1) := by decide +kernel
theorem dX6_repair_5 : decode cX6_repair 5 = .ok (.getfield 10, 3) := by decide +kernel
theorem dX6_repair_8 : decode cX6_repair 8 = .ok (.invokevirtual 49, 3) := by decide +kernel
theorem dX6_repair_11 : decode cX6_repair 11 = .ok (.aload_n 0, 1) := by decide +kernel
theorem dX6_repair_12 : decode cX6_repair 12 = .ok (.getfield 19, 3) := by decide +kernel
theorem dX6_repair_15 : decode cX6_repair 15 = .ok (.aload_n 0, 1) := by decide +kernel
theorem dX6_repair_16 : decode cX6_repair 16 = .ok (.getfield 10, 3) := by decide +kernel
theorem dX6_repair_19 : decode cX6_repair 19 = .ok (.invokevirtual 77, 3) := by decide +kernel
theorem dX6_repair_22 : decode cX6_repair 22 = .ok (.invokevirtual 57, 3) := by decide +kernel
theorem dX6_repair_25 : decode cX6_repair 25 = .ok (.ireturn, 1) := by decide +kernel
set_option maxRecDepth 20000 in
theorem ggX6_ofItem_X2_has : GoodIn wsX6_ofItem wsX2_has := goodIn_r _ [12, 13, 14, 15, 16, 64, 65, 66, 67] (by decide +kernel) (by decide +kernel)
set_option maxRecDepth 20000 in
theorem gX6_ofItem_X2_has : GoodIn wsX6_ofItem (wsV RX6 85 RX2 yX2_has wsX2_has) := goodIn_app (goodIn_of _ (by decide +kernel)) ggX6_ofItem_X2_has
set_option maxRecDepth 20000 in
theorem ggX6_ofItem_X2_price : GoodIn wsX6_ofItem wsX2_price := goodIn_r _ [20, 21, 22, 64, 65, 66, 67] (by decide +kernel) (by decide +kernel)
set_option maxRecDepth 20000 in
theorem gX6_ofItem_X2_price : GoodIn wsX6_ofItem (wsV RX6 101 RX2 yX2_price wsX2_price) := goodIn_app (goodIn_of _ (by decide +kernel)) ggX6_ofItem_X2_price
set_option maxRecDepth 20000 in
theorem ggX6_ofItem_X5_relaxedSet : GoodIn wsX6_ofItem wsX5_relaxedSet := goodIn_r _ [27, 28, 29, 30, 31, 32, 11, 33, 13, 34, 18, 19, 20, 21, 22, 53, 54, 55, 56, 57, 58, 59, 60, 61, 62, 63, 64, 65, 66, 67] (by decide +kernel) (by decide +kernel)
set_option maxRecDepth 20000 in
theorem gX6_ofItem_X5_relaxedSet : GoodIn wsX6_ofItem (wsV RX6 106 RX5 yX5_relaxedSet wsX5_relaxedSet) := goodIn_app (goodIn_of _ (by decide +kernel)) ggX6_ofItem_X5_relaxedSet
set_option maxRecDepth 20000 in
theorem ggX6_ofItem_X6_isIn : GoodIn wsX6_ofItem wsX6_isIn := goodIn_r _ [37] (by decide +kernel) (by decide +kernel)
set_option maxRecDepth 20000 in
theorem gX6_ofItem_X6_isIn : GoodIn wsX6_ofItem (va_wsS RX6 109 yX6_isIn wsX6_isIn) := goodIn_app (goodIn_of _ (by decide +kernel)) ggX6_ofItem_X6_isIn
set_option maxRecDepth 20000 in
theorem ggX6_ofItem_X6_oneIf : GoodIn wsX6_ofItem wsX6_oneIf := goodIn_r _ [40] (by decide +kernel) (by decide +kernel)
set_option maxRecDepth 20000 in
theorem gX6_ofItem_X6_oneIf : GoodIn wsX6_ofItem (va_wsS RX6 113 yX6_oneIf wsX6_oneIf) := goodIn_app (goodIn_of _ (by decide +kernel)) ggX6_ofItem_X6_oneIf
set_option maxRecDepth 20000 in
theorem ggX6_ofItem_X5_hasSolution : GoodIn wsX6_ofItem wsX5_hasSolution := goodIn_r _ [44, 45, 53, 54, 55, 56, 57, 58, 59, 60, 61, 62, 63] (by decide +kernel) (by decide +kernel)
set_option maxRecDepth 20000 in
theorem gX6_ofItem_X5_hasSolution : GoodIn wsX6_ofItem (wsV RX6 117 RX5 yX5_hasSolution wsX5_hasSolution) := goodIn_app (goodIn_of _ (by decide +kernel)) ggX6_ofItem_X5_hasSolution
theorem dX6_ofItem_0 : decode cX6_ofItem 0 = .ok (.aload_n 0, 1) := by decide +kernel
theorem dX6_ofItem_1 : decode cX6_ofItem 1 = .ok (.getfield 10, 3) := by decide +kernel
theorem dX6_ofItem_4 : decode cX6_ofItem 4 = .ok (.getfield 81, 3) := by decide +kernel
theorem dX6_ofItem_7 : decode cX6_ofItem 7 = .ok (.iload_n 1, 1) := by decide +kernel
theorem dX6_ofItem_8 : decode cX6_ofItem 8 = .ok (.invokevirtual 85, 3) := by decide +kernel
theorem dX6_ofItem_11 : decode cX6_ofItem 11 = .ok (.ifCond .ne 5, 3) := by decide +kernel
theorem dX6_ofItem_14 : decode cX6_ofItem 14 = .ok (.iconst (-1), 1) := by decide +kernel
theorem dX6_ofItem_15 : decode cX6_ofItem 15 = .ok (.ireturn, 1) := by decide +kernel
theorem dX6_ofItem_16 : decode cX6_ofItem 16 = .ok (.iload_n 2, 1) := by decide +kernel
theorem dX6_ofItem_17 : decode cX6_ofItem 17 = .ok (.tableswitch 143 0 6 #[43, 56, 56, 56, 73, 95, 110], 43) := by decide +kernel
theorem dX6_ofItem_60 : decode cX6_ofItem 60 = .ok (.aload_n 0, 1) := by decide +kernel
theorem dX6_ofItem_61 : decode cX6_ofItem 61 = .ok (.getfield 10, 3) := by decide +kernel
theorem dX6_ofItem_64 : decode cX6_ofItem 64 = .ok (.getfield 81, 3) := by decide +kernel
theorem dX6_ofItem_67 : decode cX6_ofItem 67 = .ok (.getfield 91, 3) := by decide +kernel
theorem dX6_ofItem_70 : decode cX6_ofItem 70 = .ok (.iload_n 1, 1) := by decide +kernel
theorem dX6_ofItem_71 : decode cX6_ofItem 71 = .ok (.iaload, 1) := by decide +kernel
theorem dX6_ofItem_72 : decode cX6_ofItem 72 = .ok (.ireturn, 1) := by decide +kernel
theorem dX6_ofItem_73 : decode cX6_ofItem 73 = .ok (.aload_n 0, 1) := by decide +kernel
theorem dX6_ofItem_74 : decode cX6_ofItem 74 = .ok (.getfield 10, 3) := by decide +kernel
theorem dX6_ofItem_77 : decode cX6_ofItem 77 = .ok (.getfield 81, 3) := by decide +kernel
theorem dX6_ofItem_80 : decode cX6_ofItem 80 = .ok (.getfield 94, 3) := by decide +kernel
theorem dX6_ofItem_83 : decode cX6_ofItem 83 = .ok (.iload_n 2, 1) := by decide +kernel
theorem dX6_ofItem_84 : decode cX6_ofItem 84 = .ok (.iconst 1, 1) := by decide +kernel
theorem dX6_ofItem_85 : decode cX6_ofItem 85 = .ok (.isub, 1) := by decide +kernel
theorem dX6_ofItem_86 : decode cX6_ofItem 86 = .ok (.aaload, 1) := by decide +kernel
theorem dX6_ofItem_87 : decode cX6_ofItem 87 = .ok (.iload_n 1, 1) := by decide +kernel
theorem dX6_ofItem_88 : decode cX6_ofItem 88 = .ok (.iaload, 1) := by decide +kernel
theorem dX6_ofItem_89 : decode cX6_ofItem 89 = .ok (.ireturn, 1) := by decide +kernel
theorem dX6_ofItem_90 : decode cX6_ofItem 90 = .ok (.aload_n 0, 1) := by decide +kernel
theorem dX6_ofItem_91 : decode cX6_ofItem 91 = .ok (.getfield 10, 3) := by decide +kernel
theorem dX6_ofItem_94 : decode cX6_ofItem 94 = .ok (.getfield 81, 3) := by decide +kernel
theorem dX6_ofItem_97 : decode cX6_ofItem 97 = .ok (.iload_n 1, 1) := by decide +kernel
theorem dX6_ofItem_98 : decode cX6_ofItem 98 = .ok (.aload_n 0, 1) := by decide +kernel
theorem dX6_ofItem_99 : decode cX6_ofItem 99 = .ok (.getfield 10, 3) := by decide +kernel
theorem dX6_ofItem_102 : decode cX6_ofItem 102 = .ok (.getfield 98, 3) := by decide +kernel
theorem dX6_ofItem_105 : decode cX6_ofItem 105 = .ok (.invokevirtual 101, 3) := by decide +kernel
theorem dX6_ofItem_108 : decode cX6_ofItem 108 = .ok (.ldc 105, 2) := by decide +kernel
theorem dX6_ofItem_110 : decode cX6_ofItem 110 = .ok (.iadd, 1) := by decide +kernel
theorem dX6_ofItem_111 : decode cX6_ofItem 111 = .ok (.ireturn, 1) := by decide +kernel
theorem dX6_ofItem_112 : decode cX6_ofItem 112 = .ok (.iload_n 1, 1) := by decide +kernel
theorem dX6_ofItem_113 : decode cX6_ofItem 113 = .ok (.aload_n 0, 1) := by decide +kernel
theorem dX6_ofItem_114 : decode cX6_ofItem 114 = .ok (.getfield 10, 3) := by decide +kernel
theorem dX6_ofItem_117 : decode cX6_ofItem 117 = .ok (.invokevirtual 106, 3) := by decide +kernel
theorem dX6_ofItem_120 : decode cX6_ofItem 120 = .ok (.invokestatic 109, 3) := by decide +kernel
theorem dX6_ofItem_123 : decode cX6_ofItem 123 = .ok (.invokestatic 113, 3) := by decide +kernel
theorem dX6_ofItem_126 : decode cX6_ofItem 126 = .ok (.ireturn, 1) := by decide +kernel
theorem dX6_ofItem_127 : decode cX6_ofItem 127 = .ok (.aload_n 0, 1) := by decide +kernel
theorem dX6_ofItem_128 : decode cX6_ofItem 128 = .ok (.getfield 10, 3) := by decide +kernel
theorem dX6_ofItem_131 : decode cX6_ofItem 131 = .ok (.invokevirtual 117, 3) := by decide +kernel
theorem dX6_ofItem_134 : decode cX6_ofItem 134 = .ok (.ifCond .eq 21, 3) := by decide +kernel
theorem dX6_ofItem_137 : decode cX6_ofItem 137 = .ok (.iload_n 1, 1) := by decide +kernel
theorem dX6_ofItem_138 : decode cX6_ofItem 138 = .ok (.aload_n 0, 1) := by decide +kernel
theorem dX6_ofItem_139 : decode cX6_ofItem 139 = .ok (.getfield 10, 3) := by decide +kernel
theorem dX6_ofItem_142 : decode cX6_ofItem 142 = .ok (.getfield 121, 3) := by decide +kernel
theorem dX6_ofItem_145 : decode cX6_ofItem 145 = .ok (.invokestatic 109, 3) := by decide +kernel
theorem dX6_ofItem_148 : decode cX6_ofItem 148 = .ok (.ifCond .eq 7, 3) := by decide +kernel
theorem dX6_ofItem_151 : decode cX6_ofItem 151 = .ok (.iconst 1, 1) := by decide +kernel
theorem dX6_ofItem_152 : decode cX6_ofItem 152 = .ok (.goto 4, 3) := by decide +kernel
theorem dX6_ofItem_155 : decode cX6_ofItem 155 = .ok (.iconst 0, 1) := by decide +kernel
theorem dX6_ofItem_156 : decode cX6_ofItem 156 = .ok (.invokestatic 113, 3) := by decide +kernel
theorem dX6_ofItem_159 : decode cX6_ofItem 159 = .ok (.ireturn, 1) := by decide +kernel
theorem dX6_ofItem_160 : decode cX6_ofItem 160 = .ok (.bipush (-2), 2) := by decide +kernel
theorem dX6_ofItem_162 : decode cX6_ofItem 162 = .ok (.ireturn, 1) := by decide +kernel
set_option maxRecDepth 20000 in
theorem ggX6_ofDimension_X6_isDimension : GoodIn wsX6_ofDimension wsX6_isDimension := goodIn_r _ [9, 10, 11, 8, 12] (by decide +kernel) (by decide +kernel)
set_option maxRecDepth 20000 in
theorem gX6_ofDimension_X6_isDimension : GoodIn wsX6_ofDimension (va_wsS RX6 125 yX6_isDimension wsX6_isDimension) := goodIn_app (goodIn_of _ (by decide +kernel)) ggX6_ofDimension_X6_isDimension
set_option maxRecDepth 20000 in
theorem ggX6_ofDimension_X5_relaxedSet : GoodIn wsX6_ofDimension wsX5_relaxedSet := goodIn_r _ [17, 18, 19, 20, 21, 22, 23, 24, 25, 26, 27, 28, 29, 30, 31, 64, 65, 66, 67, 68, 69, 70, 71, 72, 73, 74, 75, 76, 77, 78] (by decide +kernel) (by decide +kernel)
set_option maxRecDepth 20000 in
theorem gX6_ofDimension_X5_relaxedSet : GoodIn wsX6_ofDimension (wsV RX6 106 RX5 yX5_relaxedSet wsX5_relaxedSet) := goodIn_app (goodIn_of _ (by decide +kernel)) ggX6_ofDimension_X5_relaxedSet
set_option maxRecDepth 20000 in
theorem ggX6_ofDimension_X5_slope : GoodIn wsX6_ofDimension wsX5_slope := goodIn_r _ [35, 18, 36, 37, 38, 39, 23, 40, 31, 25, 41, 8, 42, 64, 65, 66, 67, 68, 69, 70, 71, 72, 73, 74, 75, 76, 77, 78] (by decide +kernel) (by decide +kernel)
set_option maxRecDepth 20000 in
theorem gX6_ofDimension_X5_slope : GoodIn wsX6_ofDimension (wsV RX6 131 RX5 yX5_slope wsX5_slope) := goodIn_app (goodIn_of _ (by decide +kernel)) ggX6_ofDimension_X5_slope
set_option maxRecDepth 20000 in
theorem ggX6_ofDimension_X5_hasSolution : GoodIn wsX6_ofDimension wsX5_hasSolution := goodIn_r _ [46, 47, 64, 65, 66, 67, 68, 69, 70, 71, 72, 73, 74] (by decide +kernel) (by decide +kernel)
set_option maxRecDepth 20000 in
theorem gX6_ofDimension_X5_hasSolution : GoodIn wsX6_ofDimension (wsV RX6 117 RX5 yX5_hasSolution wsX5_hasSolution) := goodIn_app (goodIn_of _ (by decide +kernel)) ggX6_ofDimension_X5_hasSolution
set_option maxRecDepth 20000 in
theorem ggX6_ofDimension_X2_use : GoodIn wsX6_ofDimension wsX2_use := goodIn_r _ [40, 31, 25, 41, 8, 42, 75, 76, 77, 78] (by decide +kernel) (by decide +kernel)
set_option maxRecDepth 20000 in
theorem gX6_ofDimension_X2_use : GoodIn wsX6_ofDimension (wsV RX6 134 RX2 yX2_use wsX2_use) := goodIn_app (goodIn_of _ (by decide +kernel)) ggX6_ofDimension_X2_use
set_option maxRecDepth 20000 in
theorem ggX6_ofDimension_X5_isTight : GoodIn wsX6_ofDimension wsX5_isTight := goodIn_r _ [52, 18, 53, 36, 37, 38, 39, 23, 40, 31, 25, 41, 8, 42, 64, 65, 66, 67, 68, 69, 70, 71, 72, 73, 74, 75, 76, 77, 78] (by decide +kernel) (by decide +kernel)
set_option maxRecDepth 20000 in
theorem gX6_ofDimension_X5_isTight : GoodIn wsX6_ofDimension (wsV RX6 137 RX5 yX5_isTight wsX5_isTight) := goodIn_app (goodIn_of _ (by decide +kernel)) ggX6_ofDimension_X5_isTight
set_option maxRecDepth 20000 in
theorem ggX6_ofDimension_X6_oneIf : GoodIn wsX6_ofDimension wsX6_oneIf := goodIn_r _ [56] (by decide +kernel) (by decide +kernel)
set_option maxRecDepth 20000 in
theorem gX6_ofDimension_X6_oneIf : GoodIn wsX6_ofDimension (va_wsS RX6 113 yX6_oneIf wsX6_oneIf) := goodIn_app (goodIn_of _ (by decide +kernel)) ggX6_ofDimension_X6_oneIf
theorem dX6_ofDimension_0 : decode cX6_ofDimension 0 = .ok (.iload_n 1, 1) := by decide +kernel
theorem dX6_ofDimension_1 : decode cX6_ofDimension 1 = .ok (.invokestatic 125, 3) := by decide +kernel
theorem dX6_ofDimension_4 : decode cX6_ofDimension 4 = .ok (.ifCond .ne 5, 3) := by decide +kernel
theorem dX6_ofDimension_7 : decode cX6_ofDimension 7 = .ok (.iconst (-1), 1) := by decide +kernel
theorem dX6_ofDimension_8 : decode cX6_ofDimension 8 = .ok (.ireturn, 1) := by decide +kernel
theorem dX6_ofDimension_9 : decode cX6_ofDimension 9 = .ok (.iload_n 2, 1) := by decide +kernel
theorem dX6_ofDimension_10 : decode cX6_ofDimension 10 = .ok (.tableswitch 138 0 4 #[34, 47, 57, 77, 111], 34) := by decide +kernel
theorem dX6_ofDimension_44 : decode cX6_ofDimension 44 = .ok (.aload_n 0, 1) := by decide +kernel
theorem dX6_ofDimension_45 : decode cX6_ofDimension 45 = .ok (.getfield 10, 3) := by decide +kernel
theorem dX6_ofDimension_48 : decode cX6_ofDimension 48 = .ok (.getfield 81, 3) := by decide +kernel
theorem dX6_ofDimension_51 : decode cX6_ofDimension 51 = .ok (.getfield 128, 3) := by decide +kernel
theorem dX6_ofDimension_54 : decode cX6_ofDimension 54 = .ok (.iload_n 1, 1) := by decide +kernel
theorem dX6_ofDimension_55 : decode cX6_ofDimension 55 = .ok (.iaload, 1) := by decide +kernel
theorem dX6_ofDimension_56 : decode cX6_ofDimension 56 = .ok (.ireturn, 1) := by decide +kernel
theorem dX6_ofDimension_57 : decode cX6_ofDimension 57 = .ok (.aload_n 0, 1) := by decide +kernel
theorem dX6_ofDimension_58 : decode cX6_ofDimension 58 = .ok (.getfield 10, 3) := by decide +kernel
theorem dX6_ofDimension_61 : decode cX6_ofDimension 61 = .ok (.getfield 98, 3) := by decide +kernel
theorem dX6_ofDimension_64 : decode cX6_ofDimension 64 = .ok (.iload_n 1, 1) := by decide +kernel
theorem dX6_ofDimension_65 : decode cX6_ofDimension 65 = .ok (.iaload, 1) := by decide +kernel
theorem dX6_ofDimension_66 : decode cX6_ofDimension 66 = .ok (.ireturn, 1) := by decide +kernel
theorem dX6_ofDimension_67 : decode cX6_ofDimension 67 = .ok (.aload_n 0, 1) := by decide +kernel
theorem dX6_ofDimension_68 : decode cX6_ofDimension 68 = .ok (.getfield 10, 3) := by decide +kernel
theorem dX6_ofDimension_71 : decode cX6_ofDimension 71 = .ok (.iload_n 1, 1) := by decide +kernel
theorem dX6_ofDimension_72 : decode cX6_ofDimension 72 = .ok (.aload_n 0, 1) := by decide +kernel
theorem dX6_ofDimension_73 : decode cX6_ofDimension 73 = .ok (.getfield 10, 3) := by decide +kernel
theorem dX6_ofDimension_76 : decode cX6_ofDimension 76 = .ok (.invokevirtual 106, 3) := by decide +kernel
theorem dX6_ofDimension_79 : decode cX6_ofDimension 79 = .ok (.invokevirtual 131, 3) := by decide +kernel
theorem dX6_ofDimension_82 : decode cX6_ofDimension 82 = .ok (.sipush 10000, 3) := by decide +kernel
theorem dX6_ofDimension_85 : decode cX6_ofDimension 85 = .ok (.iadd, 1) := by decide +kernel
theorem dX6_ofDimension_86 : decode cX6_ofDimension 86 = .ok (.ireturn, 1) := by decide +kernel
theorem dX6_ofDimension_87 : decode cX6_ofDimension 87 = .ok (.aload_n 0, 1) := by decide +kernel
theorem dX6_ofDimension_88 : decode cX6_ofDimension 88 = .ok (.getfield 10, 3) := by decide +kernel
theorem dX6_ofDimension_91 : decode cX6_ofDimension 91 = .ok (.invokevirtual 117, 3) := by decide +kernel
theorem dX6_ofDimension_94 : decode cX6_ofDimension 94 = .ok (.ifCond .eq 24, 3) := by decide +kernel
theorem dX6_ofDimension_97 : decode cX6_ofDimension 97 = .ok (.aload_n 0, 1) := by decide +kernel
theorem dX6_ofDimension_98 : decode cX6_ofDimension 98 = .ok (.getfield 10, 3) := by decide +kernel
theorem dX6_ofDimension_101 : decode cX6_ofDimension 101 = .ok (.getfield 81, 3) := by decide +kernel
theorem dX6_ofDimension_104 : decode cX6_ofDimension 104 = .ok (.aload_n 0, 1) := by decide +kernel
theorem dX6_ofDimension_105 : decode cX6_ofDimension 105 = .ok (.getfield 10, 3) := by decide +kernel
theorem dX6_ofDimension_108 : decode cX6_ofDimension 108 = .ok (.getfield 121, 3) := by decide +kernel
theorem dX6_ofDimension_111 : decode cX6_ofDimension 111 = .ok (.iload_n 1, 1) := by decide +kernel
theorem dX6_ofDimension_112 : decode cX6_ofDimension 112 = .ok (.invokevirtual 134, 3) := by decide +kernel
theorem dX6_ofDimension_115 : decode cX6_ofDimension 115 = .ok (.goto 5, 3) := by decide +kernel
theorem dX6_ofDimension_118 : decode cX6_ofDimension 118 = .ok (.bipush (-6), 2) := by decide +kernel
theorem dX6_ofDimension_120 : decode cX6_ofDimension 120 = .ok (.ireturn, 1) := by decide +kernel
theorem dX6_ofDimension_121 : decode cX6_ofDimension 121 = .ok (.aload_n 0, 1) := by decide +kernel
theorem dX6_ofDimension_122 : decode cX6_ofDimension 122 = .ok (.getfield 10, 3) := by decide +kernel
theorem dX6_ofDimension_125 : decode cX6_ofDimension 125 = .ok (.invokevirtual 117, 3) := by decide +kernel
theorem dX6_ofDimension_128 : decode cX6_ofDimension 128 = .ok (.ifCond .eq 17, 3) := by decide +kernel
theorem dX6_ofDimension_131 : decode cX6_ofDimension 131 = .ok (.aload_n 0, 1) := by decide +kernel
theorem dX6_ofDimension_132 : decode cX6_ofDimension 132 = .ok (.getfield 10, 3) := by decide +kernel
theorem dX6_ofDimension_135 : decode cX6_ofDimension 135 = .ok (.iload_n 1, 1) := by decide +kernel
theorem dX6_ofDimension_136 : decode cX6_ofDimension 136 = .ok (.invokevirtual 137, 3) := by decide +kernel
theorem dX6_ofDimension_139 : decode cX6_ofDimension 139 = .ok (.invokestatic 113, 3) := by decide +kernel
theorem dX6_ofDimension_142 : decode cX6_ofDimension 142 = .ok (.goto 5, 3) := by decide +kernel
theorem dX6_ofDimension_145 : decode cX6_ofDimension 145 = .ok (.bipush (-6), 2) := by decide +kernel
theorem dX6_ofDimension_147 : decode cX6_ofDimension 147 = .ok (.ireturn, 1) := by decide +kernel
theorem dX6_ofDimension_148 : decode cX6_ofDimension 148 = .ok (.bipush (-2), 2) := by decide +kernel
theorem dX6_ofDimension_150 : decode cX6_ofDimension 150 = .ok (.ireturn, 1) := by decide +kernel
set_option maxRecDepth 20000 in
theorem ggX6_bundle_X6_within : GoodIn wsX6_bundle wsX6_within := goodIn_r _ [8] (by decide +kernel) (by decide +kernel)
set_option maxRecDepth 20000 in
theorem gX6_bundle_X6_within : GoodIn wsX6_bundle (va_wsS RX6 149 yX6_within wsX6_within) := goodIn_app (goodIn_of _ (by decide +kernel)) ggX6_bundle_X6_within
theorem dX6_bundle_0 : decode cX6_bundle 0 = .ok (.iload_n 1, 1) := by decide +kernel
theorem dX6_bundle_1 : decode cX6_bundle 1 = .ok (.iconst 0, 1) := by decide +kernel
theorem dX6_bundle_2 : decode cX6_bundle 2 = .ok (.aload_n 0, 1) := by decide +kernel
theorem dX6_bundle_3 : decode cX6_bundle 3 = .ok (.getfield 10, 3) := by decide +kernel
theorem dX6_bundle_6 : decode cX6_bundle 6 = .ok (.getfield 140, 3) := by decide +kernel
theorem dX6_bundle_9 : decode cX6_bundle 9 = .ok (.getfield 144, 3) := by decide +kernel
theorem dX6_bundle_12 : decode cX6_bundle 12 = .ok (.iconst 1, 1) := by decide +kernel
theorem dX6_bundle_13 : decode cX6_bundle 13 = .ok (.isub, 1) := by decide +kernel
theorem dX6_bundle_14 : decode cX6_bundle 14 = .ok (.invokestatic 149, 3) := by decide +kernel
theorem dX6_bundle_17 : decode cX6_bundle 17 = .ok (.ifCond .eq 18, 3) := by decide +kernel
theorem dX6_bundle_20 : decode cX6_bundle 20 = .ok (.aload_n 0, 1) := by decide +kernel
theorem dX6_bundle_21 : decode cX6_bundle 21 = .ok (.getfield 10, 3) := by decide +kernel
theorem dX6_bundle_24 : decode cX6_bundle 24 = .ok (.getfield 140, 3) := by decide +kernel
theorem dX6_bundle_27 : decode cX6_bundle 27 = .ok (.getfield 153, 3) := by decide +kernel
theorem dX6_bundle_30 : decode cX6_bundle 30 = .ok (.iload_n 1, 1) := by decide +kernel
theorem dX6_bundle_31 : decode cX6_bundle 31 = .ok (.iaload, 1) := by decide +kernel
theorem dX6_bundle_32 : decode cX6_bundle 32 = .ok (.goto 4, 3) := by decide +kernel
theorem dX6_bundle_35 : decode cX6_bundle 35 = .ok (.iconst (-1), 1) := by decide +kernel
theorem dX6_bundle_36 : decode cX6_bundle 36 = .ok (.ireturn, 1) := by decide +kernel
set_option maxRecDepth 20000 in
theorem ggX6_count_X5_relaxedSet : GoodIn wsX6_count wsX5_relaxedSet := goodIn_r _ [20, 21, 22, 23, 24, 25, 26, 27, 28, 29, 30, 31, 32, 33, 34, 47, 48, 49, 50, 51, 52, 53, 54, 55, 56, 57, 58, 59, 60, 61] (by decide +kernel) (by decide +kernel)
set_option maxRecDepth 20000 in
theorem gX6_count_X5_relaxedSet : GoodIn wsX6_count (wsV RX6 106 RX5 yX5_relaxedSet wsX5_relaxedSet) := goodIn_app (goodIn_of _ (by decide +kernel)) ggX6_count_X5_relaxedSet
set_option maxRecDepth 20000 in
theorem ggX6_count_X5_hasSolution : GoodIn wsX6_count wsX5_hasSolution := goodIn_r _ [38, 39, 47, 48, 49, 50, 51, 52, 53, 54, 55, 56, 57] (by decide +kernel) (by decide +kernel)
set_option maxRecDepth 20000 in
theorem gX6_count_X5_hasSolution : GoodIn wsX6_count (wsV RX6 117 RX5 yX5_hasSolution wsX5_hasSolution) := goodIn_app (goodIn_of _ (by decide +kernel)) ggX6_count_X5_hasSolution
theorem dX6_count_0 : decode cX6_count 0 = .ok (.iload_n 1, 1) := by decide +kernel
theorem dX6_count_1 : decode cX6_count 1 = .ok (.tableswitch 183 0 10 #[59, 70, 78, 86, 94, 117, 140, 151, 159, 167, 175], 59) := by decide +kernel
theorem dX6_count_60 : decode cX6_count 60 = .ok (.aload_n 0, 1) := by decide +kernel
theorem dX6_count_61 : decode cX6_count 61 = .ok (.getfield 10, 3) := by decide +kernel
theorem dX6_count_64 : decode cX6_count 64 = .ok (.getfield 81, 3) := by decide +kernel
theorem dX6_count_67 : decode cX6_count 67 = .ok (.getfield 156, 3) := by decide +kernel
theorem dX6_count_70 : decode cX6_count 70 = .ok (.ireturn, 1) := by decide +kernel
theorem dX6_count_71 : decode cX6_count 71 = .ok (.aload_n 0, 1) := by decide +kernel
theorem dX6_count_72 : decode cX6_count 72 = .ok (.getfield 10, 3) := by decide +kernel
theorem dX6_count_75 : decode cX6_count 75 = .ok (.getfield 159, 3) := by decide +kernel
theorem dX6_count_78 : decode cX6_count 78 = .ok (.ireturn, 1) := by decide +kernel
theorem dX6_count_79 : decode cX6_count 79 = .ok (.aload_n 0, 1) := by decide +kernel
theorem dX6_count_80 : decode cX6_count 80 = .ok (.getfield 10, 3) := by decide +kernel
theorem dX6_count_83 : decode cX6_count 83 = .ok (.getfield 162, 3) := by decide +kernel
theorem dX6_count_86 : decode cX6_count 86 = .ok (.ireturn, 1) := by decide +kernel
theorem dX6_count_87 : decode cX6_count 87 = .ok (.aload_n 0, 1) := by decide +kernel
theorem dX6_count_88 : decode cX6_count 88 = .ok (.getfield 10, 3) := by decide +kernel
theorem dX6_count_91 : decode cX6_count 91 = .ok (.invokevirtual 106, 3) := by decide +kernel
theorem dX6_count_94 : decode cX6_count 94 = .ok (.ireturn, 1) := by decide +kernel
theorem dX6_count_95 : decode cX6_count 95 = .ok (.aload_n 0, 1) := by decide +kernel
theorem dX6_count_96 : decode cX6_count 96 = .ok (.getfield 10, 3) := by decide +kernel
theorem dX6_count_99 : decode cX6_count 99 = .ok (.invokevirtual 117, 3) := by decide +kernel
theorem dX6_count_102 : decode cX6_count 102 = .ok (.ifCond .eq 13, 3) := by decide +kernel
theorem dX6_count_105 : decode cX6_count 105 = .ok (.aload_n 0, 1) := by decide +kernel
theorem dX6_count_106 : decode cX6_count 106 = .ok (.getfield 10, 3) := by decide +kernel
theorem dX6_count_109 : decode cX6_count 109 = .ok (.getfield 121, 3) := by decide +kernel
theorem dX6_count_112 : decode cX6_count 112 = .ok (.goto 5, 3) := by decide +kernel
theorem dX6_count_115 : decode cX6_count 115 = .ok (.bipush (-6), 2) := by decide +kernel
theorem dX6_count_117 : decode cX6_count 117 = .ok (.ireturn, 1) := by decide +kernel
theorem dX6_count_118 : decode cX6_count 118 = .ok (.aload_n 0, 1) := by decide +kernel
theorem dX6_count_119 : decode cX6_count 119 = .ok (.getfield 10, 3) := by decide +kernel
theorem dX6_count_122 : decode cX6_count 122 = .ok (.invokevirtual 117, 3) := by decide +kernel
theorem dX6_count_125 : decode cX6_count 125 = .ok (.ifCond .eq 13, 3) := by decide +kernel
theorem dX6_count_128 : decode cX6_count 128 = .ok (.aload_n 0, 1) := by decide +kernel
theorem dX6_count_129 : decode cX6_count 129 = .ok (.getfield 10, 3) := by decide +kernel
theorem dX6_count_132 : decode cX6_count 132 = .ok (.getfield 165, 3) := by decide +kernel
theorem dX6_count_135 : decode cX6_count 135 = .ok (.goto 5, 3) := by decide +kernel
theorem dX6_count_138 : decode cX6_count 138 = .ok (.bipush (-6), 2) := by decide +kernel
theorem dX6_count_140 : decode cX6_count 140 = .ok (.ireturn, 1) := by decide +kernel
theorem dX6_count_141 : decode cX6_count 141 = .ok (.aload_n 0, 1) := by decide +kernel
theorem dX6_count_142 : decode cX6_count 142 = .ok (.getfield 10, 3) := by decide +kernel
theorem dX6_count_145 : decode cX6_count 145 = .ok (.getfield 140, 3) := by decide +kernel
theorem dX6_count_148 : decode cX6_count 148 = .ok (.getfield 144, 3) := by decide +kernel
theorem dX6_count_151 : decode cX6_count 151 = .ok (.ireturn, 1) := by decide +kernel
theorem dX6_count_152 : decode cX6_count 152 = .ok (.aload_n 0, 1) := by decide +kernel
theorem dX6_count_153 : decode cX6_count 153 = .ok (.getfield 10, 3) := by decide +kernel
theorem dX6_count_156 : decode cX6_count 156 = .ok (.getfield 168, 3) := by decide +kernel
theorem dX6_count_159 : decode cX6_count 159 = .ok (.ireturn, 1) := by decide +kernel
theorem dX6_count_160 : decode cX6_count 160 = .ok (.aload_n 0, 1) := by decide +kernel
theorem dX6_count_161 : decode cX6_count 161 = .ok (.getfield 10, 3) := by decide +kernel
theorem dX6_count_164 : decode cX6_count 164 = .ok (.getfield 171, 3) := by decide +kernel
theorem dX6_count_167 : decode cX6_count 167 = .ok (.ireturn, 1) := by decide +kernel
theorem dX6_count_168 : decode cX6_count 168 = .ok (.aload_n 0, 1) := by decide +kernel
theorem dX6_count_169 : decode cX6_count 169 = .ok (.getfield 34, 3) := by decide +kernel
theorem dX6_count_172 : decode cX6_count 172 = .ok (.getfield 174, 3) := by decide +kernel
theorem dX6_count_175 : decode cX6_count 175 = .ok (.ireturn, 1) := by decide +kernel
theorem dX6_count_176 : decode cX6_count 176 = .ok (.aload_n 0, 1) := by decide +kernel
theorem dX6_count_177 : decode cX6_count 177 = .ok (.getfield 19, 3) := by decide +kernel
theorem dX6_count_180 : decode cX6_count 180 = .ok (.getfield 177, 3) := by decide +kernel
theorem dX6_count_183 : decode cX6_count 183 = .ok (.ireturn, 1) := by decide +kernel
theorem dX6_count_184 : decode cX6_count 184 = .ok (.bipush (-2), 2) := by decide +kernel
theorem dX6_count_186 : decode cX6_count 186 = .ok (.ireturn, 1) := by decide +kernel
set_option maxRecDepth 20000 in
theorem ggX6_bound_X2_boundAt : GoodIn wsX6_bound wsX2_boundAt := goodIn_r _ [10, 11, 12, 13, 14, 15, 16, 17, 18, 19, 9, 20, 21, 22, 51, 52, 53, 54] (by decide +kernel) (by decide +kernel)
set_option maxRecDepth 20000 in
theorem gX6_bound_X2_boundAt : GoodIn wsX6_bound (wsV RX6 178 RX2 yX2_boundAt wsX2_boundAt) := goodIn_app (goodIn_of _ (by decide +kernel)) ggX6_bound_X2_boundAt
set_option maxRecDepth 20000 in
theorem ggX6_bound_X5_solutionHundredths : GoodIn wsX6_bound wsX5_solutionHundredths := goodIn_r _ [27, 28, 29, 30, 31, 26, 32, 40, 41, 42, 43, 44, 45, 46, 47, 48, 49, 50] (by decide +kernel) (by decide +kernel)
set_option maxRecDepth 20000 in
theorem gX6_bound_X5_solutionHundredths : GoodIn wsX6_bound (wsV RX6 186 RX5 yX5_solutionHundredths wsX5_solutionHundredths) := goodIn_app (goodIn_of _ (by decide +kernel)) ggX6_bound_X5_solutionHundredths
theorem dX6_bound_0 : decode cX6_bound 0 = .ok (.iload_n 1, 1) := by decide +kernel
theorem dX6_bound_1 : decode cX6_bound 1 = .ok (.tableswitch 70 0 2 #[27, 45, 53], 27) := by decide +kernel
theorem dX6_bound_28 : decode cX6_bound 28 = .ok (.aload_n 0, 1) := by decide +kernel
theorem dX6_bound_29 : decode cX6_bound 29 = .ok (.getfield 10, 3) := by decide +kernel
theorem dX6_bound_32 : decode cX6_bound 32 = .ok (.getfield 81, 3) := by decide +kernel
theorem dX6_bound_35 : decode cX6_bound 35 = .ok (.aload_n 0, 1) := by decide +kernel
theorem dX6_bound_36 : decode cX6_bound 36 = .ok (.getfield 10, 3) := by decide +kernel
theorem dX6_bound_39 : decode cX6_bound 39 = .ok (.getfield 98, 3) := by decide +kernel
theorem dX6_bound_42 : decode cX6_bound 42 = .ok (.invokevirtual 178, 3) := by decide +kernel
theorem dX6_bound_45 : decode cX6_bound 45 = .ok (.lreturn, 1) := by decide +kernel
theorem dX6_bound_46 : decode cX6_bound 46 = .ok (.aload_n 0, 1) := by decide +kernel
theorem dX6_bound_47 : decode cX6_bound 47 = .ok (.getfield 10, 3) := by decide +kernel
theorem dX6_bound_50 : decode cX6_bound 50 = .ok (.getfield 182, 3) := by decide +kernel
theorem dX6_bound_53 : decode cX6_bound 53 = .ok (.lreturn, 1) := by decide +kernel
theorem dX6_bound_54 : decode cX6_bound 54 = .ok (.aload_n 0, 1) := by decide +kernel
theorem dX6_bound_55 : decode cX6_bound 55 = .ok (.getfield 10, 3) := by decide +kernel
theorem dX6_bound_58 : decode cX6_bound 58 = .ok (.getfield 182, 3) := by decide +kernel
theorem dX6_bound_61 : decode cX6_bound 61 = .ok (.aload_n 0, 1) := by decide +kernel
theorem dX6_bound_62 : decode cX6_bound 62 = .ok (.getfield 10, 3) := by decide +kernel
theorem dX6_bound_65 : decode cX6_bound 65 = .ok (.invokevirtual 186, 3) := by decide +kernel
theorem dX6_bound_68 : decode cX6_bound 68 = .ok (.i2l, 1) := by decide +kernel
theorem dX6_bound_69 : decode cX6_bound 69 = .ok (.lsub, 1) := by decide +kernel
theorem dX6_bound_70 : decode cX6_bound 70 = .ok (.lreturn, 1) := by decide +kernel
theorem dX6_bound_71 : decode cX6_bound 71 = .ok (.ldc2_w 189, 3) := by decide +kernel
theorem dX6_bound_74 : decode cX6_bound 74 = .ok (.lreturn, 1) := by decide +kernel
set_option maxRecDepth 20000 in
theorem ggX6_boundThen_X5_stepInto : GoodIn wsX6_boundThen wsX5_stepInto := goodIn_r _ [8, 9, 10, 11, 12, 13, 14, 15, 16, 17, 18, 19, 20, 21, 7, 22, 23, 24, 25, 26, 27, 28, 29, 30, 31, 32, 33, 34, 35, 36, 37, 38, 39, 40, 41, 42, 43, 44, 45, 46, 47, 48, 49, 50, 51, 52, 53, 54, 55, 56, 57, 58, 59, 60, 61, 62, 63, 64, 65, 66, 67, 68, 69, 70, 71, 72, 73, 74, 75, 76, 85, 86, 87, 88, 89, 90, 91, 92, 93, 94, 95, 96, 97, 98, 99] (by decide +kernel) (by decide +kernel)
set_option maxRecDepth 20000 in
theorem gX6_boundThen_X5_stepInto : GoodIn wsX6_boundThen (wsV RX6 191 RX5 yX5_stepInto wsX5_stepInto) := goodIn_app (goodIn_of _ (by decide +kernel)) ggX6_boundThen_X5_stepInto
set_option maxRecDepth 20000 in
theorem ggX6_boundThen_X2_boundAt : GoodIn wsX6_boundThen wsX2_boundAt := goodIn_r _ [61, 29, 62, 56, 14, 57, 63, 30, 31, 32, 27, 33, 34, 35, 96, 97, 98, 99] (by decide +kernel) (by decide +kernel)
set_option maxRecDepth 20000 in
theorem gX6_boundThen_X2_boundAt : GoodIn wsX6_boundThen (wsV RX6 178 RX2 yX2_boundAt wsX2_boundAt) := goodIn_app (goodIn_of _ (by decide +kernel)) ggX6_boundThen_X2_boundAt
theorem dX6_boundThen_0 : decode cX6_boundThen 0 = .ok (.aload_n 0, 1) := by decide +kernel
theorem dX6_boundThen_1 : decode cX6_boundThen 1 = .ok (.getfield 10, 3) := by decide +kernel
theorem dX6_boundThen_4 : decode cX6_boundThen 4 = .ok (.aload_n 0, 1) := by decide +kernel
theorem dX6_boundThen_5 : decode cX6_boundThen 5 = .ok (.getfield 45, 3) := by decide +kernel
theorem dX6_boundThen_8 : decode cX6_boundThen 8 = .ok (.invokevirtual 191, 3) := by decide +kernel
theorem dX6_boundThen_11 : decode cX6_boundThen 11 = .ok (.aload_n 0, 1) := by decide +kernel
theorem dX6_boundThen_12 : decode cX6_boundThen 12 = .ok (.getfield 10, 3) := by decide +kernel
theorem dX6_boundThen_15 : decode cX6_boundThen 15 = .ok (.getfield 81, 3) := by decide +kernel
theorem dX6_boundThen_18 : decode cX6_boundThen 18 = .ok (.aload_n 0, 1) := by decide +kernel
theorem dX6_boundThen_19 : decode cX6_boundThen 19 = .ok (.getfield 45, 3) := by decide +kernel
theorem dX6_boundThen_22 : decode cX6_boundThen 22 = .ok (.invokevirtual 178, 3) := by decide +kernel
theorem dX6_boundThen_25 : decode cX6_boundThen 25 = .ok (.lreturn, 1) := by decide +kernel
set_option maxRecDepth 20000 in
theorem ggX6_best_X4_greatestWorth : GoodIn wsX6_best wsX4_greatestWorth := goodIn_r _ [8, 9, 10, 11, 12, 13, 7, 14, 15, 16, 17, 18, 19, 20, 21, 22, 23, 24, 25, 26, 27, 28, 29, 30, 31, 32, 33, 34, 35, 36, 37, 38, 39, 40, 41, 42, 43, 70, 71, 72, 73, 74, 75] (by decide +kernel) (by decide +kernel)
set_option maxRecDepth 20000 in
theorem gX6_best_X4_greatestWorth : GoodIn wsX6_best (wsV RX6 195 RX4 yX4_greatestWorth wsX4_greatestWorth) := goodIn_app (goodIn_of _ (by decide +kernel)) ggX6_best_X4_greatestWorth
set_option maxRecDepth 20000 in
theorem ggX6_best_X4_leastBestSet : GoodIn wsX6_best wsX4_leastBestSet := goodIn_r _ [47, 10, 48, 5, 6, 7, 8, 9, 11, 12, 13, 14, 15, 16, 17, 18, 19, 20, 21, 22, 23, 24, 25, 26, 27, 28, 29, 30, 31, 32, 33, 34, 35, 36, 37, 38, 39, 40, 41, 42, 43, 49, 50, 51, 72, 73, 74, 75, 70, 71] (by decide +kernel) (by decide +kernel)
set_option maxRecDepth 20000 in
theorem gX6_best_X4_leastBestSet : GoodIn wsX6_best (wsV RX6 199 RX4 yX4_leastBestSet wsX4_leastBestSet) := goodIn_app (goodIn_of _ (by decide +kernel)) ggX6_best_X4_leastBestSet
theorem dX6_best_0 : decode cX6_best 0 = .ok (.iload_n 1, 1) := by decide +kernel
theorem dX6_best_1 : decode cX6_best 1 = .ok (.lookupswitch 59 #[(0, 27), (1, 44)], 27) := by decide +kernel
theorem dX6_best_28 : decode cX6_best 28 = .ok (.aload_n 0, 1) := by decide +kernel
theorem dX6_best_29 : decode cX6_best 29 = .ok (.getfield 41, 3) := by decide +kernel
theorem dX6_best_32 : decode cX6_best 32 = .ok (.aload_n 0, 1) := by decide +kernel
theorem dX6_best_33 : decode cX6_best 33 = .ok (.getfield 10, 3) := by decide +kernel
theorem dX6_best_36 : decode cX6_best 36 = .ok (.getfield 81, 3) := by decide +kernel
theorem dX6_best_39 : decode cX6_best 39 = .ok (.iconst 0, 1) := by decide +kernel
theorem dX6_best_40 : decode cX6_best 40 = .ok (.iconst 0, 1) := by decide +kernel
theorem dX6_best_41 : decode cX6_best 41 = .ok (.invokevirtual 195, 3) := by decide +kernel
theorem dX6_best_44 : decode cX6_best 44 = .ok (.ireturn, 1) := by decide +kernel
theorem dX6_best_45 : decode cX6_best 45 = .ok (.aload_n 0, 1) := by decide +kernel
theorem dX6_best_46 : decode cX6_best 46 = .ok (.getfield 41, 3) := by decide +kernel
theorem dX6_best_49 : decode cX6_best 49 = .ok (.aload_n 0, 1) := by decide +kernel
theorem dX6_best_50 : decode cX6_best 50 = .ok (.getfield 10, 3) := by decide +kernel
theorem dX6_best_53 : decode cX6_best 53 = .ok (.getfield 81, 3) := by decide +kernel
theorem dX6_best_56 : decode cX6_best 56 = .ok (.invokevirtual 199, 3) := by decide +kernel
theorem dX6_best_59 : decode cX6_best 59 = .ok (.ireturn, 1) := by decide +kernel
theorem dX6_best_60 : decode cX6_best 60 = .ok (.bipush (-2), 2) := by decide +kernel
theorem dX6_best_62 : decode cX6_best 62 = .ok (.ireturn, 1) := by decide +kernel
set_option maxRecDepth 20000 in
theorem ggX6_worthOf_X6_isDimension : GoodIn wsX6_worthOf wsX6_isDimension := goodIn_r _ [7, 8, 9, 6, 10] (by decide +kernel) (by decide +kernel)
set_option maxRecDepth 20000 in
theorem gX6_worthOf_X6_isDimension : GoodIn wsX6_worthOf (va_wsS RX6 125 yX6_isDimension wsX6_isDimension) := goodIn_app (goodIn_of _ (by decide +kernel)) ggX6_worthOf_X6_isDimension
set_option maxRecDepth 20000 in
theorem ggX6_worthOf_X6_within : GoodIn wsX6_worthOf wsX6_within := goodIn_r _ [10] (by decide +kernel) (by decide +kernel)
set_option maxRecDepth 20000 in
theorem gX6_worthOf_X6_within : GoodIn wsX6_worthOf (va_wsS RX6 149 yX6_within wsX6_within) := goodIn_app (goodIn_of _ (by decide +kernel)) ggX6_worthOf_X6_within
set_option maxRecDepth 20000 in
theorem ggX6_worthOf_X4_greatestWorth : GoodIn wsX6_worthOf wsX4_greatestWorth := goodIn_r _ [15, 16, 17, 18, 19, 20, 14, 21, 22, 23, 24, 25, 26, 27, 28, 5, 6, 7, 8, 9, 10, 29, 30, 31, 32, 33, 34, 35, 36, 37, 38, 39, 40, 41, 42, 43, 44, 63, 64, 65, 66, 67, 68] (by decide +kernel) (by decide +kernel)
set_option maxRecDepth 20000 in
theorem gX6_worthOf_X4_greatestWorth : GoodIn wsX6_worthOf (wsV RX6 195 RX4 yX4_greatestWorth wsX4_greatestWorth) := goodIn_app (goodIn_of _ (by decide +kernel)) ggX6_worthOf_X4_greatestWorth
theorem dX6_worthOf_0 : decode cX6_worthOf 0 = .ok (.iload_n 1, 1) := by decide +kernel
theorem dX6_worthOf_1 : decode cX6_worthOf 1 = .ok (.invokestatic 125, 3) := by decide +kernel
theorem dX6_worthOf_4 : decode cX6_worthOf 4 = .ok (.ifCond .ne 5, 3) := by decide +kernel
theorem dX6_worthOf_7 : decode cX6_worthOf 7 = .ok (.iconst (-1), 1) := by decide +kernel
theorem dX6_worthOf_8 : decode cX6_worthOf 8 = .ok (.ireturn, 1) := by decide +kernel
theorem dX6_worthOf_9 : decode cX6_worthOf 9 = .ok (.iload_n 2, 1) := by decide +kernel
theorem dX6_worthOf_10 : decode cX6_worthOf 10 = .ok (.iconst 1, 1) := by decide +kernel
theorem dX6_worthOf_11 : decode cX6_worthOf 11 = .ok (.bipush 99, 2) := by decide +kernel
theorem dX6_worthOf_13 : decode cX6_worthOf 13 = .ok (.invokestatic 149, 3) := by decide +kernel
theorem dX6_worthOf_16 : decode cX6_worthOf 16 = .ok (.ifCond .ne 6, 3) := by decide +kernel
theorem dX6_worthOf_19 : decode cX6_worthOf 19 = .ok (.bipush (-2), 2) := by decide +kernel
theorem dX6_worthOf_21 : decode cX6_worthOf 21 = .ok (.ireturn, 1) := by decide +kernel
theorem dX6_worthOf_22 : decode cX6_worthOf 22 = .ok (.aload_n 0, 1) := by decide +kernel
theorem dX6_worthOf_23 : decode cX6_worthOf 23 = .ok (.getfield 41, 3) := by decide +kernel
theorem dX6_worthOf_26 : decode cX6_worthOf 26 = .ok (.aload_n 0, 1) := by decide +kernel
theorem dX6_worthOf_27 : decode cX6_worthOf 27 = .ok (.getfield 10, 3) := by decide +kernel
theorem dX6_worthOf_30 : decode cX6_worthOf 30 = .ok (.getfield 81, 3) := by decide +kernel
theorem dX6_worthOf_33 : decode cX6_worthOf 33 = .ok (.iload_n 1, 1) := by decide +kernel
theorem dX6_worthOf_34 : decode cX6_worthOf 34 = .ok (.iconst 0, 1) := by decide +kernel
theorem dX6_worthOf_35 : decode cX6_worthOf 35 = .ok (.invokevirtual 195, 3) := by decide +kernel
theorem dX6_worthOf_38 : decode cX6_worthOf 38 = .ok (.istore_n 3, 1) := by decide +kernel
theorem dX6_worthOf_39 : decode cX6_worthOf 39 = .ok (.aload_n 0, 1) := by decide +kernel
theorem dX6_worthOf_40 : decode cX6_worthOf 40 = .ok (.getfield 41, 3) := by decide +kernel
theorem dX6_worthOf_43 : decode cX6_worthOf 43 = .ok (.aload_n 0, 1) := by decide +kernel
theorem dX6_worthOf_44 : decode cX6_worthOf 44 = .ok (.getfield 10, 3) := by decide +kernel
theorem dX6_worthOf_47 : decode cX6_worthOf 47 = .ok (.getfield 81, 3) := by decide +kernel
theorem dX6_worthOf_50 : decode cX6_worthOf 50 = .ok (.iload_n 1, 1) := by decide +kernel
theorem dX6_worthOf_51 : decode cX6_worthOf 51 = .ok (.iload_n 2, 1) := by decide +kernel
theorem dX6_worthOf_52 : decode cX6_worthOf 52 = .ok (.invokevirtual 195, 3) := by decide +kernel
theorem dX6_worthOf_55 : decode cX6_worthOf 55 = .ok (.iload_n 3, 1) := by decide +kernel
theorem dX6_worthOf_56 : decode cX6_worthOf 56 = .ok (.isub, 1) := by decide +kernel
theorem dX6_worthOf_57 : decode cX6_worthOf 57 = .ok (.ireturn, 1) := by decide +kernel
set_option maxRecDepth 20000 in
theorem ggX6_repaired_X2_mended : GoodIn wsX6_repaired wsX2_mended := goodIn_r _ [7, 8, 9, 10, 11, 6, 12, 13, 14, 15, 16, 17, 18, 19, 20, 21, 22, 23, 24, 25, 26, 27, 28, 29, 30, 31, 32, 33, 34, 35, 36, 37, 38, 57, 58, 59, 60] (by decide +kernel) (by decide +kernel)
set_option maxRecDepth 20000 in
theorem gX6_repaired_X2_mended : GoodIn wsX6_repaired (wsV RX6 203 RX2 yX2_mended wsX2_mended) := goodIn_app (goodIn_of _ (by decide +kernel)) ggX6_repaired_X2_mended
theorem dX6_repaired_0 : decode cX6_repaired 0 = .ok (.iload_n 1, 1) := by decide +kernel
theorem dX6_repaired_1 : decode cX6_repaired 1 = .ok (.ifCond .ge 8, 3) := by decide +kernel
theorem dX6_repaired_4 : decode cX6_repaired 4 = .ok (.bipush (-2), 2) := by decide +kernel
theorem dX6_repaired_6 : decode cX6_repaired 6 = .ok (.goto 14, 3) := by decide +kernel
theorem dX6_repaired_9 : decode cX6_repaired 9 = .ok (.aload_n 0, 1) := by decide +kernel
theorem dX6_repaired_10 : decode cX6_repaired 10 = .ok (.getfield 10, 3) := by decide +kernel
theorem dX6_repaired_13 : decode cX6_repaired 13 = .ok (.getfield 81, 3) := by decide +kernel
theorem dX6_repaired_16 : decode cX6_repaired 16 = .ok (.iload_n 1, 1) := by decide +kernel
theorem dX6_repaired_17 : decode cX6_repaired 17 = .ok (.invokevirtual 203, 3) := by decide +kernel
theorem dX6_repaired_20 : decode cX6_repaired 20 = .ok (.ireturn, 1) := by decide +kernel
set_option maxRecDepth 20000 in
theorem ggX6_put_X6_charactersIn : GoodIn wsX6_put wsX6_charactersIn := goodIn_r _ [6, 7, 8, 5, 9, 10, 11, 12] (by decide +kernel) (by decide +kernel)
set_option maxRecDepth 20000 in
theorem gX6_put_X6_charactersIn : GoodIn wsX6_put (va_wsS RX6 206 yX6_charactersIn wsX6_charactersIn) := goodIn_app (goodIn_of _ (by decide +kernel)) ggX6_put_X6_charactersIn
set_option maxRecDepth 20000 in
theorem ggX6_put_X6_codeAt : GoodIn wsX6_put wsX6_codeAt := goodIn_r _ [9] (by decide +kernel) (by decide +kernel)
set_option maxRecDepth 20000 in
theorem gX6_put_X6_codeAt : GoodIn wsX6_put (va_wsS RX6 210 yX6_codeAt wsX6_codeAt) := goodIn_app (goodIn_of _ (by decide +kernel)) ggX6_put_X6_codeAt
set_option maxRecDepth 20000 in
theorem ggX6_put_X3_append : GoodIn wsX6_put wsX3_append := goodIn_r _ [17, 18, 19, 27, 28, 29, 30, 31, 32] (by decide +kernel) (by decide +kernel)
set_option maxRecDepth 20000 in
theorem gX6_put_X3_append : GoodIn wsX6_put (wsV RX6 214 RX3 yX3_append wsX3_append) := goodIn_app (goodIn_of _ (by decide +kernel)) ggX6_put_X3_append
theorem dX6_put_0 : decode cX6_put 0 = .ok (.lload_n 1, 1) := by decide +kernel
theorem dX6_put_1 : decode cX6_put 1 = .ok (.invokestatic 206, 3) := by decide +kernel
theorem dX6_put_4 : decode cX6_put 4 = .ok (.istore_n 3, 1) := by decide +kernel
theorem dX6_put_5 : decode cX6_put 5 = .ok (.iload_n 3, 1) := by decide +kernel
theorem dX6_put_6 : decode cX6_put 6 = .ok (.ifCond .gt 6, 3) := by decide +kernel
theorem dX6_put_9 : decode cX6_put 9 = .ok (.bipush (-2), 2) := by decide +kernel
theorem dX6_put_11 : decode cX6_put 11 = .ok (.ireturn, 1) := by decide +kernel
theorem dX6_put_12 : decode cX6_put 12 = .ok (.aload_n 0, 1) := by decide +kernel
theorem dX6_put_13 : decode cX6_put 13 = .ok (.getfield 34, 3) := by decide +kernel
theorem dX6_put_16 : decode cX6_put 16 = .ok (.getfield 174, 3) := by decide +kernel
theorem dX6_put_19 : decode cX6_put 19 = .ok (.iload_n 3, 1) := by decide +kernel
theorem dX6_put_20 : decode cX6_put 20 = .ok (.iadd, 1) := by decide +kernel
theorem dX6_put_21 : decode cX6_put 21 = .ok (.bipush 80, 2) := by decide +kernel
theorem dX6_put_23 : decode cX6_put 23 = .ok (.if_icmp .le 6, 3) := by decide +kernel
theorem dX6_put_26 : decode cX6_put 26 = .ok (.bipush (-4), 2) := by decide +kernel
theorem dX6_put_28 : decode cX6_put 28 = .ok (.ireturn, 1) := by decide +kernel
theorem dX6_put_29 : decode cX6_put 29 = .ok (.iload_n 3, 1) := by decide +kernel
theorem dX6_put_30 : decode cX6_put 30 = .ok (.iconst 1, 1) := by decide +kernel
theorem dX6_put_31 : decode cX6_put 31 = .ok (.isub, 1) := by decide +kernel
theorem dX6_put_32 : decode cX6_put 32 = .ok (.istore 4, 2) := by decide +kernel
theorem dX6_put_34 : decode cX6_put 34 = .ok (.iload 4, 2) := by decide +kernel
theorem dX6_put_36 : decode cX6_put 36 = .ok (.ifCond .lt 23, 3) := by decide +kernel
theorem dX6_put_39 : decode cX6_put 39 = .ok (.aload_n 0, 1) := by decide +kernel
theorem dX6_put_40 : decode cX6_put 40 = .ok (.getfield 34, 3) := by decide +kernel
theorem dX6_put_43 : decode cX6_put 43 = .ok (.lload_n 1, 1) := by decide +kernel
theorem dX6_put_44 : decode cX6_put 44 = .ok (.iload 4, 2) := by decide +kernel
theorem dX6_put_46 : decode cX6_put 46 = .ok (.invokestatic 210, 3) := by decide +kernel
theorem dX6_put_49 : decode cX6_put 49 = .ok (.i2c, 1) := by decide +kernel
theorem dX6_put_50 : decode cX6_put 50 = .ok (.invokevirtual 214, 3) := by decide +kernel
theorem dX6_put_53 : decode cX6_put 53 = .ok (.iinc 4 (-1), 3) := by decide +kernel
theorem dX6_put_56 : decode cX6_put 56 = .ok (.goto (-22), 3) := by decide +kernel
theorem dX6_put_59 : decode cX6_put 59 = .ok (.aload_n 0, 1) := by decide +kernel
theorem dX6_put_60 : decode cX6_put 60 = .ok (.getfield 34, 3) := by decide +kernel
theorem dX6_put_63 : decode cX6_put 63 = .ok (.getfield 174, 3) := by decide +kernel
theorem dX6_put_66 : decode cX6_put 66 = .ok (.ireturn, 1) := by decide +kernel
theorem dX6_wipe_0 : decode cX6_wipe 0 = .ok (.aload_n 0, 1) := by decide +kernel
theorem dX6_wipe_1 : decode cX6_wipe 1 = .ok (.getfield 34, 3) := by decide +kernel
theorem dX6_wipe_4 : decode cX6_wipe 4 = .ok (.getfield 174, 3) := by decide +kernel
theorem dX6_wipe_7 : decode cX6_wipe 7 = .ok (.istore_n 1, 1) := by decide +kernel
theorem dX6_wipe_8 : decode cX6_wipe 8 = .ok (.aload_n 0, 1) := by decide +kernel
theorem dX6_wipe_9 : decode cX6_wipe 9 = .ok (.getfield 34, 3) := by decide +kernel
theorem dX6_wipe_12 : decode cX6_wipe 12 = .ok (.iconst 0, 1) := by decide +kernel
theorem dX6_wipe_13 : decode cX6_wipe 13 = .ok (.putfield 174, 3) := by decide +kernel
theorem dX6_wipe_16 : decode cX6_wipe 16 = .ok (.iload_n 1, 1) := by decide +kernel
theorem dX6_wipe_17 : decode cX6_wipe 17 = .ok (.ireturn, 1) := by decide +kernel
set_option maxRecDepth 20000 in
theorem ggX6_fault_X3_firstFault : GoodIn wsX6_fault wsX3_firstFault := goodIn_r _ [6, 7, 8, 9, 10, 5, 11, 12, 13, 14, 15, 16, 17, 18, 19, 20, 21, 22, 23, 24, 25, 26, 27, 28, 29, 30, 31, 32, 33, 34, 35, 36, 37, 38, 39, 40, 41, 42, 43, 44, 45, 46, 47, 48, 49, 50, 51, 52, 53, 54, 55, 56, 57, 58, 59, 60, 61, 62, 63, 64, 65, 66, 67, 68, 69, 70, 71, 72, 73, 74, 75, 76, 77, 78, 79, 80, 81, 82, 83, 84, 85, 86, 87, 88, 89, 90, 91, 92, 93, 94, 95, 96, 97, 98, 99, 100, 101, 102, 103, 104, 105, 106, 107, 108, 109, 110, 111, 119, 120, 121, 122, 123, 124] (by decide +kernel) (by decide +kernel)
set_option maxRecDepth 20000 in
theorem gX6_fault_X3_firstFault : GoodIn wsX6_fault (wsV RX6 218 RX3 yX3_firstFault wsX3_firstFault) := goodIn_app (goodIn_of _ (by decide +kernel)) ggX6_fault_X3_firstFault
theorem dX6_fault_0 : decode cX6_fault 0 = .ok (.aload_n 0, 1) := by decide +kernel
theorem dX6_fault_1 : decode cX6_fault 1 = .ok (.getfield 34, 3) := by decide +kernel
theorem dX6_fault_4 : decode cX6_fault 4 = .ok (.invokevirtual 218, 3) := by decide +kernel
theorem dX6_fault_7 : decode cX6_fault 7 = .ok (.ireturn, 1) := by decide +kernel
set_option maxRecDepth 20000 in
theorem ggX6_carryOut_X3_firstFault : GoodIn wsX6_carryOut wsX3_firstFault := goodIn_r _ [9, 10, 11, 12, 13, 8, 14, 15, 16, 17, 18, 19, 20, 21, 22, 23, 24, 25, 26, 27, 28, 29, 30, 31, 32, 33, 34, 35, 36, 37, 38, 39, 40, 41, 42, 43, 44, 45, 46, 47, 48, 49, 50, 51, 52, 53, 54, 55, 56, 57, 58, 59, 60, 61, 62, 63, 64, 65, 66, 67, 68, 69, 70, 71, 72, 73, 74, 75, 76, 77, 78, 79, 80, 81, 82, 83, 84, 85, 86, 87, 88, 89, 90, 91, 92, 93, 94, 95, 96, 97, 98, 99, 100, 101, 102, 103, 104, 105, 106, 107, 108, 109, 110, 111, 112, 113, 114, 337, 338, 339, 340, 341, 342] (by decide +kernel) (by decide +kernel)
set_option maxRecDepth 20000 in
theorem gX6_carryOut_X3_firstFault : GoodIn wsX6_carryOut (wsV RX6 218 RX3 yX3_firstFault wsX3_firstFault) := goodIn_app (goodIn_of _ (by decide +kernel)) ggX6_carryOut_X3_firstFault
set_option maxRecDepth 20000 in
theorem ggX6_carryOut_X1_prepare : GoodIn wsX6_carryOut wsX1_prepare := goodIn_r _ [119, 120, 121, 122, 123, 124, 125, 126, 127, 128, 129, 130, 131, 132, 133, 134, 135, 136, 137, 138, 139, 140, 141, 142, 143, 144, 145, 146, 147, 148, 149, 150, 151, 152, 153, 154, 155, 156, 157, 158, 343, 344, 345, 346, 347, 348, 349, 350, 351, 352, 353, 354, 355, 356, 357, 358, 359, 360, 361, 362] (by decide +kernel) (by decide +kernel)
set_option maxRecDepth 20000 in
theorem gX6_carryOut_X1_prepare : GoodIn wsX6_carryOut (wsV RX6 49 RX1 yX1_prepare wsX1_prepare) := goodIn_app (goodIn_of _ (by decide +kernel)) ggX6_carryOut_X1_prepare
set_option maxRecDepth 20000 in
theorem ggX6_carryOut_X3_rewind : GoodIn wsX6_carryOut wsX3_rewind := goodIn_r _ [14, 10, 337, 338, 339, 340, 341, 342] (by decide +kernel) (by decide +kernel)
set_option maxRecDepth 20000 in
theorem gX6_carryOut_X3_rewind : GoodIn wsX6_carryOut (wsV RX6 221 RX3 yX3_rewind wsX3_rewind) := goodIn_app (goodIn_of _ (by decide +kernel)) ggX6_carryOut_X3_rewind
set_option maxRecDepth 20000 in
theorem ggX6_carryOut_X3_hasMore : GoodIn wsX6_carryOut wsX3_hasMore := goodIn_r _ [114, 10, 29, 337, 338, 339, 340, 341, 342] (by decide +kernel) (by decide +kernel)
set_option maxRecDepth 20000 in
theorem gX6_carryOut_X3_hasMore : GoodIn wsX6_carryOut (wsV RX6 224 RX3 yX3_hasMore wsX3_hasMore) := goodIn_app (goodIn_of _ (by decide +kernel)) ggX6_carryOut_X3_hasMore
set_option maxRecDepth 20000 in
theorem ggX6_carryOut_X3_readOrder : GoodIn wsX6_carryOut wsX3_readOrder := goodIn_r _ [18, 10, 19, 20, 21, 22, 23, 8, 24, 25, 26, 27, 28, 29, 30, 31, 32, 33, 34, 35, 36, 37, 38, 39, 40, 41, 42, 43, 44, 45, 46, 47, 48, 49, 50, 51, 52, 53, 54, 55, 56, 57, 58, 59, 60, 61, 62, 63, 64, 65, 66, 67, 68, 69, 70, 71, 72, 73, 74, 75, 76, 77, 78, 79, 80, 81, 82, 83, 84, 85, 86, 87, 88, 89, 90, 91, 92, 93, 94, 95, 96, 97, 98, 99, 100, 101, 102, 103, 104, 105, 106, 107, 108, 109, 110, 337, 338, 339, 340, 341, 342] (by decide +kernel) (by decide +kernel)
set_option maxRecDepth 20000 in
theorem gX6_carryOut_X3_readOrder : GoodIn wsX6_carryOut (wsV RX6 227 RX3 yX3_readOrder wsX3_readOrder) := goodIn_app (goodIn_of _ (by decide +kernel)) ggX6_carryOut_X3_readOrder
set_option maxRecDepth 20000 in
theorem ggX6_carryOut_X6_carryOutOrder : GoodIn wsX6_carryOut wsX6_carryOutOrder := goodIn_r _ [165, 1, 166, 167, 3, 168, 169, 170, 171, 125, 172, 127, 128, 173, 174, 104, 105, 106, 175, 176, 177, 178, 179, 180, 144, 181, 150, 182, 183, 184, 185, 146, 148, 186, 187, 188, 189, 190, 136, 137, 138, 129, 140, 191, 192, 193, 194, 195, 196, 197, 198, 149, 199, 200, 201, 202, 203, 204, 205, 206, 207, 208, 209, 210, 211, 212, 213, 214, 134, 135, 215, 216, 217, 218, 139, 219, 220, 221, 222, 223, 224, 225, 226, 227, 228, 229, 154, 230, 158, 156, 231, 232, 233, 234, 235, 236, 237, 238, 239, 240, 241, 242, 243, 244, 245, 246, 247, 248, 249, 250, 251, 252, 253, 254, 255, 256, 257, 258, 259, 260, 261, 262, 263, 264, 265, 266, 267, 268, 269, 270, 271, 272, 273, 274, 275, 276, 277, 278, 279, 280, 281, 282, 283, 284, 285, 286, 287, 288, 289, 290, 291, 292, 293, 294, 295, 296, 297, 298, 299, 300, 301, 302, 303, 304, 305, 306, 307, 308, 309, 310, 311, 312, 313, 314, 315, 316, 317, 318, 319, 320, 147, 131, 132, 133, 321, 330, 331, 332, 333, 334, 335, 336, 337, 338, 339, 340, 341, 342, 346, 347, 348, 349, 350, 351, 352, 353, 354, 355, 356, 361, 362, 357, 358, 359, 360] (by decide +kernel) (by decide +kernel)
set_option maxRecDepth 20000 in
theorem gX6_carryOut_X6_carryOutOrder : GoodIn wsX6_carryOut (wsV RX6 230 RX6 yX6_carryOutOrder wsX6_carryOutOrder) := goodIn_app (goodIn_of _ (by decide +kernel)) ggX6_carryOut_X6_carryOutOrder
set_option maxRecDepth 20000 in
theorem ggX6_carryOut_X1_kept : GoodIn wsX6_carryOut wsX1_kept := goodIn_r _ [325, 121, 326, 327, 328, 197, 329, 343, 344, 345] (by decide +kernel) (by decide +kernel)
set_option maxRecDepth 20000 in
theorem gX6_carryOut_X1_kept : GoodIn wsX6_carryOut (wsV RX6 57 RX1 yX1_kept wsX1_kept) := goodIn_app (goodIn_of _ (by decide +kernel)) ggX6_carryOut_X1_kept
theorem dX6_carryOut_0 : decode cX6_carryOut 0 = .ok (.aload_n 0, 1) := by decide +kernel
theorem dX6_carryOut_1 : decode cX6_carryOut 1 = .ok (.getfield 34, 3) := by decide +kernel
theorem dX6_carryOut_4 : decode cX6_carryOut 4 = .ok (.invokevirtual 218, 3) := by decide +kernel
theorem dX6_carryOut_7 : decode cX6_carryOut 7 = .ok (.bipush (-6), 2) := by decide +kernel
theorem dX6_carryOut_9 : decode cX6_carryOut 9 = .ok (.if_icmp .eq 6, 3) := by decide +kernel
theorem dX6_carryOut_12 : decode cX6_carryOut 12 = .ok (.bipush (-3), 2) := by decide +kernel
theorem dX6_carryOut_14 : decode cX6_carryOut 14 = .ok (.ireturn, 1) := by decide +kernel
theorem dX6_carryOut_15 : decode cX6_carryOut 15 = .ok (.aload_n 0, 1) := by decide +kernel
theorem dX6_carryOut_16 : decode cX6_carryOut 16 = .ok (.getfield 19, 3) := by decide +kernel
theorem dX6_carryOut_19 : decode cX6_carryOut 19 = .ok (.aload_n 0, 1) := by decide +kernel
theorem dX6_carryOut_20 : decode cX6_carryOut 20 = .ok (.getfield 10, 3) := by decide +kernel
theorem dX6_carryOut_23 : decode cX6_carryOut 23 = .ok (.invokevirtual 49, 3) := by decide +kernel
theorem dX6_carryOut_26 : decode cX6_carryOut 26 = .ok (.aload_n 0, 1) := by decide +kernel
theorem dX6_carryOut_27 : decode cX6_carryOut 27 = .ok (.getfield 34, 3) := by decide +kernel
theorem dX6_carryOut_30 : decode cX6_carryOut 30 = .ok (.invokevirtual 221, 3) := by decide +kernel
theorem dX6_carryOut_33 : decode cX6_carryOut 33 = .ok (.iconst 0, 1) := by decide +kernel
theorem dX6_carryOut_34 : decode cX6_carryOut 34 = .ok (.istore_n 1, 1) := by decide +kernel
theorem dX6_carryOut_35 : decode cX6_carryOut 35 = .ok (.iload_n 1, 1) := by decide +kernel
theorem dX6_carryOut_36 : decode cX6_carryOut 36 = .ok (.bipush 80, 2) := by decide +kernel
theorem dX6_carryOut_38 : decode cX6_carryOut 38 = .ok (.if_icmp .ge 36, 3) := by decide +kernel
theorem dX6_carryOut_41 : decode cX6_carryOut 41 = .ok (.aload_n 0, 1) := by decide +kernel
theorem dX6_carryOut_42 : decode cX6_carryOut 42 = .ok (.getfield 34, 3) := by decide +kernel
theorem dX6_carryOut_45 : decode cX6_carryOut 45 = .ok (.invokevirtual 224, 3) := by decide +kernel
theorem dX6_carryOut_48 : decode cX6_carryOut 48 = .ok (.ifCond .eq 26, 3) := by decide +kernel
theorem dX6_carryOut_51 : decode cX6_carryOut 51 = .ok (.aload_n 0, 1) := by decide +kernel
theorem dX6_carryOut_52 : decode cX6_carryOut 52 = .ok (.getfield 34, 3) := by decide +kernel
theorem dX6_carryOut_55 : decode cX6_carryOut 55 = .ok (.invokevirtual 227, 3) := by decide +kernel
theorem dX6_carryOut_58 : decode cX6_carryOut 58 = .ok (.ifCond .eq 16, 3) := by decide +kernel
theorem dX6_carryOut_61 : decode cX6_carryOut 61 = .ok (.aload_n 0, 1) := by decide +kernel
theorem dX6_carryOut_62 : decode cX6_carryOut 62 = .ok (.invokevirtual 230, 3) := by decide +kernel
theorem dX6_carryOut_65 : decode cX6_carryOut 65 = .ok (.ifCond .lt 9, 3) := by decide +kernel
theorem dX6_carryOut_68 : decode cX6_carryOut 68 = .ok (.iinc 1 1, 3) := by decide +kernel
theorem dX6_carryOut_71 : decode cX6_carryOut 71 = .ok (.goto (-36), 3) := by decide +kernel
theorem dX6_carryOut_74 : decode cX6_carryOut 74 = .ok (.aload_n 0, 1) := by decide +kernel
theorem dX6_carryOut_75 : decode cX6_carryOut 75 = .ok (.getfield 34, 3) := by decide +kernel
theorem dX6_carryOut_78 : decode cX6_carryOut 78 = .ok (.iconst 0, 1) := by decide +kernel
theorem dX6_carryOut_79 : decode cX6_carryOut 79 = .ok (.putfield 174, 3) := by decide +kernel
theorem dX6_carryOut_82 : decode cX6_carryOut 82 = .ok (.aload_n 0, 1) := by decide +kernel
theorem dX6_carryOut_83 : decode cX6_carryOut 83 = .ok (.getfield 19, 3) := by decide +kernel
theorem dX6_carryOut_86 : decode cX6_carryOut 86 = .ok (.iload_n 1, 1) := by decide +kernel
theorem dX6_carryOut_87 : decode cX6_carryOut 87 = .ok (.invokevirtual 57, 3) := by decide +kernel
theorem dX6_carryOut_90 : decode cX6_carryOut 90 = .ok (.ireturn, 1) := by decide +kernel
set_option maxRecDepth 20000 in
theorem ggX6_undo_X1_takeBack : GoodIn wsX6_undo wsX1_takeBack := goodIn_r _ [8, 9, 10, 11, 12, 13, 14, 15, 16, 17, 18, 19, 20, 21, 22, 23, 24, 25, 26, 27, 28, 29, 30, 31, 32, 33, 34, 35, 36, 37, 38, 39, 40, 41, 42, 43, 44, 45, 46, 47, 48, 56, 57, 58, 59, 60, 61, 62, 63, 64, 65, 66, 67, 68, 69, 70, 71, 72, 73, 74, 75] (by decide +kernel) (by decide +kernel)
set_option maxRecDepth 20000 in
theorem gX6_undo_X1_takeBack : GoodIn wsX6_undo (wsV RX6 233 RX1 yX1_takeBack wsX1_takeBack) := goodIn_app (goodIn_of _ (by decide +kernel)) ggX6_undo_X1_takeBack
theorem dX6_undo_0 : decode cX6_undo 0 = .ok (.aload_n 0, 1) := by decide +kernel
theorem dX6_undo_1 : decode cX6_undo 1 = .ok (.getfield 19, 3) := by decide +kernel
theorem dX6_undo_4 : decode cX6_undo 4 = .ok (.aload_n 0, 1) := by decide +kernel
theorem dX6_undo_5 : decode cX6_undo 5 = .ok (.getfield 10, 3) := by decide +kernel
theorem dX6_undo_8 : decode cX6_undo 8 = .ok (.invokevirtual 233, 3) := by decide +kernel
theorem dX6_undo_11 : decode cX6_undo 11 = .ok (.ifCond .eq 13, 3) := by decide +kernel
theorem dX6_undo_14 : decode cX6_undo 14 = .ok (.aload_n 0, 1) := by decide +kernel
theorem dX6_undo_15 : decode cX6_undo 15 = .ok (.getfield 19, 3) := by decide +kernel
theorem dX6_undo_18 : decode cX6_undo 18 = .ok (.getfield 177, 3) := by decide +kernel
theorem dX6_undo_21 : decode cX6_undo 21 = .ok (.goto 5, 3) := by decide +kernel
theorem dX6_undo_24 : decode cX6_undo 24 = .ok (.bipush (-5), 2) := by decide +kernel
theorem dX6_undo_26 : decode cX6_undo 26 = .ok (.ireturn, 1) := by decide +kernel
set_option maxRecDepth 20000 in
theorem ggX6_save_X6_within : GoodIn wsX6_save wsX6_within := goodIn_r _ [9] (by decide +kernel) (by decide +kernel)
set_option maxRecDepth 20000 in
theorem gX6_save_X6_within : GoodIn wsX6_save (va_wsS RX6 149 yX6_within wsX6_within) := goodIn_app (goodIn_of _ (by decide +kernel)) ggX6_save_X6_within
set_option maxRecDepth 20000 in
theorem ggX6_save_X5_copyFrom : GoodIn wsX6_save wsX5_copyFrom := goodIn_r _ [14, 15, 16, 17, 18, 19, 20, 21, 22, 23, 24, 25, 26, 27, 28, 29, 30, 31, 32, 33, 34, 35, 36, 37, 38, 39, 40, 41, 42, 43, 44, 45, 46, 54, 55, 56, 57, 58, 59, 60, 61, 62, 63, 64, 65, 66, 67, 68, 69, 70] (by decide +kernel) (by decide +kernel)
set_option maxRecDepth 20000 in
theorem gX6_save_X5_copyFrom : GoodIn wsX6_save (wsV RX6 237 RX5 yX5_copyFrom wsX5_copyFrom) := goodIn_app (goodIn_of _ (by decide +kernel)) ggX6_save_X5_copyFrom
theorem dX6_save_0 : decode cX6_save 0 = .ok (.iload_n 1, 1) := by decide +kernel
theorem dX6_save_1 : decode cX6_save 1 = .ok (.iconst 0, 1) := by decide +kernel
theorem dX6_save_2 : decode cX6_save 2 = .ok (.iconst 1, 1) := by decide +kernel
theorem dX6_save_3 : decode cX6_save 3 = .ok (.invokestatic 149, 3) := by decide +kernel
theorem dX6_save_6 : decode cX6_save 6 = .ok (.ifCond .ne 6, 3) := by decide +kernel
theorem dX6_save_9 : decode cX6_save 9 = .ok (.bipush (-2), 2) := by decide +kernel
theorem dX6_save_11 : decode cX6_save 11 = .ok (.ireturn, 1) := by decide +kernel
theorem dX6_save_12 : decode cX6_save 12 = .ok (.aload_n 0, 1) := by decide +kernel
theorem dX6_save_13 : decode cX6_save 13 = .ok (.getfield 23, 3) := by decide +kernel
theorem dX6_save_16 : decode cX6_save 16 = .ok (.iload_n 1, 1) := by decide +kernel
theorem dX6_save_17 : decode cX6_save 17 = .ok (.aaload, 1) := by decide +kernel
theorem dX6_save_18 : decode cX6_save 18 = .ok (.aload_n 0, 1) := by decide +kernel
theorem dX6_save_19 : decode cX6_save 19 = .ok (.getfield 10, 3) := by decide +kernel
theorem dX6_save_22 : decode cX6_save 22 = .ok (.invokevirtual 237, 3) := by decide +kernel
theorem dX6_save_25 : decode cX6_save 25 = .ok (.aload_n 0, 1) := by decide +kernel
theorem dX6_save_26 : decode cX6_save 26 = .ok (.getfield 27, 3) := by decide +kernel
theorem dX6_save_29 : decode cX6_save 29 = .ok (.iload_n 1, 1) := by decide +kernel
theorem dX6_save_30 : decode cX6_save 30 = .ok (.iconst 1, 1) := by decide +kernel
theorem dX6_save_31 : decode cX6_save 31 = .ok (.bastore, 1) := by decide +kernel
theorem dX6_save_32 : decode cX6_save 32 = .ok (.aload_n 0, 1) := by decide +kernel
theorem dX6_save_33 : decode cX6_save 33 = .ok (.getfield 10, 3) := by decide +kernel
theorem dX6_save_36 : decode cX6_save 36 = .ok (.getfield 81, 3) := by decide +kernel
theorem dX6_save_39 : decode cX6_save 39 = .ok (.getfield 156, 3) := by decide +kernel
theorem dX6_save_42 : decode cX6_save 42 = .ok (.ireturn, 1) := by decide +kernel
set_option maxRecDepth 20000 in
theorem ggX6_restore_X6_within : GoodIn wsX6_restore wsX6_within := goodIn_r _ [10] (by decide +kernel) (by decide +kernel)
set_option maxRecDepth 20000 in
theorem gX6_restore_X6_within : GoodIn wsX6_restore (va_wsS RX6 149 yX6_within wsX6_within) := goodIn_app (goodIn_of _ (by decide +kernel)) ggX6_restore_X6_within
set_option maxRecDepth 20000 in
theorem ggX6_restore_X1_prepare : GoodIn wsX6_restore wsX1_prepare := goodIn_r _ [15, 16, 17, 18, 19, 20, 21, 22, 23, 24, 25, 26, 27, 28, 29, 30, 31, 32, 33, 34, 35, 36, 37, 38, 39, 40, 41, 42, 43, 44, 45, 46, 47, 48, 49, 50, 51, 52, 53, 54, 87, 88, 89, 72, 73, 74, 75, 76, 77, 78, 79, 80, 81, 82, 83, 84, 85, 86, 90, 91] (by decide +kernel) (by decide +kernel)
set_option maxRecDepth 20000 in
theorem gX6_restore_X1_prepare : GoodIn wsX6_restore (wsV RX6 49 RX1 yX1_prepare wsX1_prepare) := goodIn_app (goodIn_of _ (by decide +kernel)) ggX6_restore_X1_prepare
set_option maxRecDepth 20000 in
theorem ggX6_restore_X5_copyFrom : GoodIn wsX6_restore wsX5_copyFrom := goodIn_r _ [22, 23, 24, 25, 26, 27, 28, 29, 30, 31, 32, 33, 34, 35, 36, 37, 38, 39, 40, 41, 42, 43, 44, 45, 46, 47, 48, 49, 50, 51, 52, 53, 54, 72, 73, 74, 75, 76, 77, 78, 79, 80, 81, 82, 83, 84, 85, 86, 90, 91] (by decide +kernel) (by decide +kernel)
set_option maxRecDepth 20000 in
theorem gX6_restore_X5_copyFrom : GoodIn wsX6_restore (wsV RX6 237 RX5 yX5_copyFrom wsX5_copyFrom) := goodIn_app (goodIn_of _ (by decide +kernel)) ggX6_restore_X5_copyFrom
set_option maxRecDepth 20000 in
theorem ggX6_restore_X1_kept : GoodIn wsX6_restore wsX1_kept := goodIn_r _ [59, 17, 60, 61, 62, 63, 64, 87, 88, 89] (by decide +kernel) (by decide +kernel)
set_option maxRecDepth 20000 in
theorem gX6_restore_X1_kept : GoodIn wsX6_restore (wsV RX6 57 RX1 yX1_kept wsX1_kept) := goodIn_app (goodIn_of _ (by decide +kernel)) ggX6_restore_X1_kept
theorem dX6_restore_0 : decode cX6_restore 0 = .ok (.iload_n 1, 1) := by decide +kernel
theorem dX6_restore_1 : decode cX6_restore 1 = .ok (.iconst 0, 1) := by decide +kernel
theorem dX6_restore_2 : decode cX6_restore 2 = .ok (.iconst 1, 1) := by decide +kernel
theorem dX6_restore_3 : decode cX6_restore 3 = .ok (.invokestatic 149, 3) := by decide +kernel
theorem dX6_restore_6 : decode cX6_restore 6 = .ok (.ifCond .ne 6, 3) := by decide +kernel
theorem dX6_restore_9 : decode cX6_restore 9 = .ok (.bipush (-2), 2) := by decide +kernel
theorem dX6_restore_11 : decode cX6_restore 11 = .ok (.ireturn, 1) := by decide +kernel
theorem dX6_restore_12 : decode cX6_restore 12 = .ok (.aload_n 0, 1) := by decide +kernel
theorem dX6_restore_13 : decode cX6_restore 13 = .ok (.getfield 27, 3) := by decide +kernel
theorem dX6_restore_16 : decode cX6_restore 16 = .ok (.iload_n 1, 1) := by decide +kernel
theorem dX6_restore_17 : decode cX6_restore 17 = .ok (.baload, 1) := by decide +kernel
theorem dX6_restore_18 : decode cX6_restore 18 = .ok (.ifCond .ne 6, 3) := by decide +kernel
theorem dX6_restore_21 : decode cX6_restore 21 = .ok (.bipush (-5), 2) := by decide +kernel
theorem dX6_restore_23 : decode cX6_restore 23 = .ok (.ireturn, 1) := by decide +kernel
theorem dX6_restore_24 : decode cX6_restore 24 = .ok (.aload_n 0, 1) := by decide +kernel
theorem dX6_restore_25 : decode cX6_restore 25 = .ok (.getfield 19, 3) := by decide +kernel
theorem dX6_restore_28 : decode cX6_restore 28 = .ok (.aload_n 0, 1) := by decide +kernel
theorem dX6_restore_29 : decode cX6_restore 29 = .ok (.getfield 10, 3) := by decide +kernel
theorem dX6_restore_32 : decode cX6_restore 32 = .ok (.invokevirtual 49, 3) := by decide +kernel
theorem dX6_restore_35 : decode cX6_restore 35 = .ok (.aload_n 0, 1) := by decide +kernel
theorem dX6_restore_36 : decode cX6_restore 36 = .ok (.getfield 10, 3) := by decide +kernel
theorem dX6_restore_39 : decode cX6_restore 39 = .ok (.aload_n 0, 1) := by decide +kernel
theorem dX6_restore_40 : decode cX6_restore 40 = .ok (.getfield 23, 3) := by decide +kernel
theorem dX6_restore_43 : decode cX6_restore 43 = .ok (.iload_n 1, 1) := by decide +kernel
theorem dX6_restore_44 : decode cX6_restore 44 = .ok (.aaload, 1) := by decide +kernel
theorem dX6_restore_45 : decode cX6_restore 45 = .ok (.invokevirtual 237, 3) := by decide +kernel
theorem dX6_restore_48 : decode cX6_restore 48 = .ok (.aload_n 0, 1) := by decide +kernel
theorem dX6_restore_49 : decode cX6_restore 49 = .ok (.getfield 19, 3) := by decide +kernel
theorem dX6_restore_52 : decode cX6_restore 52 = .ok (.aload_n 0, 1) := by decide +kernel
theorem dX6_restore_53 : decode cX6_restore 53 = .ok (.getfield 10, 3) := by decide +kernel
theorem dX6_restore_56 : decode cX6_restore 56 = .ok (.getfield 81, 3) := by decide +kernel
theorem dX6_restore_59 : decode cX6_restore 59 = .ok (.getfield 156, 3) := by decide +kernel
theorem dX6_restore_62 : decode cX6_restore 62 = .ok (.invokevirtual 57, 3) := by decide +kernel
theorem dX6_restore_65 : decode cX6_restore 65 = .ok (.ireturn, 1) := by decide +kernel
set_option maxRecDepth 20000 in
theorem ggX6_carryOutOrder_X5_addItem : GoodIn wsX6_carryOutOrder wsX5_addItem := goodIn_r _ [10, 11, 12, 13, 14, 15, 16, 17, 18, 19, 9, 20, 21, 22, 23, 24, 25, 26, 27, 28, 29, 30, 31, 32, 33, 34, 35, 36, 37, 38, 39, 40, 41, 42, 43, 44, 45, 46, 47, 48, 49, 50, 51, 52, 53, 54, 55, 198, 199, 200, 201, 202, 203, 204, 205, 206, 207, 208, 209, 210, 211, 212, 213, 214] (by decide +kernel) (by decide +kernel)
set_option maxRecDepth 20000 in
theorem gX6_carryOutOrder_X5_addItem : GoodIn wsX6_carryOutOrder (wsV RX6 53 RX5 yX5_addItem wsX5_addItem) := goodIn_app (goodIn_of _ (by decide +kernel)) ggX6_carryOutOrder_X5_addItem
set_option maxRecDepth 20000 in
theorem ggX6_carryOutOrder_X5_setLimit : GoodIn wsX6_carryOutOrder wsX5_setLimit := goodIn_r _ [59, 11, 60, 61, 16, 62, 63, 15, 17, 34, 35, 36, 9, 37, 38, 39, 40, 41, 42, 43, 44, 45, 24, 46, 26, 47, 48, 49, 50, 51, 52, 53, 54, 55, 31, 32, 198, 199, 200, 201, 202, 203, 204, 205, 206, 207, 208, 211, 212, 213, 214] (by decide +kernel) (by decide +kernel)
set_option maxRecDepth 20000 in
theorem gX6_carryOutOrder_X5_setLimit : GoodIn wsX6_carryOutOrder (wsV RX6 64 RX5 yX5_setLimit wsX5_setLimit) := goodIn_app (goodIn_of _ (by decide +kernel)) ggX6_carryOutOrder_X5_setLimit
set_option maxRecDepth 20000 in
theorem ggX6_carryOutOrder_X5_setRule : GoodIn wsX6_carryOutOrder wsX5_setRule := goodIn_r _ [67, 68, 69, 15, 16, 17, 198, 199, 200, 201, 202, 203, 204, 205, 206, 207, 208] (by decide +kernel) (by decide +kernel)
set_option maxRecDepth 20000 in
theorem gX6_carryOutOrder_X5_setRule : GoodIn wsX6_carryOutOrder (wsV RX6 68 RX5 yX5_setRule wsX5_setRule) := goodIn_app (goodIn_of _ (by decide +kernel)) ggX6_carryOutOrder_X5_setRule
set_option maxRecDepth 20000 in
theorem ggX6_carryOutOrder_X5_makeSteps : GoodIn wsX6_carryOutOrder wsX5_makeSteps := goodIn_r _ [73, 12, 41, 40, 74, 15, 16, 17, 75, 76, 77, 9, 78, 11, 79, 80, 81, 24, 82, 26, 52, 53, 54, 55, 31, 32, 83, 84, 85, 86, 87, 88, 89, 90, 91, 92, 93, 94, 95, 96, 97, 98, 99, 100, 101, 49, 102, 103, 104, 105, 106, 107, 108, 109, 60, 110, 111, 112, 113, 114, 115, 116, 117, 118, 119, 68, 69, 120, 48, 50, 43, 44, 45, 46, 47, 51, 121, 122, 123, 124, 39, 125, 126, 127, 128, 129, 130, 131, 132, 133, 134, 135, 136, 42, 137, 138, 198, 199, 200, 201, 202, 203, 204, 205, 206, 207, 208, 211, 212, 213, 214, 209, 210] (by decide +kernel) (by decide +kernel)
set_option maxRecDepth 20000 in
theorem gX6_carryOutOrder_X5_makeSteps : GoodIn wsX6_carryOutOrder (wsV RX6 74 RX5 yX5_makeSteps wsX5_makeSteps) := goodIn_app (goodIn_of _ (by decide +kernel)) ggX6_carryOutOrder_X5_makeSteps
set_option maxRecDepth 20000 in
theorem ggX6_carryOutOrder_X5_keepMended : GoodIn wsX6_carryOutOrder wsX5_keepMended := goodIn_r _ [142, 11, 39, 38, 75, 76, 77, 9, 78, 41, 79, 80, 81, 24, 82, 26, 52, 53, 54, 55, 31, 32, 143, 144, 145, 146, 147, 148, 149, 150, 51, 151, 111, 112, 113, 114, 16, 115, 152, 153, 154, 155, 47, 48, 49, 50, 156, 157, 158, 159, 160, 161, 162, 163, 164, 165, 166, 167, 125, 126, 127, 128, 198, 199, 200, 201, 202, 203, 204, 205, 206, 207, 208, 211, 212, 213, 214] (by decide +kernel) (by decide +kernel)
set_option maxRecDepth 20000 in
theorem gX6_carryOutOrder_X5_keepMended : GoodIn wsX6_carryOutOrder (wsV RX6 77 RX5 yX5_keepMended wsX5_keepMended) := goodIn_app (goodIn_of _ (by decide +kernel)) ggX6_carryOutOrder_X5_keepMended
set_option maxRecDepth 20000 in
theorem ggX6_carryOutOrder_X5_removeItem : GoodIn wsX6_carryOutOrder wsX5_removeItem := goodIn_r _ [171, 11, 12, 13, 14, 172, 173, 174, 24, 175, 26, 15, 16, 17, 176, 177, 178, 179, 31, 180, 181, 182, 183, 32, 184, 34, 35, 36, 9, 37, 38, 39, 40, 41, 42, 43, 44, 45, 46, 47, 48, 49, 50, 51, 52, 53, 54, 55, 198, 199, 200, 201, 202, 203, 204, 205, 206, 207, 208, 209, 210, 211, 212, 213, 214] (by decide +kernel) (by decide +kernel)
set_option maxRecDepth 20000 in
theorem gX6_carryOutOrder_X5_removeItem : GoodIn wsX6_carryOutOrder (wsV RX6 61 RX5 yX5_removeItem wsX5_removeItem) := goodIn_app (goodIn_of _ (by decide +kernel)) ggX6_carryOutOrder_X5_removeItem
theorem dX6_carryOutOrder_0 : decode cX6_carryOutOrder 0 = .ok (.aload_n 0, 1) := by decide +kernel
theorem dX6_carryOutOrder_1 : decode cX6_carryOutOrder 1 = .ok (.getfield 34, 3) := by decide +kernel
theorem dX6_carryOutOrder_4 : decode cX6_carryOutOrder 4 = .ok (.getfield 240, 3) := by decide +kernel
theorem dX6_carryOutOrder_7 : decode cX6_carryOutOrder 7 = .ok (.astore_n 1, 1) := by decide +kernel
theorem dX6_carryOutOrder_8 : decode cX6_carryOutOrder 8 = .ok (.aload_n 0, 1) := by decide +kernel
theorem dX6_carryOutOrder_9 : decode cX6_carryOutOrder 9 = .ok (.getfield 34, 3) := by decide +kernel
theorem dX6_carryOutOrder_12 : decode cX6_carryOutOrder 12 = .ok (.getfield 243, 3) := by decide +kernel
theorem dX6_carryOutOrder_15 : decode cX6_carryOutOrder 15 = .ok (.lookupswitch 139 #[(45, 128), (105, 57), (108, 77), (114, 91), (115, 109), (120, 120)], 57) := by decide +kernel
theorem dX6_carryOutOrder_72 : decode cX6_carryOutOrder 72 = .ok (.aload_n 0, 1) := by decide +kernel
theorem dX6_carryOutOrder_73 : decode cX6_carryOutOrder 73 = .ok (.getfield 10, 3) := by decide +kernel
theorem dX6_carryOutOrder_76 : decode cX6_carryOutOrder 76 = .ok (.aload_n 1, 1) := by decide +kernel
theorem dX6_carryOutOrder_77 : decode cX6_carryOutOrder 77 = .ok (.iconst 0, 1) := by decide +kernel
theorem dX6_carryOutOrder_78 : decode cX6_carryOutOrder 78 = .ok (.iaload, 1) := by decide +kernel
theorem dX6_carryOutOrder_79 : decode cX6_carryOutOrder 79 = .ok (.aload_n 1, 1) := by decide +kernel
theorem dX6_carryOutOrder_80 : decode cX6_carryOutOrder 80 = .ok (.iconst 1, 1) := by decide +kernel
theorem dX6_carryOutOrder_81 : decode cX6_carryOutOrder 81 = .ok (.iaload, 1) := by decide +kernel
theorem dX6_carryOutOrder_82 : decode cX6_carryOutOrder 82 = .ok (.aload_n 1, 1) := by decide +kernel
theorem dX6_carryOutOrder_83 : decode cX6_carryOutOrder 83 = .ok (.iconst 2, 1) := by decide +kernel
theorem dX6_carryOutOrder_84 : decode cX6_carryOutOrder 84 = .ok (.iaload, 1) := by decide +kernel
theorem dX6_carryOutOrder_85 : decode cX6_carryOutOrder 85 = .ok (.aload_n 1, 1) := by decide +kernel
theorem dX6_carryOutOrder_86 : decode cX6_carryOutOrder 86 = .ok (.iconst 3, 1) := by decide +kernel
theorem dX6_carryOutOrder_87 : decode cX6_carryOutOrder 87 = .ok (.iaload, 1) := by decide +kernel
theorem dX6_carryOutOrder_88 : decode cX6_carryOutOrder 88 = .ok (.invokevirtual 53, 3) := by decide +kernel
theorem dX6_carryOutOrder_91 : decode cX6_carryOutOrder 91 = .ok (.ireturn, 1) := by decide +kernel
theorem dX6_carryOutOrder_92 : decode cX6_carryOutOrder 92 = .ok (.aload_n 0, 1) := by decide +kernel
theorem dX6_carryOutOrder_93 : decode cX6_carryOutOrder 93 = .ok (.getfield 10, 3) := by decide +kernel
theorem dX6_carryOutOrder_96 : decode cX6_carryOutOrder 96 = .ok (.aload_n 1, 1) := by decide +kernel
theorem dX6_carryOutOrder_97 : decode cX6_carryOutOrder 97 = .ok (.iconst 0, 1) := by decide +kernel
theorem dX6_carryOutOrder_98 : decode cX6_carryOutOrder 98 = .ok (.iaload, 1) := by decide +kernel
theorem dX6_carryOutOrder_99 : decode cX6_carryOutOrder 99 = .ok (.aload_n 1, 1) := by decide +kernel
theorem dX6_carryOutOrder_100 : decode cX6_carryOutOrder 100 = .ok (.iconst 1, 1) := by decide +kernel
theorem dX6_carryOutOrder_101 : decode cX6_carryOutOrder 101 = .ok (.iaload, 1) := by decide +kernel
theorem dX6_carryOutOrder_102 : decode cX6_carryOutOrder 102 = .ok (.invokevirtual 64, 3) := by decide +kernel
theorem dX6_carryOutOrder_105 : decode cX6_carryOutOrder 105 = .ok (.ireturn, 1) := by decide +kernel
theorem dX6_carryOutOrder_106 : decode cX6_carryOutOrder 106 = .ok (.aload_n 0, 1) := by decide +kernel
theorem dX6_carryOutOrder_107 : decode cX6_carryOutOrder 107 = .ok (.getfield 10, 3) := by decide +kernel
theorem dX6_carryOutOrder_110 : decode cX6_carryOutOrder 110 = .ok (.aload_n 1, 1) := by decide +kernel
theorem dX6_carryOutOrder_111 : decode cX6_carryOutOrder 111 = .ok (.iconst 0, 1) := by decide +kernel
theorem dX6_carryOutOrder_112 : decode cX6_carryOutOrder 112 = .ok (.iaload, 1) := by decide +kernel
theorem dX6_carryOutOrder_113 : decode cX6_carryOutOrder 113 = .ok (.aload_n 0, 1) := by decide +kernel
theorem dX6_carryOutOrder_114 : decode cX6_carryOutOrder 114 = .ok (.getfield 10, 3) := by decide +kernel
theorem dX6_carryOutOrder_117 : decode cX6_carryOutOrder 117 = .ok (.getfield 162, 3) := by decide +kernel
theorem dX6_carryOutOrder_120 : decode cX6_carryOutOrder 120 = .ok (.invokevirtual 68, 3) := by decide +kernel
theorem dX6_carryOutOrder_123 : decode cX6_carryOutOrder 123 = .ok (.ireturn, 1) := by decide +kernel
theorem dX6_carryOutOrder_124 : decode cX6_carryOutOrder 124 = .ok (.aload_n 0, 1) := by decide +kernel
theorem dX6_carryOutOrder_125 : decode cX6_carryOutOrder 125 = .ok (.getfield 10, 3) := by decide +kernel
theorem dX6_carryOutOrder_128 : decode cX6_carryOutOrder 128 = .ok (.aload_n 1, 1) := by decide +kernel
