theorem dX0_init_0 : decode cX0_init 0 = .ok (.aload_n 0, 1) := by decide +kernel
theorem dX0_init_1 : decode cX0_init 1 = .ok (.invokespecial 3, 3) := by decide +kernel
theorem dX0_init_4 : decode cX0_init 4 = .ok (.aload_n 0, 1) := by decide +kernel
theorem dX0_init_5 : decode cX0_init 5 = .ok (.bipush 8, 2) := by decide +kernel
theorem dX0_init_7 : decode cX0_init 7 = .ok (.newarray .int, 2) := by decide +kernel
theorem dX0_init_9 : decode cX0_init 9 = .ok (.putfield 9, 3) := by decide +kernel
theorem dX0_init_12 : decode cX0_init 12 = .ok (.aload_n 0, 1) := by decide +kernel
theorem dX0_init_13 : decode cX0_init 13 = .ok (.iconst 0, 1) := by decide +kernel
theorem dX0_init_14 : decode cX0_init 14 = .ok (.putfield 15, 3) := by decide +kernel
theorem dX0_init_17 : decode cX0_init 17 = .ok (.return_, 1) := by decide +kernel
theorem dX0_copyFrom_0 : decode cX0_copyFrom 0 = .ok (.aload_n 1, 1) := by decide +kernel
theorem dX0_copyFrom_1 : decode cX0_copyFrom 1 = .ok (.getfield 9, 3) := by decide +kernel
theorem dX0_copyFrom_4 : decode cX0_copyFrom 4 = .ok (.iconst 0, 1) := by decide +kernel
theorem dX0_copyFrom_5 : decode cX0_copyFrom 5 = .ok (.aload_n 0, 1) := by decide +kernel
theorem dX0_copyFrom_6 : decode cX0_copyFrom 6 = .ok (.getfield 9, 3) := by decide +kernel
theorem dX0_copyFrom_9 : decode cX0_copyFrom 9 = .ok (.iconst 0, 1) := by decide +kernel
theorem dX0_copyFrom_10 : decode cX0_copyFrom 10 = .ok (.bipush 8, 2) := by decide +kernel
theorem dX0_copyFrom_12 : decode cX0_copyFrom 12 = .ok (.invokestatic 19, 3) := by decide +kernel
theorem dX0_copyFrom_15 : decode cX0_copyFrom 15 = .ok (.aload_n 0, 1) := by decide +kernel
theorem dX0_copyFrom_16 : decode cX0_copyFrom 16 = .ok (.aload_n 1, 1) := by decide +kernel
theorem dX0_copyFrom_17 : decode cX0_copyFrom 17 = .ok (.getfield 15, 3) := by decide +kernel
theorem dX0_copyFrom_20 : decode cX0_copyFrom 20 = .ok (.putfield 15, 3) := by decide +kernel
theorem dX0_copyFrom_23 : decode cX0_copyFrom 23 = .ok (.return_, 1) := by decide +kernel
set_option maxRecDepth 20000 in
theorem ggX0_append_X0_takeOut : GoodIn wsX0_append wsX0_takeOut := goodIn_r _ [7, 1, 2, 8, 9] (by decide +kernel) (by decide +kernel)
set_option maxRecDepth 20000 in
theorem gX0_append_X0_takeOut : GoodIn wsX0_append (wsV RX0 25 RX0 yX0_takeOut wsX0_takeOut) := goodIn_app (goodIn_of _ (by decide +kernel)) ggX0_append_X0_takeOut
theorem dX0_append_0 : decode cX0_append 0 = .ok (.aload_n 0, 1) := by decide +kernel
theorem dX0_append_1 : decode cX0_append 1 = .ok (.iload_n 1, 1) := by decide +kernel
theorem dX0_append_2 : decode cX0_append 2 = .ok (.invokevirtual 25, 3) := by decide +kernel
theorem dX0_append_5 : decode cX0_append 5 = .ok (.aload_n 0, 1) := by decide +kernel
theorem dX0_append_6 : decode cX0_append 6 = .ok (.getfield 15, 3) := by decide +kernel
theorem dX0_append_9 : decode cX0_append 9 = .ok (.bipush 8, 2) := by decide +kernel
theorem dX0_append_11 : decode cX0_append 11 = .ok (.if_icmp .lt 13, 3) := by decide +kernel
theorem dX0_append_14 : decode cX0_append 14 = .ok (.aload_n 0, 1) := by decide +kernel
theorem dX0_append_15 : decode cX0_append 15 = .ok (.aload_n 0, 1) := by decide +kernel
theorem dX0_append_16 : decode cX0_append 16 = .ok (.getfield 9, 3) := by decide +kernel
theorem dX0_append_19 : decode cX0_append 19 = .ok (.iconst 0, 1) := by decide +kernel
theorem dX0_append_20 : decode cX0_append 20 = .ok (.iaload, 1) := by decide +kernel
theorem dX0_append_21 : decode cX0_append 21 = .ok (.invokevirtual 25, 3) := by decide +kernel
theorem dX0_append_24 : decode cX0_append 24 = .ok (.aload_n 0, 1) := by decide +kernel
theorem dX0_append_25 : decode cX0_append 25 = .ok (.getfield 9, 3) := by decide +kernel
theorem dX0_append_28 : decode cX0_append 28 = .ok (.aload_n 0, 1) := by decide +kernel
theorem dX0_append_29 : decode cX0_append 29 = .ok (.getfield 15, 3) := by decide +kernel
theorem dX0_append_32 : decode cX0_append 32 = .ok (.iload_n 1, 1) := by decide +kernel
theorem dX0_append_33 : decode cX0_append 33 = .ok (.iastore, 1) := by decide +kernel
theorem dX0_append_34 : decode cX0_append 34 = .ok (.aload_n 0, 1) := by decide +kernel
theorem dX0_append_35 : decode cX0_append 35 = .ok (.dup, 1) := by decide +kernel
theorem dX0_append_36 : decode cX0_append 36 = .ok (.getfield 15, 3) := by decide +kernel
theorem dX0_append_39 : decode cX0_append 39 = .ok (.iconst 1, 1) := by decide +kernel
theorem dX0_append_40 : decode cX0_append 40 = .ok (.iadd, 1) := by decide +kernel
theorem dX0_append_41 : decode cX0_append 41 = .ok (.putfield 15, 3) := by decide +kernel
theorem dX0_append_44 : decode cX0_append 44 = .ok (.return_, 1) := by decide +kernel
theorem dX0_takeOut_0 : decode cX0_takeOut 0 = .ok (.iconst 0, 1) := by decide +kernel
theorem dX0_takeOut_1 : decode cX0_takeOut 1 = .ok (.istore_n 2, 1) := by decide +kernel
theorem dX0_takeOut_2 : decode cX0_takeOut 2 = .ok (.iconst 0, 1) := by decide +kernel
theorem dX0_takeOut_3 : decode cX0_takeOut 3 = .ok (.istore_n 3, 1) := by decide +kernel
theorem dX0_takeOut_4 : decode cX0_takeOut 4 = .ok (.iload_n 3, 1) := by decide +kernel
theorem dX0_takeOut_5 : decode cX0_takeOut 5 = .ok (.aload_n 0, 1) := by decide +kernel
theorem dX0_takeOut_6 : decode cX0_takeOut 6 = .ok (.getfield 15, 3) := by decide +kernel
theorem dX0_takeOut_9 : decode cX0_takeOut 9 = .ok (.if_icmp .ge 34, 3) := by decide +kernel
theorem dX0_takeOut_12 : decode cX0_takeOut 12 = .ok (.aload_n 0, 1) := by decide +kernel
theorem dX0_takeOut_13 : decode cX0_takeOut 13 = .ok (.getfield 9, 3) := by decide +kernel
theorem dX0_takeOut_16 : decode cX0_takeOut 16 = .ok (.iload_n 3, 1) := by decide +kernel
theorem dX0_takeOut_17 : decode cX0_takeOut 17 = .ok (.iaload, 1) := by decide +kernel
theorem dX0_takeOut_18 : decode cX0_takeOut 18 = .ok (.iload_n 1, 1) := by decide +kernel
theorem dX0_takeOut_19 : decode cX0_takeOut 19 = .ok (.if_icmp .eq 18, 3) := by decide +kernel
theorem dX0_takeOut_22 : decode cX0_takeOut 22 = .ok (.aload_n 0, 1) := by decide +kernel
theorem dX0_takeOut_23 : decode cX0_takeOut 23 = .ok (.getfield 9, 3) := by decide +kernel
theorem dX0_takeOut_26 : decode cX0_takeOut 26 = .ok (.iload_n 2, 1) := by decide +kernel
theorem dX0_takeOut_27 : decode cX0_takeOut 27 = .ok (.aload_n 0, 1) := by decide +kernel
theorem dX0_takeOut_28 : decode cX0_takeOut 28 = .ok (.getfield 9, 3) := by decide +kernel
theorem dX0_takeOut_31 : decode cX0_takeOut 31 = .ok (.iload_n 3, 1) := by decide +kernel
theorem dX0_takeOut_32 : decode cX0_takeOut 32 = .ok (.iaload, 1) := by decide +kernel
theorem dX0_takeOut_33 : decode cX0_takeOut 33 = .ok (.iastore, 1) := by decide +kernel
theorem dX0_takeOut_34 : decode cX0_takeOut 34 = .ok (.iinc 2 1, 3) := by decide +kernel
theorem dX0_takeOut_37 : decode cX0_takeOut 37 = .ok (.iinc 3 1, 3) := by decide +kernel
theorem dX0_takeOut_40 : decode cX0_takeOut 40 = .ok (.goto (-36), 3) := by decide +kernel
theorem dX0_takeOut_43 : decode cX0_takeOut 43 = .ok (.aload_n 0, 1) := by decide +kernel
theorem dX0_takeOut_44 : decode cX0_takeOut 44 = .ok (.iload_n 2, 1) := by decide +kernel
theorem dX0_takeOut_45 : decode cX0_takeOut 45 = .ok (.putfield 15, 3) := by decide +kernel
theorem dX0_takeOut_48 : decode cX0_takeOut 48 = .ok (.return_, 1) := by decide +kernel
set_option maxRecDepth 20000 in
theorem ggX1_init_X5_init : GoodIn wsX1_init wsX5_init := goodIn_r _ [11, 12, 2, 3, 13, 14, 15, 16, 17, 18, 19, 20, 21, 22, 23, 24, 25, 26, 27, 28, 29, 30, 31, 32, 33, 34, 35, 36, 37, 38, 39, 40, 41, 42, 43, 44, 45, 46, 47, 48, 63, 64, 65, 66, 52, 53, 54, 55, 56, 57, 58, 59, 60, 61, 62, 67, 68] (by decide +kernel) (by decide +kernel)
set_option maxRecDepth 20000 in
theorem gX1_init_X5_init_n24 : GoodIn wsX1_init (wsX5_init) := ggX1_init_X5_init
theorem dX1_init_0 : decode cX1_init 0 = .ok (.aload_n 0, 1) := by decide +kernel
theorem dX1_init_1 : decode cX1_init 1 = .ok (.invokespecial 3, 3) := by decide +kernel
theorem dX1_init_4 : decode cX1_init 4 = .ok (.aload_n 0, 1) := by decide +kernel
theorem dX1_init_5 : decode cX1_init 5 = .ok (.bipush 7, 2) := by decide +kernel
theorem dX1_init_7 : decode cX1_init 7 = .ok (.anewarray 11, 3) := by decide +kernel
theorem dX1_init_10 : decode cX1_init 10 = .ok (.putfield 13, 3) := by decide +kernel
theorem dX1_init_13 : decode cX1_init 13 = .ok (.aload_n 0, 1) := by decide +kernel
theorem dX1_init_14 : decode cX1_init 14 = .ok (.iconst 0, 1) := by decide +kernel
theorem dX1_init_15 : decode cX1_init 15 = .ok (.putfield 17, 3) := by decide +kernel
theorem dX1_init_18 : decode cX1_init 18 = .ok (.aload_n 0, 1) := by decide +kernel
theorem dX1_init_19 : decode cX1_init 19 = .ok (.iconst 0, 1) := by decide +kernel
theorem dX1_init_20 : decode cX1_init 20 = .ok (.putfield 21, 3) := by decide +kernel
theorem dX1_init_23 : decode cX1_init 23 = .ok (.iconst 0, 1) := by decide +kernel
theorem dX1_init_24 : decode cX1_init 24 = .ok (.istore_n 1, 1) := by decide +kernel
theorem dX1_init_25 : decode cX1_init 25 = .ok (.iload_n 1, 1) := by decide +kernel
theorem dX1_init_26 : decode cX1_init 26 = .ok (.bipush 7, 2) := by decide +kernel
theorem dX1_init_28 : decode cX1_init 28 = .ok (.if_icmp .ge 22, 3) := by decide +kernel
theorem dX1_init_31 : decode cX1_init 31 = .ok (.aload_n 0, 1) := by decide +kernel
theorem dX1_init_32 : decode cX1_init 32 = .ok (.getfield 13, 3) := by decide +kernel
theorem dX1_init_35 : decode cX1_init 35 = .ok (.iload_n 1, 1) := by decide +kernel
theorem dX1_init_36 : decode cX1_init 36 = .ok (.new 11, 3) := by decide +kernel
theorem dX1_init_39 : decode cX1_init 39 = .ok (.dup, 1) := by decide +kernel
theorem dX1_init_40 : decode cX1_init 40 = .ok (.invokespecial 24, 3) := by decide +kernel
theorem dX1_init_43 : decode cX1_init 43 = .ok (.aastore, 1) := by decide +kernel
theorem dX1_init_44 : decode cX1_init 44 = .ok (.iinc 1 1, 3) := by decide +kernel
theorem dX1_init_47 : decode cX1_init 47 = .ok (.goto (-22), 3) := by decide +kernel
theorem dX1_init_50 : decode cX1_init 50 = .ok (.return_, 1) := by decide +kernel
set_option maxRecDepth 20000 in
theorem ggX1_prepare_X5_copyFrom : GoodIn wsX1_prepare wsX5_copyFrom := goodIn_r _ [7, 8, 9, 10, 11, 12, 13, 14, 15, 16, 17, 18, 19, 20, 21, 22, 23, 24, 25, 26, 27, 28, 29, 30, 31, 32, 33, 34, 35, 36, 37, 38, 39, 43, 44, 45, 46, 47, 48, 49, 50, 51, 52, 53, 54, 55, 56, 57, 58, 59] (by decide +kernel) (by decide +kernel)
set_option maxRecDepth 20000 in
theorem gX1_prepare_X5_copyFrom : GoodIn wsX1_prepare (wsV RX1 25 RX5 yX5_copyFrom wsX5_copyFrom) := goodIn_app (goodIn_of _ (by decide +kernel)) ggX1_prepare_X5_copyFrom
theorem dX1_prepare_0 : decode cX1_prepare 0 = .ok (.aload_n 0, 1) := by decide +kernel
theorem dX1_prepare_1 : decode cX1_prepare 1 = .ok (.getfield 13, 3) := by decide +kernel
theorem dX1_prepare_4 : decode cX1_prepare 4 = .ok (.aload_n 0, 1) := by decide +kernel
theorem dX1_prepare_5 : decode cX1_prepare 5 = .ok (.getfield 17, 3) := by decide +kernel
theorem dX1_prepare_8 : decode cX1_prepare 8 = .ok (.aaload, 1) := by decide +kernel
theorem dX1_prepare_9 : decode cX1_prepare 9 = .ok (.aload_n 1, 1) := by decide +kernel
theorem dX1_prepare_10 : decode cX1_prepare 10 = .ok (.invokevirtual 25, 3) := by decide +kernel
theorem dX1_prepare_13 : decode cX1_prepare 13 = .ok (.return_, 1) := by decide +kernel
theorem dX1_kept_0 : decode cX1_kept 0 = .ok (.iload_n 1, 1) := by decide +kernel
theorem dX1_kept_1 : decode cX1_kept 1 = .ok (.ifCond .lt 31, 3) := by decide +kernel
theorem dX1_kept_4 : decode cX1_kept 4 = .ok (.aload_n 0, 1) := by decide +kernel
theorem dX1_kept_5 : decode cX1_kept 5 = .ok (.aload_n 0, 1) := by decide +kernel
theorem dX1_kept_6 : decode cX1_kept 6 = .ok (.getfield 17, 3) := by decide +kernel
theorem dX1_kept_9 : decode cX1_kept 9 = .ok (.iconst 1, 1) := by decide +kernel
theorem dX1_kept_10 : decode cX1_kept 10 = .ok (.iadd, 1) := by decide +kernel
theorem dX1_kept_11 : decode cX1_kept 11 = .ok (.bipush 7, 2) := by decide +kernel
theorem dX1_kept_13 : decode cX1_kept 13 = .ok (.irem, 1) := by decide +kernel
theorem dX1_kept_14 : decode cX1_kept 14 = .ok (.putfield 17, 3) := by decide +kernel
theorem dX1_kept_17 : decode cX1_kept 17 = .ok (.aload_n 0, 1) := by decide +kernel
theorem dX1_kept_18 : decode cX1_kept 18 = .ok (.bipush 6, 2) := by decide +kernel
theorem dX1_kept_20 : decode cX1_kept 20 = .ok (.aload_n 0, 1) := by decide +kernel
theorem dX1_kept_21 : decode cX1_kept 21 = .ok (.getfield 21, 3) := by decide +kernel
theorem dX1_kept_24 : decode cX1_kept 24 = .ok (.iconst 1, 1) := by decide +kernel
theorem dX1_kept_25 : decode cX1_kept 25 = .ok (.iadd, 1) := by decide +kernel
theorem dX1_kept_26 : decode cX1_kept 26 = .ok (.invokestatic 29, 3) := by decide +kernel
theorem dX1_kept_29 : decode cX1_kept 29 = .ok (.putfield 21, 3) := by decide +kernel
theorem dX1_kept_32 : decode cX1_kept 32 = .ok (.iload_n 1, 1) := by decide +kernel
theorem dX1_kept_33 : decode cX1_kept 33 = .ok (.ireturn, 1) := by decide +kernel
set_option maxRecDepth 20000 in
theorem ggX1_takeBack_X5_copyFrom : GoodIn wsX1_takeBack wsX5_copyFrom := goodIn_r _ [8, 9, 10, 11, 12, 13, 14, 15, 16, 17, 18, 19, 20, 21, 22, 23, 24, 25, 26, 27, 28, 29, 30, 31, 32, 33, 34, 35, 36, 37, 38, 39, 40, 44, 45, 46, 47, 48, 49, 50, 51, 52, 53, 54, 55, 56, 57, 58, 59, 60] (by decide +kernel) (by decide +kernel)
set_option maxRecDepth 20000 in
theorem gX1_takeBack_X5_copyFrom : GoodIn wsX1_takeBack (wsV RX1 25 RX5 yX5_copyFrom wsX5_copyFrom) := goodIn_app (goodIn_of _ (by decide +kernel)) ggX1_takeBack_X5_copyFrom
theorem dX1_takeBack_0 : decode cX1_takeBack 0 = .ok (.aload_n 0, 1) := by decide +kernel
theorem dX1_takeBack_1 : decode cX1_takeBack 1 = .ok (.getfield 21, 3) := by decide +kernel
theorem dX1_takeBack_4 : decode cX1_takeBack 4 = .ok (.ifCond .gt 5, 3) := by decide +kernel
theorem dX1_takeBack_7 : decode cX1_takeBack 7 = .ok (.iconst 0, 1) := by decide +kernel
theorem dX1_takeBack_8 : decode cX1_takeBack 8 = .ok (.ireturn, 1) := by decide +kernel
theorem dX1_takeBack_9 : decode cX1_takeBack 9 = .ok (.aload_n 0, 1) := by decide +kernel
theorem dX1_takeBack_10 : decode cX1_takeBack 10 = .ok (.aload_n 0, 1) := by decide +kernel
theorem dX1_takeBack_11 : decode cX1_takeBack 11 = .ok (.getfield 17, 3) := by decide +kernel
theorem dX1_takeBack_14 : decode cX1_takeBack 14 = .ok (.bipush 7, 2) := by decide +kernel
theorem dX1_takeBack_16 : decode cX1_takeBack 16 = .ok (.iadd, 1) := by decide +kernel
theorem dX1_takeBack_17 : decode cX1_takeBack 17 = .ok (.iconst 1, 1) := by decide +kernel
theorem dX1_takeBack_18 : decode cX1_takeBack 18 = .ok (.isub, 1) := by decide +kernel
theorem dX1_takeBack_19 : decode cX1_takeBack 19 = .ok (.bipush 7, 2) := by decide +kernel
theorem dX1_takeBack_21 : decode cX1_takeBack 21 = .ok (.irem, 1) := by decide +kernel
theorem dX1_takeBack_22 : decode cX1_takeBack 22 = .ok (.putfield 17, 3) := by decide +kernel
theorem dX1_takeBack_25 : decode cX1_takeBack 25 = .ok (.aload_n 0, 1) := by decide +kernel
theorem dX1_takeBack_26 : decode cX1_takeBack 26 = .ok (.dup, 1) := by decide +kernel
theorem dX1_takeBack_27 : decode cX1_takeBack 27 = .ok (.getfield 21, 3) := by decide +kernel
theorem dX1_takeBack_30 : decode cX1_takeBack 30 = .ok (.iconst 1, 1) := by decide +kernel
theorem dX1_takeBack_31 : decode cX1_takeBack 31 = .ok (.isub, 1) := by decide +kernel
theorem dX1_takeBack_32 : decode cX1_takeBack 32 = .ok (.putfield 21, 3) := by decide +kernel
theorem dX1_takeBack_35 : decode cX1_takeBack 35 = .ok (.aload_n 1, 1) := by decide +kernel
theorem dX1_takeBack_36 : decode cX1_takeBack 36 = .ok (.aload_n 0, 1) := by decide +kernel
theorem dX1_takeBack_37 : decode cX1_takeBack 37 = .ok (.getfield 13, 3) := by decide +kernel
theorem dX1_takeBack_40 : decode cX1_takeBack 40 = .ok (.aload_n 0, 1) := by decide +kernel
theorem dX1_takeBack_41 : decode cX1_takeBack 41 = .ok (.getfield 17, 3) := by decide +kernel
theorem dX1_takeBack_44 : decode cX1_takeBack 44 = .ok (.aaload, 1) := by decide +kernel
theorem dX1_takeBack_45 : decode cX1_takeBack 45 = .ok (.invokevirtual 25, 3) := by decide +kernel
theorem dX1_takeBack_48 : decode cX1_takeBack 48 = .ok (.iconst 1, 1) := by decide +kernel
theorem dX1_takeBack_49 : decode cX1_takeBack 49 = .ok (.ireturn, 1) := by decide +kernel
set_option maxRecDepth 20000 in
theorem ggX2_init_J7_fill_53178 : GoodIn wsX2_init wsJ7_fill_53178 := goodIn_r _ [13] (by decide +kernel) (by decide +kernel)
set_option maxRecDepth 20000 in
theorem gX2_init_J7_fill_53178 : GoodIn wsX2_init (va_wsS RX2 27 yJ7_fill_53178 wsJ7_fill_53178) := goodIn_app (goodIn_of _ (by decide +kernel)) ggX2_init_J7_fill_53178
theorem dX2_init_0 : decode cX2_init 0 = .ok (.aload_n 0, 1) := by decide +kernel
theorem dX2_init_1 : decode cX2_init 1 = .ok (.invokespecial 3, 3) := by decide +kernel
theorem dX2_init_4 : decode cX2_init 4 = .ok (.aload_n 0, 1) := by decide +kernel
theorem dX2_init_5 : decode cX2_init 5 = .ok (.bipush 16, 2) := by decide +kernel
theorem dX2_init_7 : decode cX2_init 7 = .ok (.newarray .int, 2) := by decide +kernel
theorem dX2_init_9 : decode cX2_init 9 = .ok (.putfield 9, 3) := by decide +kernel
theorem dX2_init_12 : decode cX2_init 12 = .ok (.aload_n 0, 1) := by decide +kernel
theorem dX2_init_13 : decode cX2_init 13 = .ok (.iconst 3, 1) := by decide +kernel
theorem dX2_init_14 : decode cX2_init 14 = .ok (.bipush 16, 2) := by decide +kernel
theorem dX2_init_16 : decode cX2_init 16 = .ok (.multianewarray 15 2, 4) := by decide +kernel
theorem dX2_init_20 : decode cX2_init 20 = .ok (.putfield 17, 3) := by decide +kernel
theorem dX2_init_23 : decode cX2_init 23 = .ok (.aload_n 0, 1) := by decide +kernel
theorem dX2_init_24 : decode cX2_init 24 = .ok (.iconst 3, 1) := by decide +kernel
theorem dX2_init_25 : decode cX2_init 25 = .ok (.newarray .int, 2) := by decide +kernel
theorem dX2_init_27 : decode cX2_init 27 = .ok (.putfield 20, 3) := by decide +kernel
theorem dX2_init_30 : decode cX2_init 30 = .ok (.aload_n 0, 1) := by decide +kernel
theorem dX2_init_31 : decode cX2_init 31 = .ok (.iconst 0, 1) := by decide +kernel
theorem dX2_init_32 : decode cX2_init 32 = .ok (.putfield 23, 3) := by decide +kernel
theorem dX2_init_35 : decode cX2_init 35 = .ok (.aload_n 0, 1) := by decide +kernel
theorem dX2_init_36 : decode cX2_init 36 = .ok (.getfield 20, 3) := by decide +kernel
theorem dX2_init_39 : decode cX2_init 39 = .ok (.bipush 50, 2) := by decide +kernel
theorem dX2_init_41 : decode cX2_init 41 = .ok (.invokestatic 27, 3) := by decide +kernel
theorem dX2_init_44 : decode cX2_init 44 = .ok (.return_, 1) := by decide +kernel
theorem dX2_copyFrom_0 : decode cX2_copyFrom 0 = .ok (.aload_n 1, 1) := by decide +kernel
theorem dX2_copyFrom_1 : decode cX2_copyFrom 1 = .ok (.getfield 9, 3) := by decide +kernel
theorem dX2_copyFrom_4 : decode cX2_copyFrom 4 = .ok (.iconst 0, 1) := by decide +kernel
theorem dX2_copyFrom_5 : decode cX2_copyFrom 5 = .ok (.aload_n 0, 1) := by decide +kernel
theorem dX2_copyFrom_6 : decode cX2_copyFrom 6 = .ok (.getfield 9, 3) := by decide +kernel
theorem dX2_copyFrom_9 : decode cX2_copyFrom 9 = .ok (.iconst 0, 1) := by decide +kernel
theorem dX2_copyFrom_10 : decode cX2_copyFrom 10 = .ok (.bipush 16, 2) := by decide +kernel
theorem dX2_copyFrom_12 : decode cX2_copyFrom 12 = .ok (.invokestatic 33, 3) := by decide +kernel
theorem dX2_copyFrom_15 : decode cX2_copyFrom 15 = .ok (.iconst 0, 1) := by decide +kernel
theorem dX2_copyFrom_16 : decode cX2_copyFrom 16 = .ok (.istore_n 2, 1) := by decide +kernel
theorem dX2_copyFrom_17 : decode cX2_copyFrom 17 = .ok (.iload_n 2, 1) := by decide +kernel
theorem dX2_copyFrom_18 : decode cX2_copyFrom 18 = .ok (.iconst 3, 1) := by decide +kernel
theorem dX2_copyFrom_19 : decode cX2_copyFrom 19 = .ok (.if_icmp .ge 28, 3) := by decide +kernel
theorem dX2_copyFrom_22 : decode cX2_copyFrom 22 = .ok (.aload_n 1, 1) := by decide +kernel
theorem dX2_copyFrom_23 : decode cX2_copyFrom 23 = .ok (.getfield 17, 3) := by decide +kernel
theorem dX2_copyFrom_26 : decode cX2_copyFrom 26 = .ok (.iload_n 2, 1) := by decide +kernel
theorem dX2_copyFrom_27 : decode cX2_copyFrom 27 = .ok (.aaload, 1) := by decide +kernel
theorem dX2_copyFrom_28 : decode cX2_copyFrom 28 = .ok (.iconst 0, 1) := by decide +kernel
theorem dX2_copyFrom_29 : decode cX2_copyFrom 29 = .ok (.aload_n 0, 1) := by decide +kernel
theorem dX2_copyFrom_30 : decode cX2_copyFrom 30 = .ok (.getfield 17, 3) := by decide +kernel
theorem dX2_copyFrom_33 : decode cX2_copyFrom 33 = .ok (.iload_n 2, 1) := by decide +kernel
theorem dX2_copyFrom_34 : decode cX2_copyFrom 34 = .ok (.aaload, 1) := by decide +kernel
theorem dX2_copyFrom_35 : decode cX2_copyFrom 35 = .ok (.iconst 0, 1) := by decide +kernel
theorem dX2_copyFrom_36 : decode cX2_copyFrom 36 = .ok (.bipush 16, 2) := by decide +kernel
theorem dX2_copyFrom_38 : decode cX2_copyFrom 38 = .ok (.invokestatic 33, 3) := by decide +kernel
theorem dX2_copyFrom_41 : decode cX2_copyFrom 41 = .ok (.iinc 2 1, 3) := by decide +kernel
theorem dX2_copyFrom_44 : decode cX2_copyFrom 44 = .ok (.goto (-27), 3) := by decide +kernel
theorem dX2_copyFrom_47 : decode cX2_copyFrom 47 = .ok (.aload_n 1, 1) := by decide +kernel
theorem dX2_copyFrom_48 : decode cX2_copyFrom 48 = .ok (.getfield 20, 3) := by decide +kernel
theorem dX2_copyFrom_51 : decode cX2_copyFrom 51 = .ok (.iconst 0, 1) := by decide +kernel
theorem dX2_copyFrom_52 : decode cX2_copyFrom 52 = .ok (.aload_n 0, 1) := by decide +kernel
theorem dX2_copyFrom_53 : decode cX2_copyFrom 53 = .ok (.getfield 20, 3) := by decide +kernel
theorem dX2_copyFrom_56 : decode cX2_copyFrom 56 = .ok (.iconst 0, 1) := by decide +kernel
theorem dX2_copyFrom_57 : decode cX2_copyFrom 57 = .ok (.iconst 3, 1) := by decide +kernel
theorem dX2_copyFrom_58 : decode cX2_copyFrom 58 = .ok (.invokestatic 33, 3) := by decide +kernel
theorem dX2_copyFrom_61 : decode cX2_copyFrom 61 = .ok (.aload_n 0, 1) := by decide +kernel
theorem dX2_copyFrom_62 : decode cX2_copyFrom 62 = .ok (.aload_n 1, 1) := by decide +kernel
theorem dX2_copyFrom_63 : decode cX2_copyFrom 63 = .ok (.getfield 23, 3) := by decide +kernel
theorem dX2_copyFrom_66 : decode cX2_copyFrom 66 = .ok (.putfield 23, 3) := by decide +kernel
theorem dX2_copyFrom_69 : decode cX2_copyFrom 69 = .ok (.return_, 1) := by decide +kernel
set_option maxRecDepth 20000 in
theorem ggX2_has_X6_within : GoodIn wsX2_has wsX6_within := goodIn_r _ [4] (by decide +kernel) (by decide +kernel)
set_option maxRecDepth 20000 in
theorem gX2_has_X6_within_n39 : GoodIn wsX2_has (wsX6_within) := ggX2_has_X6_within
theorem dX2_has_0 : decode cX2_has 0 = .ok (.iload_n 1, 1) := by decide +kernel
theorem dX2_has_1 : decode cX2_has 1 = .ok (.iconst 0, 1) := by decide +kernel
theorem dX2_has_2 : decode cX2_has 2 = .ok (.aload_n 0, 1) := by decide +kernel
theorem dX2_has_3 : decode cX2_has 3 = .ok (.getfield 23, 3) := by decide +kernel
theorem dX2_has_6 : decode cX2_has 6 = .ok (.iconst 1, 1) := by decide +kernel
theorem dX2_has_7 : decode cX2_has 7 = .ok (.isub, 1) := by decide +kernel
theorem dX2_has_8 : decode cX2_has 8 = .ok (.invokestatic 39, 3) := by decide +kernel
theorem dX2_has_11 : decode cX2_has 11 = .ok (.ireturn, 1) := by decide +kernel
theorem dX2_isFull_0 : decode cX2_isFull 0 = .ok (.aload_n 0, 1) := by decide +kernel
theorem dX2_isFull_1 : decode cX2_isFull 1 = .ok (.getfield 23, 3) := by decide +kernel
theorem dX2_isFull_4 : decode cX2_isFull 4 = .ok (.bipush 16, 2) := by decide +kernel
theorem dX2_isFull_6 : decode cX2_isFull 6 = .ok (.if_icmp .lt 7, 3) := by decide +kernel
theorem dX2_isFull_9 : decode cX2_isFull 9 = .ok (.iconst 1, 1) := by decide +kernel
theorem dX2_isFull_10 : decode cX2_isFull 10 = .ok (.goto 4, 3) := by decide +kernel
theorem dX2_isFull_13 : decode cX2_isFull 13 = .ok (.iconst 0, 1) := by decide +kernel
theorem dX2_isFull_14 : decode cX2_isFull 14 = .ok (.ireturn, 1) := by decide +kernel
set_option maxRecDepth 20000 in
theorem ggX2_append_X2_isFull : GoodIn wsX2_append wsX2_isFull := goodIn_r _ [8, 2, 9, 10, 11, 12] (by decide +kernel) (by decide +kernel)
set_option maxRecDepth 20000 in
theorem gX2_append_X2_isFull : GoodIn wsX2_append (wsV RX2 43 RX2 yX2_isFull wsX2_isFull) := goodIn_app (goodIn_of _ (by decide +kernel)) ggX2_append_X2_isFull
theorem dX2_append_0 : decode cX2_append 0 = .ok (.aload_n 0, 1) := by decide +kernel
theorem dX2_append_1 : decode cX2_append 1 = .ok (.invokevirtual 43, 3) := by decide +kernel
theorem dX2_append_4 : decode cX2_append 4 = .ok (.ifCond .eq 4, 3) := by decide +kernel
theorem dX2_append_7 : decode cX2_append 7 = .ok (.return_, 1) := by decide +kernel
theorem dX2_append_8 : decode cX2_append 8 = .ok (.aload_n 0, 1) := by decide +kernel
theorem dX2_append_9 : decode cX2_append 9 = .ok (.getfield 9, 3) := by decide +kernel
theorem dX2_append_12 : decode cX2_append 12 = .ok (.aload_n 0, 1) := by decide +kernel
theorem dX2_append_13 : decode cX2_append 13 = .ok (.getfield 23, 3) := by decide +kernel
theorem dX2_append_16 : decode cX2_append 16 = .ok (.iload_n 1, 1) := by decide +kernel
theorem dX2_append_17 : decode cX2_append 17 = .ok (.iastore, 1) := by decide +kernel
theorem dX2_append_18 : decode cX2_append 18 = .ok (.aload_n 0, 1) := by decide +kernel
theorem dX2_append_19 : decode cX2_append 19 = .ok (.getfield 17, 3) := by decide +kernel
theorem dX2_append_22 : decode cX2_append 22 = .ok (.iconst 0, 1) := by decide +kernel
theorem dX2_append_23 : decode cX2_append 23 = .ok (.aaload, 1) := by decide +kernel
theorem dX2_append_24 : decode cX2_append 24 = .ok (.aload_n 0, 1) := by decide +kernel
theorem dX2_append_25 : decode cX2_append 25 = .ok (.getfield 23, 3) := by decide +kernel
theorem dX2_append_28 : decode cX2_append 28 = .ok (.iload_n 2, 1) := by decide +kernel
theorem dX2_append_29 : decode cX2_append 29 = .ok (.iastore, 1) := by decide +kernel
theorem dX2_append_30 : decode cX2_append 30 = .ok (.aload_n 0, 1) := by decide +kernel
theorem dX2_append_31 : decode cX2_append 31 = .ok (.getfield 17, 3) := by decide +kernel
theorem dX2_append_34 : decode cX2_append 34 = .ok (.iconst 1, 1) := by decide +kernel
theorem dX2_append_35 : decode cX2_append 35 = .ok (.aaload, 1) := by decide +kernel
theorem dX2_append_36 : decode cX2_append 36 = .ok (.aload_n 0, 1) := by decide +kernel
theorem dX2_append_37 : decode cX2_append 37 = .ok (.getfield 23, 3) := by decide +kernel
theorem dX2_append_40 : decode cX2_append 40 = .ok (.iload_n 3, 1) := by decide +kernel
theorem dX2_append_41 : decode cX2_append 41 = .ok (.iastore, 1) := by decide +kernel
theorem dX2_append_42 : decode cX2_append 42 = .ok (.aload_n 0, 1) := by decide +kernel
theorem dX2_append_43 : decode cX2_append 43 = .ok (.getfield 17, 3) := by decide +kernel
theorem dX2_append_46 : decode cX2_append 46 = .ok (.iconst 2, 1) := by decide +kernel
theorem dX2_append_47 : decode cX2_append 47 = .ok (.aaload, 1) := by decide +kernel
theorem dX2_append_48 : decode cX2_append 48 = .ok (.aload_n 0, 1) := by decide +kernel
theorem dX2_append_49 : decode cX2_append 49 = .ok (.getfield 23, 3) := by decide +kernel
theorem dX2_append_52 : decode cX2_append 52 = .ok (.iload 4, 2) := by decide +kernel
theorem dX2_append_54 : decode cX2_append 54 = .ok (.iastore, 1) := by decide +kernel
theorem dX2_append_55 : decode cX2_append 55 = .ok (.aload_n 0, 1) := by decide +kernel
theorem dX2_append_56 : decode cX2_append 56 = .ok (.dup, 1) := by decide +kernel
theorem dX2_append_57 : decode cX2_append 57 = .ok (.getfield 23, 3) := by decide +kernel
theorem dX2_append_60 : decode cX2_append 60 = .ok (.iconst 1, 1) := by decide +kernel
theorem dX2_append_61 : decode cX2_append 61 = .ok (.iadd, 1) := by decide +kernel
theorem dX2_append_62 : decode cX2_append 62 = .ok (.putfield 23, 3) := by decide +kernel
theorem dX2_append_65 : decode cX2_append 65 = .ok (.return_, 1) := by decide +kernel
set_option maxRecDepth 20000 in
theorem ggX2_remove_X2_has : GoodIn wsX2_remove wsX2_has := goodIn_r _ [12, 1, 13, 14, 15, 16, 17, 18, 19] (by decide +kernel) (by decide +kernel)
set_option maxRecDepth 20000 in
theorem gX2_remove_X2_has : GoodIn wsX2_remove (wsV RX2 47 RX2 yX2_has wsX2_has) := goodIn_app (goodIn_of _ (by decide +kernel)) ggX2_remove_X2_has
theorem dX2_remove_0 : decode cX2_remove 0 = .ok (.aload_n 0, 1) := by decide +kernel
theorem dX2_remove_1 : decode cX2_remove 1 = .ok (.iload_n 1, 1) := by decide +kernel
theorem dX2_remove_2 : decode cX2_remove 2 = .ok (.invokevirtual 47, 3) := by decide +kernel
theorem dX2_remove_5 : decode cX2_remove 5 = .ok (.ifCond .ne 4, 3) := by decide +kernel
theorem dX2_remove_8 : decode cX2_remove 8 = .ok (.return_, 1) := by decide +kernel
theorem dX2_remove_9 : decode cX2_remove 9 = .ok (.aload_n 0, 1) := by decide +kernel
theorem dX2_remove_10 : decode cX2_remove 10 = .ok (.getfield 23, 3) := by decide +kernel
theorem dX2_remove_13 : decode cX2_remove 13 = .ok (.iload_n 1, 1) := by decide +kernel
theorem dX2_remove_14 : decode cX2_remove 14 = .ok (.isub, 1) := by decide +kernel
theorem dX2_remove_15 : decode cX2_remove 15 = .ok (.iconst 1, 1) := by decide +kernel
theorem dX2_remove_16 : decode cX2_remove 16 = .ok (.isub, 1) := by decide +kernel
theorem dX2_remove_17 : decode cX2_remove 17 = .ok (.istore_n 2, 1) := by decide +kernel
theorem dX2_remove_18 : decode cX2_remove 18 = .ok (.aload_n 0, 1) := by decide +kernel
theorem dX2_remove_19 : decode cX2_remove 19 = .ok (.getfield 9, 3) := by decide +kernel
theorem dX2_remove_22 : decode cX2_remove 22 = .ok (.iload_n 1, 1) := by decide +kernel
theorem dX2_remove_23 : decode cX2_remove 23 = .ok (.iconst 1, 1) := by decide +kernel
theorem dX2_remove_24 : decode cX2_remove 24 = .ok (.iadd, 1) := by decide +kernel
theorem dX2_remove_25 : decode cX2_remove 25 = .ok (.aload_n 0, 1) := by decide +kernel
theorem dX2_remove_26 : decode cX2_remove 26 = .ok (.getfield 9, 3) := by decide +kernel
theorem dX2_remove_29 : decode cX2_remove 29 = .ok (.iload_n 1, 1) := by decide +kernel
theorem dX2_remove_30 : decode cX2_remove 30 = .ok (.iload_n 2, 1) := by decide +kernel
theorem dX2_remove_31 : decode cX2_remove 31 = .ok (.invokestatic 33, 3) := by decide +kernel
theorem dX2_remove_34 : decode cX2_remove 34 = .ok (.aload_n 0, 1) := by decide +kernel
theorem dX2_remove_35 : decode cX2_remove 35 = .ok (.getfield 17, 3) := by decide +kernel
theorem dX2_remove_38 : decode cX2_remove 38 = .ok (.astore_n 3, 1) := by decide +kernel
theorem dX2_remove_39 : decode cX2_remove 39 = .ok (.aload_n 3, 1) := by decide +kernel
theorem dX2_remove_40 : decode cX2_remove 40 = .ok (.arraylength, 1) := by decide +kernel
theorem dX2_remove_41 : decode cX2_remove 41 = .ok (.istore 4, 2) := by decide +kernel
theorem dX2_remove_43 : decode cX2_remove 43 = .ok (.iconst 0, 1) := by decide +kernel
theorem dX2_remove_44 : decode cX2_remove 44 = .ok (.istore 5, 2) := by decide +kernel
theorem dX2_remove_46 : decode cX2_remove 46 = .ok (.iload 5, 2) := by decide +kernel
theorem dX2_remove_48 : decode cX2_remove 48 = .ok (.iload 4, 2) := by decide +kernel
theorem dX2_remove_50 : decode cX2_remove 50 = .ok (.if_icmp .ge 27, 3) := by decide +kernel
theorem dX2_remove_53 : decode cX2_remove 53 = .ok (.aload_n 3, 1) := by decide +kernel
theorem dX2_remove_54 : decode cX2_remove 54 = .ok (.iload 5, 2) := by decide +kernel
theorem dX2_remove_56 : decode cX2_remove 56 = .ok (.aaload, 1) := by decide +kernel
theorem dX2_remove_57 : decode cX2_remove 57 = .ok (.astore 6, 2) := by decide +kernel
theorem dX2_remove_59 : decode cX2_remove 59 = .ok (.aload 6, 2) := by decide +kernel
theorem dX2_remove_61 : decode cX2_remove 61 = .ok (.iload_n 1, 1) := by decide +kernel
theorem dX2_remove_62 : decode cX2_remove 62 = .ok (.iconst 1, 1) := by decide +kernel
theorem dX2_remove_63 : decode cX2_remove 63 = .ok (.iadd, 1) := by decide +kernel
theorem dX2_remove_64 : decode cX2_remove 64 = .ok (.aload 6, 2) := by decide +kernel
theorem dX2_remove_66 : decode cX2_remove 66 = .ok (.iload_n 1, 1) := by decide +kernel
theorem dX2_remove_67 : decode cX2_remove 67 = .ok (.iload_n 2, 1) := by decide +kernel
theorem dX2_remove_68 : decode cX2_remove 68 = .ok (.invokestatic 33, 3) := by decide +kernel
theorem dX2_remove_71 : decode cX2_remove 71 = .ok (.iinc 5 1, 3) := by decide +kernel
theorem dX2_remove_74 : decode cX2_remove 74 = .ok (.goto (-28), 3) := by decide +kernel
theorem dX2_remove_77 : decode cX2_remove 77 = .ok (.aload_n 0, 1) := by decide +kernel
theorem dX2_remove_78 : decode cX2_remove 78 = .ok (.dup, 1) := by decide +kernel
theorem dX2_remove_79 : decode cX2_remove 79 = .ok (.getfield 23, 3) := by decide +kernel
theorem dX2_remove_82 : decode cX2_remove 82 = .ok (.iconst 1, 1) := by decide +kernel
theorem dX2_remove_83 : decode cX2_remove 83 = .ok (.isub, 1) := by decide +kernel
theorem dX2_remove_84 : decode cX2_remove 84 = .ok (.putfield 23, 3) := by decide +kernel
theorem dX2_remove_87 : decode cX2_remove 87 = .ok (.return_, 1) := by decide +kernel
set_option maxRecDepth 20000 in
theorem ggX2_worthIn_X6_isIn : GoodIn wsX2_worthIn wsX6_isIn := goodIn_r _ [5] (by decide +kernel) (by decide +kernel)
set_option maxRecDepth 20000 in
theorem gX2_worthIn_X6_isIn_n51 : GoodIn wsX2_worthIn (wsX6_isIn) := ggX2_worthIn_X6_isIn
theorem dX2_worthIn_0 : decode cX2_worthIn 0 = .ok (.iconst 0, 1) := by decide +kernel
theorem dX2_worthIn_1 : decode cX2_worthIn 1 = .ok (.istore_n 2, 1) := by decide +kernel
theorem dX2_worthIn_2 : decode cX2_worthIn 2 = .ok (.iconst 0, 1) := by decide +kernel
theorem dX2_worthIn_3 : decode cX2_worthIn 3 = .ok (.istore_n 3, 1) := by decide +kernel
theorem dX2_worthIn_4 : decode cX2_worthIn 4 = .ok (.iload_n 3, 1) := by decide +kernel
theorem dX2_worthIn_5 : decode cX2_worthIn 5 = .ok (.aload_n 0, 1) := by decide +kernel
theorem dX2_worthIn_6 : decode cX2_worthIn 6 = .ok (.getfield 23, 3) := by decide +kernel
theorem dX2_worthIn_9 : decode cX2_worthIn 9 = .ok (.if_icmp .ge 30, 3) := by decide +kernel
theorem dX2_worthIn_12 : decode cX2_worthIn 12 = .ok (.iload_n 2, 1) := by decide +kernel
theorem dX2_worthIn_13 : decode cX2_worthIn 13 = .ok (.iload_n 3, 1) := by decide +kernel
theorem dX2_worthIn_14 : decode cX2_worthIn 14 = .ok (.iload_n 1, 1) := by decide +kernel
theorem dX2_worthIn_15 : decode cX2_worthIn 15 = .ok (.invokestatic 51, 3) := by decide +kernel
theorem dX2_worthIn_18 : decode cX2_worthIn 18 = .ok (.ifCond .eq 12, 3) := by decide +kernel
theorem dX2_worthIn_21 : decode cX2_worthIn 21 = .ok (.aload_n 0, 1) := by decide +kernel
theorem dX2_worthIn_22 : decode cX2_worthIn 22 = .ok (.getfield 9, 3) := by decide +kernel
theorem dX2_worthIn_25 : decode cX2_worthIn 25 = .ok (.iload_n 3, 1) := by decide +kernel
theorem dX2_worthIn_26 : decode cX2_worthIn 26 = .ok (.iaload, 1) := by decide +kernel
theorem dX2_worthIn_27 : decode cX2_worthIn 27 = .ok (.goto 4, 3) := by decide +kernel
theorem dX2_worthIn_30 : decode cX2_worthIn 30 = .ok (.iconst 0, 1) := by decide +kernel
theorem dX2_worthIn_31 : decode cX2_worthIn 31 = .ok (.iadd, 1) := by decide +kernel
theorem dX2_worthIn_32 : decode cX2_worthIn 32 = .ok (.istore_n 2, 1) := by decide +kernel
theorem dX2_worthIn_33 : decode cX2_worthIn 33 = .ok (.iinc 3 1, 3) := by decide +kernel
theorem dX2_worthIn_36 : decode cX2_worthIn 36 = .ok (.goto (-32), 3) := by decide +kernel
theorem dX2_worthIn_39 : decode cX2_worthIn 39 = .ok (.iload_n 2, 1) := by decide +kernel
theorem dX2_worthIn_40 : decode cX2_worthIn 40 = .ok (.ireturn, 1) := by decide +kernel
set_option maxRecDepth 20000 in
theorem ggX2_use_X6_isIn : GoodIn wsX2_use wsX6_isIn := goodIn_r _ [5] (by decide +kernel) (by decide +kernel)
set_option maxRecDepth 20000 in
theorem gX2_use_X6_isIn_n51 : GoodIn wsX2_use (wsX6_isIn) := ggX2_use_X6_isIn
theorem dX2_use_0 : decode cX2_use 0 = .ok (.aload_n 0, 1) := by decide +kernel
theorem dX2_use_1 : decode cX2_use 1 = .ok (.getfield 17, 3) := by decide +kernel
theorem dX2_use_4 : decode cX2_use 4 = .ok (.iload_n 2, 1) := by decide +kernel
theorem dX2_use_5 : decode cX2_use 5 = .ok (.aaload, 1) := by decide +kernel
theorem dX2_use_6 : decode cX2_use 6 = .ok (.astore_n 3, 1) := by decide +kernel
theorem dX2_use_7 : decode cX2_use 7 = .ok (.iconst 0, 1) := by decide +kernel
theorem dX2_use_8 : decode cX2_use 8 = .ok (.istore 4, 2) := by decide +kernel
theorem dX2_use_10 : decode cX2_use 10 = .ok (.iconst 0, 1) := by decide +kernel
theorem dX2_use_11 : decode cX2_use 11 = .ok (.istore 5, 2) := by decide +kernel
theorem dX2_use_13 : decode cX2_use 13 = .ok (.iload 5, 2) := by decide +kernel
theorem dX2_use_15 : decode cX2_use 15 = .ok (.aload_n 0, 1) := by decide +kernel
theorem dX2_use_16 : decode cX2_use 16 = .ok (.getfield 23, 3) := by decide +kernel
theorem dX2_use_19 : decode cX2_use 19 = .ok (.if_icmp .ge 31, 3) := by decide +kernel
theorem dX2_use_22 : decode cX2_use 22 = .ok (.iload 4, 2) := by decide +kernel
theorem dX2_use_24 : decode cX2_use 24 = .ok (.iload 5, 2) := by decide +kernel
theorem dX2_use_26 : decode cX2_use 26 = .ok (.iload_n 1, 1) := by decide +kernel
theorem dX2_use_27 : decode cX2_use 27 = .ok (.invokestatic 51, 3) := by decide +kernel
theorem dX2_use_30 : decode cX2_use 30 = .ok (.ifCond .eq 10, 3) := by decide +kernel
theorem dX2_use_33 : decode cX2_use 33 = .ok (.aload_n 3, 1) := by decide +kernel
theorem dX2_use_34 : decode cX2_use 34 = .ok (.iload 5, 2) := by decide +kernel
theorem dX2_use_36 : decode cX2_use 36 = .ok (.iaload, 1) := by decide +kernel
theorem dX2_use_37 : decode cX2_use 37 = .ok (.goto 4, 3) := by decide +kernel
theorem dX2_use_40 : decode cX2_use 40 = .ok (.iconst 0, 1) := by decide +kernel
theorem dX2_use_41 : decode cX2_use 41 = .ok (.iadd, 1) := by decide +kernel
theorem dX2_use_42 : decode cX2_use 42 = .ok (.istore 4, 2) := by decide +kernel
theorem dX2_use_44 : decode cX2_use 44 = .ok (.iinc 5 1, 3) := by decide +kernel
theorem dX2_use_47 : decode cX2_use 47 = .ok (.goto (-34), 3) := by decide +kernel
theorem dX2_use_50 : decode cX2_use 50 = .ok (.iload 4, 2) := by decide +kernel
theorem dX2_use_52 : decode cX2_use 52 = .ok (.ireturn, 1) := by decide +kernel
set_option maxRecDepth 20000 in
theorem ggX2_fits_X2_use : GoodIn wsX2_fits wsX2_use := goodIn_r _ [6, 7, 8, 9, 10, 11, 12, 13, 14, 15] (by decide +kernel) (by decide +kernel)
set_option maxRecDepth 20000 in
theorem gX2_fits_X2_use : GoodIn wsX2_fits (wsV RX2 55 RX2 yX2_use wsX2_use) := goodIn_app (goodIn_of _ (by decide +kernel)) ggX2_fits_X2_use
theorem dX2_fits_0 : decode cX2_fits 0 = .ok (.iconst 0, 1) := by decide +kernel
theorem dX2_fits_1 : decode cX2_fits 1 = .ok (.istore_n 2, 1) := by decide +kernel
theorem dX2_fits_2 : decode cX2_fits 2 = .ok (.iload_n 2, 1) := by decide +kernel
theorem dX2_fits_3 : decode cX2_fits 3 = .ok (.iconst 3, 1) := by decide +kernel
theorem dX2_fits_4 : decode cX2_fits 4 = .ok (.if_icmp .ge 26, 3) := by decide +kernel
theorem dX2_fits_7 : decode cX2_fits 7 = .ok (.aload_n 0, 1) := by decide +kernel
theorem dX2_fits_8 : decode cX2_fits 8 = .ok (.iload_n 1, 1) := by decide +kernel
theorem dX2_fits_9 : decode cX2_fits 9 = .ok (.iload_n 2, 1) := by decide +kernel
theorem dX2_fits_10 : decode cX2_fits 10 = .ok (.invokevirtual 55, 3) := by decide +kernel
theorem dX2_fits_13 : decode cX2_fits 13 = .ok (.aload_n 0, 1) := by decide +kernel
theorem dX2_fits_14 : decode cX2_fits 14 = .ok (.getfield 20, 3) := by decide +kernel
theorem dX2_fits_17 : decode cX2_fits 17 = .ok (.iload_n 2, 1) := by decide +kernel
theorem dX2_fits_18 : decode cX2_fits 18 = .ok (.iaload, 1) := by decide +kernel
theorem dX2_fits_19 : decode cX2_fits 19 = .ok (.if_icmp .le 5, 3) := by decide +kernel
theorem dX2_fits_22 : decode cX2_fits 22 = .ok (.iconst 0, 1) := by decide +kernel
theorem dX2_fits_23 : decode cX2_fits 23 = .ok (.ireturn, 1) := by decide +kernel
theorem dX2_fits_24 : decode cX2_fits 24 = .ok (.iinc 2 1, 3) := by decide +kernel
theorem dX2_fits_27 : decode cX2_fits 27 = .ok (.goto (-25), 3) := by decide +kernel
theorem dX2_fits_30 : decode cX2_fits 30 = .ok (.iconst 1, 1) := by decide +kernel
theorem dX2_fits_31 : decode cX2_fits 31 = .ok (.ireturn, 1) := by decide +kernel
theorem dX2_price_0 : decode cX2_price 0 = .ok (.bipush 100, 2) := by decide +kernel
theorem dX2_price_2 : decode cX2_price 2 = .ok (.aload_n 0, 1) := by decide +kernel
theorem dX2_price_3 : decode cX2_price 3 = .ok (.getfield 9, 3) := by decide +kernel
theorem dX2_price_6 : decode cX2_price 6 = .ok (.iload_n 1, 1) := by decide +kernel
theorem dX2_price_7 : decode cX2_price 7 = .ok (.iaload, 1) := by decide +kernel
theorem dX2_price_8 : decode cX2_price 8 = .ok (.imul, 1) := by decide +kernel
theorem dX2_price_9 : decode cX2_price 9 = .ok (.istore_n 3, 1) := by decide +kernel
theorem dX2_price_10 : decode cX2_price 10 = .ok (.iconst 0, 1) := by decide +kernel
theorem dX2_price_11 : decode cX2_price 11 = .ok (.istore 4, 2) := by decide +kernel
theorem dX2_price_13 : decode cX2_price 13 = .ok (.iload 4, 2) := by decide +kernel
theorem dX2_price_15 : decode cX2_price 15 = .ok (.iconst 3, 1) := by decide +kernel
theorem dX2_price_16 : decode cX2_price 16 = .ok (.if_icmp .ge 26, 3) := by decide +kernel
theorem dX2_price_19 : decode cX2_price 19 = .ok (.iload_n 3, 1) := by decide +kernel
theorem dX2_price_20 : decode cX2_price 20 = .ok (.aload_n 2, 1) := by decide +kernel
theorem dX2_price_21 : decode cX2_price 21 = .ok (.iload 4, 2) := by decide +kernel
theorem dX2_price_23 : decode cX2_price 23 = .ok (.iaload, 1) := by decide +kernel
theorem dX2_price_24 : decode cX2_price 24 = .ok (.aload_n 0, 1) := by decide +kernel
theorem dX2_price_25 : decode cX2_price 25 = .ok (.getfield 17, 3) := by decide +kernel
theorem dX2_price_28 : decode cX2_price 28 = .ok (.iload 4, 2) := by decide +kernel
theorem dX2_price_30 : decode cX2_price 30 = .ok (.aaload, 1) := by decide +kernel
theorem dX2_price_31 : decode cX2_price 31 = .ok (.iload_n 1, 1) := by decide +kernel
theorem dX2_price_32 : decode cX2_price 32 = .ok (.iaload, 1) := by decide +kernel
theorem dX2_price_33 : decode cX2_price 33 = .ok (.imul, 1) := by decide +kernel
theorem dX2_price_34 : decode cX2_price 34 = .ok (.isub, 1) := by decide +kernel
theorem dX2_price_35 : decode cX2_price 35 = .ok (.istore_n 3, 1) := by decide +kernel
theorem dX2_price_36 : decode cX2_price 36 = .ok (.iinc 4 1, 3) := by decide +kernel
theorem dX2_price_39 : decode cX2_price 39 = .ok (.goto (-26), 3) := by decide +kernel
theorem dX2_price_42 : decode cX2_price 42 = .ok (.iload_n 3, 1) := by decide +kernel
theorem dX2_price_43 : decode cX2_price 43 = .ok (.ireturn, 1) := by decide +kernel
set_option maxRecDepth 20000 in
theorem ggX2_relaxed_X2_price : GoodIn wsX2_relaxed wsX2_price := goodIn_r _ [6, 7, 8, 9, 10, 11, 12] (by decide +kernel) (by decide +kernel)
set_option maxRecDepth 20000 in
theorem gX2_relaxed_X2_price : GoodIn wsX2_relaxed (wsV RX2 59 RX2 yX2_price wsX2_price) := goodIn_app (goodIn_of _ (by decide +kernel)) ggX2_relaxed_X2_price
theorem dX2_relaxed_0 : decode cX2_relaxed 0 = .ok (.iconst 0, 1) := by decide +kernel
theorem dX2_relaxed_1 : decode cX2_relaxed 1 = .ok (.istore_n 2, 1) := by decide +kernel
theorem dX2_relaxed_2 : decode cX2_relaxed 2 = .ok (.iconst 0, 1) := by decide +kernel
theorem dX2_relaxed_3 : decode cX2_relaxed 3 = .ok (.istore_n 3, 1) := by decide +kernel
theorem dX2_relaxed_4 : decode cX2_relaxed 4 = .ok (.iload_n 3, 1) := by decide +kernel
theorem dX2_relaxed_5 : decode cX2_relaxed 5 = .ok (.aload_n 0, 1) := by decide +kernel
theorem dX2_relaxed_6 : decode cX2_relaxed 6 = .ok (.getfield 23, 3) := by decide +kernel
theorem dX2_relaxed_9 : decode cX2_relaxed 9 = .ok (.if_icmp .ge 24, 3) := by decide +kernel
theorem dX2_relaxed_12 : decode cX2_relaxed 12 = .ok (.aload_n 0, 1) := by decide +kernel
theorem dX2_relaxed_13 : decode cX2_relaxed 13 = .ok (.iload_n 3, 1) := by decide +kernel
theorem dX2_relaxed_14 : decode cX2_relaxed 14 = .ok (.aload_n 1, 1) := by decide +kernel
theorem dX2_relaxed_15 : decode cX2_relaxed 15 = .ok (.invokevirtual 59, 3) := by decide +kernel
theorem dX2_relaxed_18 : decode cX2_relaxed 18 = .ok (.ifCond .le 9, 3) := by decide +kernel
theorem dX2_relaxed_21 : decode cX2_relaxed 21 = .ok (.iload_n 2, 1) := by decide +kernel
theorem dX2_relaxed_22 : decode cX2_relaxed 22 = .ok (.iconst 1, 1) := by decide +kernel
theorem dX2_relaxed_23 : decode cX2_relaxed 23 = .ok (.iload_n 3, 1) := by decide +kernel
theorem dX2_relaxed_24 : decode cX2_relaxed 24 = .ok (.ishl, 1) := by decide +kernel
theorem dX2_relaxed_25 : decode cX2_relaxed 25 = .ok (.ior, 1) := by decide +kernel
theorem dX2_relaxed_26 : decode cX2_relaxed 26 = .ok (.istore_n 2, 1) := by decide +kernel
theorem dX2_relaxed_27 : decode cX2_relaxed 27 = .ok (.iinc 3 1, 3) := by decide +kernel
theorem dX2_relaxed_30 : decode cX2_relaxed 30 = .ok (.goto (-26), 3) := by decide +kernel
theorem dX2_relaxed_33 : decode cX2_relaxed 33 = .ok (.iload_n 2, 1) := by decide +kernel
theorem dX2_relaxed_34 : decode cX2_relaxed 34 = .ok (.ireturn, 1) := by decide +kernel
set_option maxRecDepth 20000 in
theorem ggX2_boundAt_X2_price : GoodIn wsX2_boundAt wsX2_price := goodIn_r _ [11, 12, 13, 14, 15, 16, 17] (by decide +kernel) (by decide +kernel)
set_option maxRecDepth 20000 in
theorem gX2_boundAt_X2_price : GoodIn wsX2_boundAt (wsV RX2 59 RX2 yX2_price wsX2_price) := goodIn_app (goodIn_of _ (by decide +kernel)) ggX2_boundAt_X2_price
theorem dX2_boundAt_0 : decode cX2_boundAt 0 = .ok (.lconst 0, 1) := by decide +kernel
theorem dX2_boundAt_1 : decode cX2_boundAt 1 = .ok (.lstore_n 2, 1) := by decide +kernel
theorem dX2_boundAt_2 : decode cX2_boundAt 2 = .ok (.iconst 0, 1) := by decide +kernel
theorem dX2_boundAt_3 : decode cX2_boundAt 3 = .ok (.istore 4, 2) := by decide +kernel
theorem dX2_boundAt_5 : decode cX2_boundAt 5 = .ok (.iload 4, 2) := by decide +kernel
theorem dX2_boundAt_7 : decode cX2_boundAt 7 = .ok (.aload_n 0, 1) := by decide +kernel
theorem dX2_boundAt_8 : decode cX2_boundAt 8 = .ok (.getfield 23, 3) := by decide +kernel
theorem dX2_boundAt_11 : decode cX2_boundAt 11 = .ok (.if_icmp .ge 24, 3) := by decide +kernel
theorem dX2_boundAt_14 : decode cX2_boundAt 14 = .ok (.lload_n 2, 1) := by decide +kernel
theorem dX2_boundAt_15 : decode cX2_boundAt 15 = .ok (.iconst 0, 1) := by decide +kernel
theorem dX2_boundAt_16 : decode cX2_boundAt 16 = .ok (.aload_n 0, 1) := by decide +kernel
theorem dX2_boundAt_17 : decode cX2_boundAt 17 = .ok (.iload 4, 2) := by decide +kernel
theorem dX2_boundAt_19 : decode cX2_boundAt 19 = .ok (.aload_n 1, 1) := by decide +kernel
theorem dX2_boundAt_20 : decode cX2_boundAt 20 = .ok (.invokevirtual 59, 3) := by decide +kernel
theorem dX2_boundAt_23 : decode cX2_boundAt 23 = .ok (.invokestatic 63, 3) := by decide +kernel
theorem dX2_boundAt_26 : decode cX2_boundAt 26 = .ok (.i2l, 1) := by decide +kernel
theorem dX2_boundAt_27 : decode cX2_boundAt 27 = .ok (.ladd, 1) := by decide +kernel
theorem dX2_boundAt_28 : decode cX2_boundAt 28 = .ok (.lstore_n 2, 1) := by decide +kernel
theorem dX2_boundAt_29 : decode cX2_boundAt 29 = .ok (.iinc 4 1, 3) := by decide +kernel
theorem dX2_boundAt_32 : decode cX2_boundAt 32 = .ok (.goto (-27), 3) := by decide +kernel
theorem dX2_boundAt_35 : decode cX2_boundAt 35 = .ok (.iconst 0, 1) := by decide +kernel
theorem dX2_boundAt_36 : decode cX2_boundAt 36 = .ok (.istore 4, 2) := by decide +kernel
theorem dX2_boundAt_38 : decode cX2_boundAt 38 = .ok (.iload 4, 2) := by decide +kernel
theorem dX2_boundAt_40 : decode cX2_boundAt 40 = .ok (.iconst 3, 1) := by decide +kernel
theorem dX2_boundAt_41 : decode cX2_boundAt 41 = .ok (.if_icmp .ge 26, 3) := by decide +kernel
theorem dX2_boundAt_44 : decode cX2_boundAt 44 = .ok (.lload_n 2, 1) := by decide +kernel
theorem dX2_boundAt_45 : decode cX2_boundAt 45 = .ok (.aload_n 1, 1) := by decide +kernel
theorem dX2_boundAt_46 : decode cX2_boundAt 46 = .ok (.iload 4, 2) := by decide +kernel
theorem dX2_boundAt_48 : decode cX2_boundAt 48 = .ok (.iaload, 1) := by decide +kernel
theorem dX2_boundAt_49 : decode cX2_boundAt 49 = .ok (.i2l, 1) := by decide +kernel
theorem dX2_boundAt_50 : decode cX2_boundAt 50 = .ok (.aload_n 0, 1) := by decide +kernel
theorem dX2_boundAt_51 : decode cX2_boundAt 51 = .ok (.getfield 20, 3) := by decide +kernel
theorem dX2_boundAt_54 : decode cX2_boundAt 54 = .ok (.iload 4, 2) := by decide +kernel
theorem dX2_boundAt_56 : decode cX2_boundAt 56 = .ok (.iaload, 1) := by decide +kernel
theorem dX2_boundAt_57 : decode cX2_boundAt 57 = .ok (.i2l, 1) := by decide +kernel
theorem dX2_boundAt_58 : decode cX2_boundAt 58 = .ok (.lmul, 1) := by decide +kernel
theorem dX2_boundAt_59 : decode cX2_boundAt 59 = .ok (.ladd, 1) := by decide +kernel
theorem dX2_boundAt_60 : decode cX2_boundAt 60 = .ok (.lstore_n 2, 1) := by decide +kernel
theorem dX2_boundAt_61 : decode cX2_boundAt 61 = .ok (.iinc 4 1, 3) := by decide +kernel
theorem dX2_boundAt_64 : decode cX2_boundAt 64 = .ok (.goto (-26), 3) := by decide +kernel
theorem dX2_boundAt_67 : decode cX2_boundAt 67 = .ok (.lload_n 2, 1) := by decide +kernel
theorem dX2_boundAt_68 : decode cX2_boundAt 68 = .ok (.lreturn, 1) := by decide +kernel
set_option maxRecDepth 20000 in
theorem ggX2_mended_X2_fits : GoodIn wsX2_mended wsX2_fits := goodIn_r _ [6, 7, 8, 9, 10, 5, 11, 12, 1, 13, 14, 15, 33, 34, 35, 36] (by decide +kernel) (by decide +kernel)
set_option maxRecDepth 20000 in
theorem gX2_mended_X2_fits : GoodIn wsX2_mended (wsV RX2 68 RX2 yX2_fits wsX2_fits) := goodIn_app (goodIn_of _ (by decide +kernel)) ggX2_mended_X2_fits
set_option maxRecDepth 20000 in
theorem ggX2_mended_X2_leastForItsSize : GoodIn wsX2_mended wsX2_leastForItsSize := goodIn_r _ [19, 1, 20, 21, 22, 23, 13, 14, 15, 24, 25, 26, 5, 27, 12, 28, 29, 30, 31, 32, 33, 34, 35, 36] (by decide +kernel) (by decide +kernel)
set_option maxRecDepth 20000 in
theorem gX2_mended_X2_leastForItsSize : GoodIn wsX2_mended (wsV RX2 71 RX2 yX2_leastForItsSize wsX2_leastForItsSize) := goodIn_app (goodIn_of _ (by decide +kernel)) ggX2_mended_X2_leastForItsSize
theorem dX2_mended_0 : decode cX2_mended 0 = .ok (.iload_n 1, 1) := by decide +kernel
theorem dX2_mended_1 : decode cX2_mended 1 = .ok (.iconst 1, 1) := by decide +kernel
theorem dX2_mended_2 : decode cX2_mended 2 = .ok (.aload_n 0, 1) := by decide +kernel
theorem dX2_mended_3 : decode cX2_mended 3 = .ok (.getfield 23, 3) := by decide +kernel
theorem dX2_mended_6 : decode cX2_mended 6 = .ok (.ishl, 1) := by decide +kernel
theorem dX2_mended_7 : decode cX2_mended 7 = .ok (.iconst 1, 1) := by decide +kernel
theorem dX2_mended_8 : decode cX2_mended 8 = .ok (.isub, 1) := by decide +kernel
theorem dX2_mended_9 : decode cX2_mended 9 = .ok (.iand, 1) := by decide +kernel
theorem dX2_mended_10 : decode cX2_mended 10 = .ok (.istore_n 2, 1) := by decide +kernel
theorem dX2_mended_11 : decode cX2_mended 11 = .ok (.iconst 0, 1) := by decide +kernel
theorem dX2_mended_12 : decode cX2_mended 12 = .ok (.istore_n 3, 1) := by decide +kernel
theorem dX2_mended_13 : decode cX2_mended 13 = .ok (.iload_n 3, 1) := by decide +kernel
theorem dX2_mended_14 : decode cX2_mended 14 = .ok (.bipush 16, 2) := by decide +kernel
theorem dX2_mended_16 : decode cX2_mended 16 = .ok (.if_icmp .ge 29, 3) := by decide +kernel
theorem dX2_mended_19 : decode cX2_mended 19 = .ok (.aload_n 0, 1) := by decide +kernel
theorem dX2_mended_20 : decode cX2_mended 20 = .ok (.iload_n 2, 1) := by decide +kernel
theorem dX2_mended_21 : decode cX2_mended 21 = .ok (.invokevirtual 68, 3) := by decide +kernel
theorem dX2_mended_24 : decode cX2_mended 24 = .ok (.ifCond .ne 21, 3) := by decide +kernel
theorem dX2_mended_27 : decode cX2_mended 27 = .ok (.iload_n 2, 1) := by decide +kernel
theorem dX2_mended_28 : decode cX2_mended 28 = .ok (.iconst 1, 1) := by decide +kernel
theorem dX2_mended_29 : decode cX2_mended 29 = .ok (.aload_n 0, 1) := by decide +kernel
theorem dX2_mended_30 : decode cX2_mended 30 = .ok (.iload_n 2, 1) := by decide +kernel
theorem dX2_mended_31 : decode cX2_mended 31 = .ok (.invokevirtual 71, 3) := by decide +kernel
theorem dX2_mended_34 : decode cX2_mended 34 = .ok (.ishl, 1) := by decide +kernel
theorem dX2_mended_35 : decode cX2_mended 35 = .ok (.iconst (-1), 1) := by decide +kernel
theorem dX2_mended_36 : decode cX2_mended 36 = .ok (.ixor, 1) := by decide +kernel
theorem dX2_mended_37 : decode cX2_mended 37 = .ok (.iand, 1) := by decide +kernel
theorem dX2_mended_38 : decode cX2_mended 38 = .ok (.istore_n 2, 1) := by decide +kernel
theorem dX2_mended_39 : decode cX2_mended 39 = .ok (.iinc 3 1, 3) := by decide +kernel
theorem dX2_mended_42 : decode cX2_mended 42 = .ok (.goto (-29), 3) := by decide +kernel
theorem dX2_mended_45 : decode cX2_mended 45 = .ok (.iconst 0, 1) := by decide +kernel
theorem dX2_mended_46 : decode cX2_mended 46 = .ok (.istore_n 3, 1) := by decide +kernel
theorem dX2_mended_47 : decode cX2_mended 47 = .ok (.iload_n 3, 1) := by decide +kernel
theorem dX2_mended_48 : decode cX2_mended 48 = .ok (.aload_n 0, 1) := by decide +kernel
theorem dX2_mended_49 : decode cX2_mended 49 = .ok (.getfield 23, 3) := by decide +kernel
theorem dX2_mended_52 : decode cX2_mended 52 = .ok (.if_icmp .ge 27, 3) := by decide +kernel
theorem dX2_mended_55 : decode cX2_mended 55 = .ok (.aload_n 0, 1) := by decide +kernel
theorem dX2_mended_56 : decode cX2_mended 56 = .ok (.iload_n 2, 1) := by decide +kernel
theorem dX2_mended_57 : decode cX2_mended 57 = .ok (.iconst 1, 1) := by decide +kernel
theorem dX2_mended_58 : decode cX2_mended 58 = .ok (.iload_n 3, 1) := by decide +kernel
theorem dX2_mended_59 : decode cX2_mended 59 = .ok (.ishl, 1) := by decide +kernel
theorem dX2_mended_60 : decode cX2_mended 60 = .ok (.ior, 1) := by decide +kernel
theorem dX2_mended_61 : decode cX2_mended 61 = .ok (.invokevirtual 68, 3) := by decide +kernel
theorem dX2_mended_64 : decode cX2_mended 64 = .ok (.ifCond .eq 9, 3) := by decide +kernel
theorem dX2_mended_67 : decode cX2_mended 67 = .ok (.iload_n 2, 1) := by decide +kernel
theorem dX2_mended_68 : decode cX2_mended 68 = .ok (.iconst 1, 1) := by decide +kernel
theorem dX2_mended_69 : decode cX2_mended 69 = .ok (.iload_n 3, 1) := by decide +kernel
theorem dX2_mended_70 : decode cX2_mended 70 = .ok (.ishl, 1) := by decide +kernel
theorem dX2_mended_71 : decode cX2_mended 71 = .ok (.ior, 1) := by decide +kernel
theorem dX2_mended_72 : decode cX2_mended 72 = .ok (.istore_n 2, 1) := by decide +kernel
theorem dX2_mended_73 : decode cX2_mended 73 = .ok (.iinc 3 1, 3) := by decide +kernel
theorem dX2_mended_76 : decode cX2_mended 76 = .ok (.goto (-29), 3) := by decide +kernel
theorem dX2_mended_79 : decode cX2_mended 79 = .ok (.iload_n 2, 1) := by decide +kernel
theorem dX2_mended_80 : decode cX2_mended 80 = .ok (.ireturn, 1) := by decide +kernel
set_option maxRecDepth 20000 in
theorem ggX2_leastForItsSize_X6_isIn : GoodIn wsX2_leastForItsSize wsX6_isIn := goodIn_r _ [8] (by decide +kernel) (by decide +kernel)
set_option maxRecDepth 20000 in
theorem gX2_leastForItsSize_X6_isIn_n51 : GoodIn wsX2_leastForItsSize (wsX6_isIn) := ggX2_leastForItsSize_X6_isIn
set_option maxRecDepth 20000 in
theorem ggX2_leastForItsSize_X2_sizeOf : GoodIn wsX2_leastForItsSize wsX2_sizeOf := goodIn_r _ [13, 14, 20, 21, 22, 23] (by decide +kernel) (by decide +kernel)
set_option maxRecDepth 20000 in
theorem gX2_leastForItsSize_X2_sizeOf : GoodIn wsX2_leastForItsSize (wsV RX2 75 RX2 yX2_sizeOf wsX2_sizeOf) := goodIn_app (goodIn_of _ (by decide +kernel)) ggX2_leastForItsSize_X2_sizeOf
set_option maxRecDepth 20000 in
theorem ggX2_leastForItsSize_X2_goesAheadOf : GoodIn wsX2_leastForItsSize wsX2_goesAheadOf := goodIn_r _ [18, 19, 9, 10, 11, 12, 13, 14, 20, 21, 22, 23] (by decide +kernel) (by decide +kernel)
set_option maxRecDepth 20000 in
theorem gX2_leastForItsSize_X2_goesAheadOf : GoodIn wsX2_leastForItsSize (wsV RX2 78 RX2 yX2_goesAheadOf wsX2_goesAheadOf) := goodIn_app (goodIn_of _ (by decide +kernel)) ggX2_leastForItsSize_X2_goesAheadOf
theorem dX2_leastForItsSize_0 : decode cX2_leastForItsSize 0 = .ok (.iconst (-1), 1) := by decide +kernel
theorem dX2_leastForItsSize_1 : decode cX2_leastForItsSize 1 = .ok (.istore_n 2, 1) := by decide +kernel
theorem dX2_leastForItsSize_2 : decode cX2_leastForItsSize 2 = .ok (.iconst 0, 1) := by decide +kernel
theorem dX2_leastForItsSize_3 : decode cX2_leastForItsSize 3 = .ok (.istore_n 3, 1) := by decide +kernel
theorem dX2_leastForItsSize_4 : decode cX2_leastForItsSize 4 = .ok (.iload_n 3, 1) := by decide +kernel
theorem dX2_leastForItsSize_5 : decode cX2_leastForItsSize 5 = .ok (.aload_n 0, 1) := by decide +kernel
theorem dX2_leastForItsSize_6 : decode cX2_leastForItsSize 6 = .ok (.getfield 23, 3) := by decide +kernel
theorem dX2_leastForItsSize_9 : decode cX2_leastForItsSize 9 = .ok (.if_icmp .ge 52, 3) := by decide +kernel
theorem dX2_leastForItsSize_12 : decode cX2_leastForItsSize 12 = .ok (.iload_n 3, 1) := by decide +kernel
theorem dX2_leastForItsSize_13 : decode cX2_leastForItsSize 13 = .ok (.iload_n 1, 1) := by decide +kernel
theorem dX2_leastForItsSize_14 : decode cX2_leastForItsSize 14 = .ok (.invokestatic 51, 3) := by decide +kernel
theorem dX2_leastForItsSize_17 : decode cX2_leastForItsSize 17 = .ok (.ifCond .eq 15, 3) := by decide +kernel
theorem dX2_leastForItsSize_20 : decode cX2_leastForItsSize 20 = .ok (.aload_n 0, 1) := by decide +kernel
theorem dX2_leastForItsSize_21 : decode cX2_leastForItsSize 21 = .ok (.iload_n 3, 1) := by decide +kernel
theorem dX2_leastForItsSize_22 : decode cX2_leastForItsSize 22 = .ok (.invokevirtual 75, 3) := by decide +kernel
theorem dX2_leastForItsSize_25 : decode cX2_leastForItsSize 25 = .ok (.ifCond .le 7, 3) := by decide +kernel
theorem dX2_leastForItsSize_28 : decode cX2_leastForItsSize 28 = .ok (.iconst 1, 1) := by decide +kernel
theorem dX2_leastForItsSize_29 : decode cX2_leastForItsSize 29 = .ok (.goto 4, 3) := by decide +kernel
theorem dX2_leastForItsSize_32 : decode cX2_leastForItsSize 32 = .ok (.iconst 0, 1) := by decide +kernel
theorem dX2_leastForItsSize_33 : decode cX2_leastForItsSize 33 = .ok (.istore 4, 2) := by decide +kernel
theorem dX2_leastForItsSize_35 : decode cX2_leastForItsSize 35 = .ok (.iload 4, 2) := by decide +kernel
theorem dX2_leastForItsSize_37 : decode cX2_leastForItsSize 37 = .ok (.ifCond .eq 18, 3) := by decide +kernel
theorem dX2_leastForItsSize_40 : decode cX2_leastForItsSize 40 = .ok (.iload_n 2, 1) := by decide +kernel
theorem dX2_leastForItsSize_41 : decode cX2_leastForItsSize 41 = .ok (.ifCond .lt 12, 3) := by decide +kernel
theorem dX2_leastForItsSize_44 : decode cX2_leastForItsSize 44 = .ok (.aload_n 0, 1) := by decide +kernel
theorem dX2_leastForItsSize_45 : decode cX2_leastForItsSize 45 = .ok (.iload_n 3, 1) := by decide +kernel
theorem dX2_leastForItsSize_46 : decode cX2_leastForItsSize 46 = .ok (.iload_n 2, 1) := by decide +kernel
theorem dX2_leastForItsSize_47 : decode cX2_leastForItsSize 47 = .ok (.invokevirtual 78, 3) := by decide +kernel
theorem dX2_leastForItsSize_50 : decode cX2_leastForItsSize 50 = .ok (.ifCond .eq 5, 3) := by decide +kernel
theorem dX2_leastForItsSize_53 : decode cX2_leastForItsSize 53 = .ok (.iload_n 3, 1) := by decide +kernel
theorem dX2_leastForItsSize_54 : decode cX2_leastForItsSize 54 = .ok (.istore_n 2, 1) := by decide +kernel
theorem dX2_leastForItsSize_55 : decode cX2_leastForItsSize 55 = .ok (.iinc 3 1, 3) := by decide +kernel
theorem dX2_leastForItsSize_58 : decode cX2_leastForItsSize 58 = .ok (.goto (-54), 3) := by decide +kernel
theorem dX2_leastForItsSize_61 : decode cX2_leastForItsSize 61 = .ok (.iconst 0, 1) := by decide +kernel
theorem dX2_leastForItsSize_62 : decode cX2_leastForItsSize 62 = .ok (.iload_n 2, 1) := by decide +kernel
theorem dX2_leastForItsSize_63 : decode cX2_leastForItsSize 63 = .ok (.invokestatic 63, 3) := by decide +kernel
theorem dX2_leastForItsSize_66 : decode cX2_leastForItsSize 66 = .ok (.ireturn, 1) := by decide +kernel
set_option maxRecDepth 20000 in
theorem ggX2_goesAheadOf_X2_sizeOf : GoodIn wsX2_goesAheadOf wsX2_sizeOf := goodIn_r _ [6, 7, 8, 9, 10, 11] (by decide +kernel) (by decide +kernel)
set_option maxRecDepth 20000 in
theorem gX2_goesAheadOf_X2_sizeOf : GoodIn wsX2_goesAheadOf (wsV RX2 75 RX2 yX2_sizeOf wsX2_sizeOf) := goodIn_app (goodIn_of _ (by decide +kernel)) ggX2_goesAheadOf_X2_sizeOf
theorem dX2_goesAheadOf_0 : decode cX2_goesAheadOf 0 = .ok (.aload_n 0, 1) := by decide +kernel
theorem dX2_goesAheadOf_1 : decode cX2_goesAheadOf 1 = .ok (.getfield 9, 3) := by decide +kernel
theorem dX2_goesAheadOf_4 : decode cX2_goesAheadOf 4 = .ok (.iload_n 1, 1) := by decide +kernel
theorem dX2_goesAheadOf_5 : decode cX2_goesAheadOf 5 = .ok (.iaload, 1) := by decide +kernel
theorem dX2_goesAheadOf_6 : decode cX2_goesAheadOf 6 = .ok (.aload_n 0, 1) := by decide +kernel
theorem dX2_goesAheadOf_7 : decode cX2_goesAheadOf 7 = .ok (.iload_n 2, 1) := by decide +kernel
theorem dX2_goesAheadOf_8 : decode cX2_goesAheadOf 8 = .ok (.invokevirtual 75, 3) := by decide +kernel
theorem dX2_goesAheadOf_11 : decode cX2_goesAheadOf 11 = .ok (.imul, 1) := by decide +kernel
theorem dX2_goesAheadOf_12 : decode cX2_goesAheadOf 12 = .ok (.aload_n 0, 1) := by decide +kernel
theorem dX2_goesAheadOf_13 : decode cX2_goesAheadOf 13 = .ok (.getfield 9, 3) := by decide +kernel
theorem dX2_goesAheadOf_16 : decode cX2_goesAheadOf 16 = .ok (.iload_n 2, 1) := by decide +kernel
theorem dX2_goesAheadOf_17 : decode cX2_goesAheadOf 17 = .ok (.iaload, 1) := by decide +kernel
theorem dX2_goesAheadOf_18 : decode cX2_goesAheadOf 18 = .ok (.aload_n 0, 1) := by decide +kernel
theorem dX2_goesAheadOf_19 : decode cX2_goesAheadOf 19 = .ok (.iload_n 1, 1) := by decide +kernel
theorem dX2_goesAheadOf_20 : decode cX2_goesAheadOf 20 = .ok (.invokevirtual 75, 3) := by decide +kernel
theorem dX2_goesAheadOf_23 : decode cX2_goesAheadOf 23 = .ok (.imul, 1) := by decide +kernel
theorem dX2_goesAheadOf_24 : decode cX2_goesAheadOf 24 = .ok (.if_icmp .ge 7, 3) := by decide +kernel
theorem dX2_goesAheadOf_27 : decode cX2_goesAheadOf 27 = .ok (.iconst 1, 1) := by decide +kernel
theorem dX2_goesAheadOf_28 : decode cX2_goesAheadOf 28 = .ok (.goto 4, 3) := by decide +kernel
theorem dX2_goesAheadOf_31 : decode cX2_goesAheadOf 31 = .ok (.iconst 0, 1) := by decide +kernel
theorem dX2_goesAheadOf_32 : decode cX2_goesAheadOf 32 = .ok (.ireturn, 1) := by decide +kernel
theorem dX2_sizeOf_0 : decode cX2_sizeOf 0 = .ok (.aload_n 0, 1) := by decide +kernel
theorem dX2_sizeOf_1 : decode cX2_sizeOf 1 = .ok (.getfield 17, 3) := by decide +kernel
theorem dX2_sizeOf_4 : decode cX2_sizeOf 4 = .ok (.iconst 0, 1) := by decide +kernel
theorem dX2_sizeOf_5 : decode cX2_sizeOf 5 = .ok (.aaload, 1) := by decide +kernel
theorem dX2_sizeOf_6 : decode cX2_sizeOf 6 = .ok (.iload_n 1, 1) := by decide +kernel
theorem dX2_sizeOf_7 : decode cX2_sizeOf 7 = .ok (.iaload, 1) := by decide +kernel
theorem dX2_sizeOf_8 : decode cX2_sizeOf 8 = .ok (.aload_n 0, 1) := by decide +kernel
theorem dX2_sizeOf_9 : decode cX2_sizeOf 9 = .ok (.getfield 17, 3) := by decide +kernel
theorem dX2_sizeOf_12 : decode cX2_sizeOf 12 = .ok (.iconst 1, 1) := by decide +kernel
theorem dX2_sizeOf_13 : decode cX2_sizeOf 13 = .ok (.aaload, 1) := by decide +kernel
theorem dX2_sizeOf_14 : decode cX2_sizeOf 14 = .ok (.iload_n 1, 1) := by decide +kernel
theorem dX2_sizeOf_15 : decode cX2_sizeOf 15 = .ok (.iaload, 1) := by decide +kernel
theorem dX2_sizeOf_16 : decode cX2_sizeOf 16 = .ok (.iadd, 1) := by decide +kernel
theorem dX2_sizeOf_17 : decode cX2_sizeOf 17 = .ok (.aload_n 0, 1) := by decide +kernel
theorem dX2_sizeOf_18 : decode cX2_sizeOf 18 = .ok (.getfield 17, 3) := by decide +kernel
theorem dX2_sizeOf_21 : decode cX2_sizeOf 21 = .ok (.iconst 2, 1) := by decide +kernel
theorem dX2_sizeOf_22 : decode cX2_sizeOf 22 = .ok (.aaload, 1) := by decide +kernel
theorem dX2_sizeOf_23 : decode cX2_sizeOf 23 = .ok (.iload_n 1, 1) := by decide +kernel
theorem dX2_sizeOf_24 : decode cX2_sizeOf 24 = .ok (.iaload, 1) := by decide +kernel
theorem dX2_sizeOf_25 : decode cX2_sizeOf 25 = .ok (.iadd, 1) := by decide +kernel
theorem dX2_sizeOf_26 : decode cX2_sizeOf 26 = .ok (.ireturn, 1) := by decide +kernel
theorem dX3_init_0 : decode cX3_init 0 = .ok (.aload_n 0, 1) := by decide +kernel
theorem dX3_init_1 : decode cX3_init 1 = .ok (.invokespecial 3, 3) := by decide +kernel
theorem dX3_init_4 : decode cX3_init 4 = .ok (.aload_n 0, 1) := by decide +kernel
theorem dX3_init_5 : decode cX3_init 5 = .ok (.bipush 80, 2) := by decide +kernel
theorem dX3_init_7 : decode cX3_init 7 = .ok (.newarray .char, 2) := by decide +kernel
theorem dX3_init_9 : decode cX3_init 9 = .ok (.putfield 9, 3) := by decide +kernel
theorem dX3_init_12 : decode cX3_init 12 = .ok (.aload_n 0, 1) := by decide +kernel
theorem dX3_init_13 : decode cX3_init 13 = .ok (.iconst 0, 1) := by decide +kernel
theorem dX3_init_14 : decode cX3_init 14 = .ok (.putfield 15, 3) := by decide +kernel
theorem dX3_init_17 : decode cX3_init 17 = .ok (.aload_n 0, 1) := by decide +kernel
theorem dX3_init_18 : decode cX3_init 18 = .ok (.iconst 0, 1) := by decide +kernel
theorem dX3_init_19 : decode cX3_init 19 = .ok (.putfield 19, 3) := by decide +kernel
theorem dX3_init_22 : decode cX3_init 22 = .ok (.aload_n 0, 1) := by decide +kernel
theorem dX3_init_23 : decode cX3_init 23 = .ok (.iconst 0, 1) := by decide +kernel
theorem dX3_init_24 : decode cX3_init 24 = .ok (.putfield 22, 3) := by decide +kernel
theorem dX3_init_27 : decode cX3_init 27 = .ok (.aload_n 0, 1) := by decide +kernel
theorem dX3_init_28 : decode cX3_init 28 = .ok (.iconst 4, 1) := by decide +kernel
theorem dX3_init_29 : decode cX3_init 29 = .ok (.newarray .int, 2) := by decide +kernel
theorem dX3_init_31 : decode cX3_init 31 = .ok (.putfield 26, 3) := by decide +kernel
theorem dX3_init_34 : decode cX3_init 34 = .ok (.aload_n 0, 1) := by decide +kernel
theorem dX3_init_35 : decode cX3_init 35 = .ok (.iconst 0, 1) := by decide +kernel
theorem dX3_init_36 : decode cX3_init 36 = .ok (.putfield 30, 3) := by decide +kernel
theorem dX3_init_39 : decode cX3_init 39 = .ok (.return_, 1) := by decide +kernel
theorem dX3_append_0 : decode cX3_append 0 = .ok (.aload_n 0, 1) := by decide +kernel
theorem dX3_append_1 : decode cX3_append 1 = .ok (.getfield 15, 3) := by decide +kernel
theorem dX3_append_4 : decode cX3_append 4 = .ok (.bipush 80, 2) := by decide +kernel
theorem dX3_append_6 : decode cX3_append 6 = .ok (.if_icmp .ge 23, 3) := by decide +kernel
theorem dX3_append_9 : decode cX3_append 9 = .ok (.aload_n 0, 1) := by decide +kernel
theorem dX3_append_10 : decode cX3_append 10 = .ok (.getfield 9, 3) := by decide +kernel
theorem dX3_append_13 : decode cX3_append 13 = .ok (.aload_n 0, 1) := by decide +kernel
theorem dX3_append_14 : decode cX3_append 14 = .ok (.getfield 15, 3) := by decide +kernel
theorem dX3_append_17 : decode cX3_append 17 = .ok (.iload_n 1, 1) := by decide +kernel
theorem dX3_append_18 : decode cX3_append 18 = .ok (.castore, 1) := by decide +kernel
theorem dX3_append_19 : decode cX3_append 19 = .ok (.aload_n 0, 1) := by decide +kernel
theorem dX3_append_20 : decode cX3_append 20 = .ok (.dup, 1) := by decide +kernel
theorem dX3_append_21 : decode cX3_append 21 = .ok (.getfield 15, 3) := by decide +kernel
theorem dX3_append_24 : decode cX3_append 24 = .ok (.iconst 1, 1) := by decide +kernel
theorem dX3_append_25 : decode cX3_append 25 = .ok (.iadd, 1) := by decide +kernel
theorem dX3_append_26 : decode cX3_append 26 = .ok (.putfield 15, 3) := by decide +kernel
theorem dX3_append_29 : decode cX3_append 29 = .ok (.return_, 1) := by decide +kernel
set_option maxRecDepth 20000 in
theorem ggX3_firstFault_X3_rewind : GoodIn wsX3_firstFault wsX3_rewind := goodIn_r _ [6, 1, 107, 108, 109, 110, 111, 112] (by decide +kernel) (by decide +kernel)
set_option maxRecDepth 20000 in
theorem gX3_firstFault_X3_rewind : GoodIn wsX3_firstFault (wsV RX3 33 RX3 yX3_rewind wsX3_rewind) := goodIn_app (goodIn_of _ (by decide +kernel)) ggX3_firstFault_X3_rewind
set_option maxRecDepth 20000 in
theorem ggX3_firstFault_X3_readOrder : GoodIn wsX3_firstFault wsX3_readOrder := goodIn_r _ [10, 1, 11, 12, 13, 14, 15, 5, 16, 17, 18, 19, 20, 21, 22, 23, 24, 25, 26, 27, 28, 29, 30, 31, 32, 33, 34, 35, 36, 37, 38, 39, 40, 41, 42, 43, 44, 45, 46, 47, 48, 49, 50, 51, 52, 53, 54, 55, 56, 57, 58, 59, 60, 61, 62, 63, 64, 65, 66, 67, 68, 69, 70, 71, 72, 73, 74, 75, 76, 77, 78, 79, 80, 81, 82, 83, 84, 85, 86, 87, 88, 89, 90, 91, 92, 93, 94, 95, 96, 97, 98, 99, 100, 101, 102, 107, 108, 109, 110, 111, 112] (by decide +kernel) (by decide +kernel)
set_option maxRecDepth 20000 in
theorem gX3_firstFault_X3_readOrder : GoodIn wsX3_firstFault (wsV RX3 36 RX3 yX3_readOrder wsX3_readOrder) := goodIn_app (goodIn_of _ (by decide +kernel)) ggX3_firstFault_X3_readOrder
set_option maxRecDepth 20000 in
theorem ggX3_firstFault_X3_hasMore : GoodIn wsX3_firstFault wsX3_hasMore := goodIn_r _ [106, 1, 21, 107, 108, 109, 110, 111, 112] (by decide +kernel) (by decide +kernel)
set_option maxRecDepth 20000 in
theorem gX3_firstFault_X3_hasMore : GoodIn wsX3_firstFault (wsV RX3 40 RX3 yX3_hasMore wsX3_hasMore) := goodIn_app (goodIn_of _ (by decide +kernel)) ggX3_firstFault_X3_hasMore
theorem dX3_firstFault_0 : decode cX3_firstFault 0 = .ok (.aload_n 0, 1) := by decide +kernel
theorem dX3_firstFault_1 : decode cX3_firstFault 1 = .ok (.invokevirtual 33, 3) := by decide +kernel
theorem dX3_firstFault_4 : decode cX3_firstFault 4 = .ok (.iconst 0, 1) := by decide +kernel
theorem dX3_firstFault_5 : decode cX3_firstFault 5 = .ok (.istore_n 1, 1) := by decide +kernel
theorem dX3_firstFault_6 : decode cX3_firstFault 6 = .ok (.iload_n 1, 1) := by decide +kernel
theorem dX3_firstFault_7 : decode cX3_firstFault 7 = .ok (.bipush 80, 2) := by decide +kernel
theorem dX3_firstFault_9 : decode cX3_firstFault 9 = .ok (.if_icmp .ge 26, 3) := by decide +kernel
theorem dX3_firstFault_12 : decode cX3_firstFault 12 = .ok (.aload_n 0, 1) := by decide +kernel
theorem dX3_firstFault_13 : decode cX3_firstFault 13 = .ok (.invokevirtual 36, 3) := by decide +kernel
theorem dX3_firstFault_16 : decode cX3_firstFault 16 = .ok (.ifCond .eq 19, 3) := by decide +kernel
theorem dX3_firstFault_19 : decode cX3_firstFault 19 = .ok (.aload_n 0, 1) := by decide +kernel
theorem dX3_firstFault_20 : decode cX3_firstFault 20 = .ok (.invokevirtual 40, 3) := by decide +kernel
theorem dX3_firstFault_23 : decode cX3_firstFault 23 = .ok (.ifCond .ne 6, 3) := by decide +kernel
theorem dX3_firstFault_26 : decode cX3_firstFault 26 = .ok (.bipush (-6), 2) := by decide +kernel
theorem dX3_firstFault_28 : decode cX3_firstFault 28 = .ok (.ireturn, 1) := by decide +kernel
theorem dX3_firstFault_29 : decode cX3_firstFault 29 = .ok (.iinc 1 1, 3) := by decide +kernel
theorem dX3_firstFault_32 : decode cX3_firstFault 32 = .ok (.goto (-26), 3) := by decide +kernel
theorem dX3_firstFault_35 : decode cX3_firstFault 35 = .ok (.aload_n 0, 1) := by decide +kernel
theorem dX3_firstFault_36 : decode cX3_firstFault 36 = .ok (.getfield 19, 3) := by decide +kernel
theorem dX3_firstFault_39 : decode cX3_firstFault 39 = .ok (.ireturn, 1) := by decide +kernel
theorem dX3_rewind_0 : decode cX3_rewind 0 = .ok (.aload_n 0, 1) := by decide +kernel
theorem dX3_rewind_1 : decode cX3_rewind 1 = .ok (.iconst 0, 1) := by decide +kernel
theorem dX3_rewind_2 : decode cX3_rewind 2 = .ok (.putfield 19, 3) := by decide +kernel
theorem dX3_rewind_5 : decode cX3_rewind 5 = .ok (.return_, 1) := by decide +kernel
theorem dX3_hasMore_0 : decode cX3_hasMore 0 = .ok (.aload_n 0, 1) := by decide +kernel
theorem dX3_hasMore_1 : decode cX3_hasMore 1 = .ok (.getfield 19, 3) := by decide +kernel
theorem dX3_hasMore_4 : decode cX3_hasMore 4 = .ok (.aload_n 0, 1) := by decide +kernel
theorem dX3_hasMore_5 : decode cX3_hasMore 5 = .ok (.getfield 15, 3) := by decide +kernel
theorem dX3_hasMore_8 : decode cX3_hasMore 8 = .ok (.if_icmp .ge 7, 3) := by decide +kernel
theorem dX3_hasMore_11 : decode cX3_hasMore 11 = .ok (.iconst 1, 1) := by decide +kernel
theorem dX3_hasMore_12 : decode cX3_hasMore 12 = .ok (.goto 4, 3) := by decide +kernel
theorem dX3_hasMore_15 : decode cX3_hasMore 15 = .ok (.iconst 0, 1) := by decide +kernel
theorem dX3_hasMore_16 : decode cX3_hasMore 16 = .ok (.ireturn, 1) := by decide +kernel
set_option maxRecDepth 20000 in
theorem ggX3_readOrder_X3_readSign : GoodIn wsX3_readOrder wsX3_readSign := goodIn_r _ [8, 1, 9, 10, 11, 7, 12, 13, 14, 95, 96, 97, 98, 99, 100] (by decide +kernel) (by decide +kernel)
set_option maxRecDepth 20000 in
theorem gX3_readOrder_X3_readSign : GoodIn wsX3_readOrder (wsV RX3 43 RX3 yX3_readSign wsX3_readSign) := goodIn_app (goodIn_of _ (by decide +kernel)) ggX3_readOrder_X3_readSign
set_option maxRecDepth 20000 in
theorem ggX3_readOrder_X3_here : GoodIn wsX3_readOrder wsX3_here := goodIn_r _ [12, 1, 13, 14, 95, 96, 97, 98, 99, 100] (by decide +kernel) (by decide +kernel)
set_option maxRecDepth 20000 in
theorem gX3_readOrder_X3_here : GoodIn wsX3_readOrder (wsV RX3 47 RX3 yX3_here wsX3_here) := goodIn_app (goodIn_of _ (by decide +kernel)) ggX3_readOrder_X3_here
set_option maxRecDepth 20000 in
theorem ggX3_readOrder_X3_shapeOf : GoodIn wsX3_readOrder wsX3_shapeOf := goodIn_r _ [17] (by decide +kernel) (by decide +kernel)
set_option maxRecDepth 20000 in
theorem gX3_readOrder_X3_shapeOf : GoodIn wsX3_readOrder (va_wsS RX3 51 yX3_shapeOf wsX3_shapeOf) := goodIn_app (goodIn_of _ (by decide +kernel)) ggX3_readOrder_X3_shapeOf
set_option maxRecDepth 20000 in
theorem ggX3_readOrder_J0_length_8abf5 : GoodIn wsX3_readOrder wsJ0_length_8abf5 := goodIn_r _ [22, 23, 24, 25, 26, 21, 27, 28, 29] (by decide +kernel) (by decide +kernel)
set_option maxRecDepth 20000 in
theorem gX3_readOrder_J0_length_8abf5 : GoodIn wsX3_readOrder (wsV RX3 55 RJ0 yJ0_length_8abf5 wsJ0_length_8abf5) := goodIn_app (goodIn_of _ (by decide +kernel)) ggX3_readOrder_J0_length_8abf5
set_option maxRecDepth 20000 in
theorem ggX3_readOrder_J0_charAt_5068e : GoodIn wsX3_readOrder wsJ0_charAt_5068e := goodIn_r _ [33, 23, 34, 35, 36, 21, 37, 28, 29, 38, 39, 40, 41, 42, 43, 44, 45, 46, 47, 48, 49, 50, 51, 52, 53, 54, 55, 56, 57, 58, 59, 60, 61, 62, 63, 64, 65, 66] (by decide +kernel) (by decide +kernel)
set_option maxRecDepth 20000 in
theorem gX3_readOrder_J0_charAt_5068e : GoodIn wsX3_readOrder (wsV RX3 60 RJ0 yJ0_charAt_5068e wsJ0_charAt_5068e) := goodIn_app (goodIn_of _ (by decide +kernel)) ggX3_readOrder_J0_charAt_5068e
set_option maxRecDepth 20000 in
theorem ggX3_readOrder_X3_readPart : GoodIn wsX3_readOrder wsX3_readPart := goodIn_r _ [70, 71, 72, 73, 7, 74, 1, 75, 76, 77, 78, 9, 10, 11, 12, 13, 14, 79, 80, 81, 82, 3, 83, 84, 85, 86, 87, 88, 89, 90, 4, 5, 6, 8, 95, 96, 97, 98, 99, 100] (by decide +kernel) (by decide +kernel)
set_option maxRecDepth 20000 in
theorem gX3_readOrder_X3_readPart : GoodIn wsX3_readOrder (wsV RX3 64 RX3 yX3_readPart wsX3_readPart) := goodIn_app (goodIn_of _ (by decide +kernel)) ggX3_readOrder_X3_readPart
set_option maxRecDepth 20000 in
theorem ggX3_readOrder_J0_isEmpty_aae02 : GoodIn wsX3_readOrder wsJ0_isEmpty_aae02 := goodIn_r _ [94, 23] (by decide +kernel) (by decide +kernel)
set_option maxRecDepth 20000 in
theorem gX3_readOrder_J0_isEmpty_aae02 : GoodIn wsX3_readOrder (wsV RX3 67 RJ0 yJ0_isEmpty_aae02 wsJ0_isEmpty_aae02) := goodIn_app (goodIn_of _ (by decide +kernel)) ggX3_readOrder_J0_isEmpty_aae02
theorem dX3_readOrder_0 : decode cX3_readOrder 0 = .ok (.aload_n 0, 1) := by decide +kernel
theorem dX3_readOrder_1 : decode cX3_readOrder 1 = .ok (.getfield 19, 3) := by decide +kernel
theorem dX3_readOrder_4 : decode cX3_readOrder 4 = .ok (.ifCond .le 14, 3) := by decide +kernel
theorem dX3_readOrder_7 : decode cX3_readOrder 7 = .ok (.aload_n 0, 1) := by decide +kernel
theorem dX3_readOrder_8 : decode cX3_readOrder 8 = .ok (.bipush 59, 2) := by decide +kernel
theorem dX3_readOrder_10 : decode cX3_readOrder 10 = .ok (.invokevirtual 43, 3) := by decide +kernel
theorem dX3_readOrder_13 : decode cX3_readOrder 13 = .ok (.ifCond .ne 5, 3) := by decide +kernel
theorem dX3_readOrder_16 : decode cX3_readOrder 16 = .ok (.iconst 0, 1) := by decide +kernel
theorem dX3_readOrder_17 : decode cX3_readOrder 17 = .ok (.ireturn, 1) := by decide +kernel
theorem dX3_readOrder_18 : decode cX3_readOrder 18 = .ok (.aload_n 0, 1) := by decide +kernel
theorem dX3_readOrder_19 : decode cX3_readOrder 19 = .ok (.aload_n 0, 1) := by decide +kernel
theorem dX3_readOrder_20 : decode cX3_readOrder 20 = .ok (.invokevirtual 47, 3) := by decide +kernel
theorem dX3_readOrder_23 : decode cX3_readOrder 23 = .ok (.putfield 22, 3) := by decide +kernel
theorem dX3_readOrder_26 : decode cX3_readOrder 26 = .ok (.aload_n 0, 1) := by decide +kernel
theorem dX3_readOrder_27 : decode cX3_readOrder 27 = .ok (.iconst 0, 1) := by decide +kernel
theorem dX3_readOrder_28 : decode cX3_readOrder 28 = .ok (.putfield 30, 3) := by decide +kernel
theorem dX3_readOrder_31 : decode cX3_readOrder 31 = .ok (.aload_n 0, 1) := by decide +kernel
theorem dX3_readOrder_32 : decode cX3_readOrder 32 = .ok (.getfield 22, 3) := by decide +kernel
theorem dX3_readOrder_35 : decode cX3_readOrder 35 = .ok (.invokestatic 51, 3) := by decide +kernel
theorem dX3_readOrder_38 : decode cX3_readOrder 38 = .ok (.astore_n 1, 1) := by decide +kernel
theorem dX3_readOrder_39 : decode cX3_readOrder 39 = .ok (.iconst 0, 1) := by decide +kernel
theorem dX3_readOrder_40 : decode cX3_readOrder 40 = .ok (.istore_n 2, 1) := by decide +kernel
theorem dX3_readOrder_41 : decode cX3_readOrder 41 = .ok (.iload_n 2, 1) := by decide +kernel
theorem dX3_readOrder_42 : decode cX3_readOrder 42 = .ok (.aload_n 1, 1) := by decide +kernel
theorem dX3_readOrder_43 : decode cX3_readOrder 43 = .ok (.invokevirtual 55, 3) := by decide +kernel
theorem dX3_readOrder_46 : decode cX3_readOrder 46 = .ok (.if_icmp .ge 23, 3) := by decide +kernel
theorem dX3_readOrder_49 : decode cX3_readOrder 49 = .ok (.aload_n 0, 1) := by decide +kernel
theorem dX3_readOrder_50 : decode cX3_readOrder 50 = .ok (.aload_n 1, 1) := by decide +kernel
theorem dX3_readOrder_51 : decode cX3_readOrder 51 = .ok (.iload_n 2, 1) := by decide +kernel
theorem dX3_readOrder_52 : decode cX3_readOrder 52 = .ok (.invokevirtual 60, 3) := by decide +kernel
theorem dX3_readOrder_55 : decode cX3_readOrder 55 = .ok (.invokevirtual 64, 3) := by decide +kernel
theorem dX3_readOrder_58 : decode cX3_readOrder 58 = .ok (.ifCond .ne 5, 3) := by decide +kernel
theorem dX3_readOrder_61 : decode cX3_readOrder 61 = .ok (.iconst 0, 1) := by decide +kernel
theorem dX3_readOrder_62 : decode cX3_readOrder 62 = .ok (.ireturn, 1) := by decide +kernel
theorem dX3_readOrder_63 : decode cX3_readOrder 63 = .ok (.iinc 2 1, 3) := by decide +kernel
theorem dX3_readOrder_66 : decode cX3_readOrder 66 = .ok (.goto (-25), 3) := by decide +kernel
theorem dX3_readOrder_69 : decode cX3_readOrder 69 = .ok (.aload_n 1, 1) := by decide +kernel
theorem dX3_readOrder_70 : decode cX3_readOrder 70 = .ok (.invokevirtual 67, 3) := by decide +kernel
theorem dX3_readOrder_73 : decode cX3_readOrder 73 = .ok (.ifCond .ne 7, 3) := by decide +kernel
theorem dX3_readOrder_76 : decode cX3_readOrder 76 = .ok (.iconst 1, 1) := by decide +kernel
theorem dX3_readOrder_77 : decode cX3_readOrder 77 = .ok (.goto 4, 3) := by decide +kernel
theorem dX3_readOrder_80 : decode cX3_readOrder 80 = .ok (.iconst 0, 1) := by decide +kernel
theorem dX3_readOrder_81 : decode cX3_readOrder 81 = .ok (.ireturn, 1) := by decide +kernel
theorem dX3_shapeOf_0 : decode cX3_shapeOf 0 = .ok (.iload_n 0, 1) := by decide +kernel
theorem dX3_shapeOf_1 : decode cX3_shapeOf 1 = .ok (.lookupswitch 77 #[(45, 74), (105, 59), (108, 62), (114, 65), (115, 68), (120, 71)], 59) := by decide +kernel
theorem dX3_shapeOf_60 : decode cX3_shapeOf 60 = .ok (.ldc 70, 2) := by decide +kernel
theorem dX3_shapeOf_62 : decode cX3_shapeOf 62 = .ok (.areturn, 1) := by decide +kernel
theorem dX3_shapeOf_63 : decode cX3_shapeOf 63 = .ok (.ldc 72, 2) := by decide +kernel
theorem dX3_shapeOf_65 : decode cX3_shapeOf 65 = .ok (.areturn, 1) := by decide +kernel
theorem dX3_shapeOf_66 : decode cX3_shapeOf 66 = .ok (.ldc 74, 2) := by decide +kernel
theorem dX3_shapeOf_68 : decode cX3_shapeOf 68 = .ok (.areturn, 1) := by decide +kernel
theorem dX3_shapeOf_69 : decode cX3_shapeOf 69 = .ok (.ldc 76, 2) := by decide +kernel
theorem dX3_shapeOf_71 : decode cX3_shapeOf 71 = .ok (.areturn, 1) := by decide +kernel
theorem dX3_shapeOf_72 : decode cX3_shapeOf 72 = .ok (.ldc 78, 2) := by decide +kernel
theorem dX3_shapeOf_74 : decode cX3_shapeOf 74 = .ok (.areturn, 1) := by decide +kernel
theorem dX3_shapeOf_75 : decode cX3_shapeOf 75 = .ok (.ldc 80, 2) := by decide +kernel
theorem dX3_shapeOf_77 : decode cX3_shapeOf 77 = .ok (.areturn, 1) := by decide +kernel
theorem dX3_shapeOf_78 : decode cX3_shapeOf 78 = .ok (.ldc 82, 2) := by decide +kernel
theorem dX3_shapeOf_80 : decode cX3_shapeOf 80 = .ok (.areturn, 1) := by decide +kernel
set_option maxRecDepth 20000 in
theorem ggX3_readPart_X3_readNumber : GoodIn wsX3_readPart wsX3_readNumber := goodIn_r _ [5, 6, 7, 8, 9, 4, 10, 11, 12, 13, 14, 15, 16, 17, 18, 19, 20, 21, 22, 34, 35, 36, 37, 38, 39] (by decide +kernel) (by decide +kernel)
set_option maxRecDepth 20000 in
theorem gX3_readPart_X3_readNumber : GoodIn wsX3_readPart (wsV RX3 84 RX3 yX3_readNumber wsX3_readNumber) := goodIn_app (goodIn_of _ (by decide +kernel)) ggX3_readPart_X3_readNumber
set_option maxRecDepth 20000 in
theorem ggX3_readPart_X3_readDigit : GoodIn wsX3_readPart wsX3_readDigit := goodIn_r _ [26, 6, 7, 8, 9, 4, 10, 11, 12, 13, 14, 15, 16, 27, 28, 29, 17, 18, 19, 20, 21, 22, 34, 35, 36, 37, 38, 39] (by decide +kernel) (by decide +kernel)
set_option maxRecDepth 20000 in
theorem gX3_readPart_X3_readDigit : GoodIn wsX3_readPart (wsV RX3 87 RX3 yX3_readDigit wsX3_readDigit) := goodIn_app (goodIn_of _ (by decide +kernel)) ggX3_readPart_X3_readDigit
set_option maxRecDepth 20000 in
theorem ggX3_readPart_X3_readSign : GoodIn wsX3_readPart wsX3_readSign := goodIn_r _ [33, 6, 11, 12, 13, 4, 14, 15, 16, 34, 35, 36, 37, 38, 39] (by decide +kernel) (by decide +kernel)
set_option maxRecDepth 20000 in
theorem gX3_readPart_X3_readSign : GoodIn wsX3_readPart (wsV RX3 43 RX3 yX3_readSign wsX3_readSign) := goodIn_app (goodIn_of _ (by decide +kernel)) ggX3_readPart_X3_readSign
theorem dX3_readPart_0 : decode cX3_readPart 0 = .ok (.iload_n 1, 1) := by decide +kernel
theorem dX3_readPart_1 : decode cX3_readPart 1 = .ok (.lookupswitch 37 #[(68, 32), (78, 27)], 27) := by decide +kernel
theorem dX3_readPart_28 : decode cX3_readPart 28 = .ok (.aload_n 0, 1) := by decide +kernel
theorem dX3_readPart_29 : decode cX3_readPart 29 = .ok (.invokevirtual 84, 3) := by decide +kernel
theorem dX3_readPart_32 : decode cX3_readPart 32 = .ok (.ireturn, 1) := by decide +kernel
theorem dX3_readPart_33 : decode cX3_readPart 33 = .ok (.aload_n 0, 1) := by decide +kernel
theorem dX3_readPart_34 : decode cX3_readPart 34 = .ok (.invokevirtual 87, 3) := by decide +kernel
theorem dX3_readPart_37 : decode cX3_readPart 37 = .ok (.ireturn, 1) := by decide +kernel
theorem dX3_readPart_38 : decode cX3_readPart 38 = .ok (.aload_n 0, 1) := by decide +kernel
theorem dX3_readPart_39 : decode cX3_readPart 39 = .ok (.iload_n 1, 1) := by decide +kernel
theorem dX3_readPart_40 : decode cX3_readPart 40 = .ok (.invokevirtual 43, 3) := by decide +kernel
theorem dX3_readPart_43 : decode cX3_readPart 43 = .ok (.ireturn, 1) := by decide +kernel
set_option maxRecDepth 20000 in
theorem ggX3_readSign_X3_here : GoodIn wsX3_readSign wsX3_here := goodIn_r _ [6, 1, 7, 8, 9, 10, 11, 12, 13, 14] (by decide +kernel) (by decide +kernel)
set_option maxRecDepth 20000 in
theorem gX3_readSign_X3_here : GoodIn wsX3_readSign (wsV RX3 47 RX3 yX3_here wsX3_here) := goodIn_app (goodIn_of _ (by decide +kernel)) ggX3_readSign_X3_here
theorem dX3_readSign_0 : decode cX3_readSign 0 = .ok (.aload_n 0, 1) := by decide +kernel
theorem dX3_readSign_1 : decode cX3_readSign 1 = .ok (.invokevirtual 47, 3) := by decide +kernel
theorem dX3_readSign_4 : decode cX3_readSign 4 = .ok (.iload_n 1, 1) := by decide +kernel
theorem dX3_readSign_5 : decode cX3_readSign 5 = .ok (.if_icmp .eq 5, 3) := by decide +kernel
theorem dX3_readSign_8 : decode cX3_readSign 8 = .ok (.iconst 0, 1) := by decide +kernel
theorem dX3_readSign_9 : decode cX3_readSign 9 = .ok (.ireturn, 1) := by decide +kernel
theorem dX3_readSign_10 : decode cX3_readSign 10 = .ok (.aload_n 0, 1) := by decide +kernel
theorem dX3_readSign_11 : decode cX3_readSign 11 = .ok (.dup, 1) := by decide +kernel
theorem dX3_readSign_12 : decode cX3_readSign 12 = .ok (.getfield 19, 3) := by decide +kernel
theorem dX3_readSign_15 : decode cX3_readSign 15 = .ok (.iconst 1, 1) := by decide +kernel
theorem dX3_readSign_16 : decode cX3_readSign 16 = .ok (.iadd, 1) := by decide +kernel
theorem dX3_readSign_17 : decode cX3_readSign 17 = .ok (.putfield 19, 3) := by decide +kernel
theorem dX3_readSign_20 : decode cX3_readSign 20 = .ok (.iconst 1, 1) := by decide +kernel
theorem dX3_readSign_21 : decode cX3_readSign 21 = .ok (.ireturn, 1) := by decide +kernel
set_option maxRecDepth 20000 in
theorem ggX3_readDigit_X3_digitHere : GoodIn wsX3_readDigit wsX3_digitHere := goodIn_r _ [6, 7, 8, 9, 5, 10, 1, 11, 12, 22, 23, 24, 25, 26, 27] (by decide +kernel) (by decide +kernel)
set_option maxRecDepth 20000 in
theorem gX3_readDigit_X3_digitHere : GoodIn wsX3_readDigit (wsV RX3 90 RX3 yX3_digitHere wsX3_digitHere) := goodIn_app (goodIn_of _ (by decide +kernel)) ggX3_readDigit_X3_digitHere
set_option maxRecDepth 20000 in
theorem ggX3_readDigit_X6_within : GoodIn wsX3_readDigit wsX6_within := goodIn_r _ [15] (by decide +kernel) (by decide +kernel)
set_option maxRecDepth 20000 in
theorem gX3_readDigit_X6_within_n93 : GoodIn wsX3_readDigit (wsX6_within) := ggX3_readDigit_X6_within
set_option maxRecDepth 20000 in
theorem ggX3_readDigit_X3_note : GoodIn wsX3_readDigit wsX3_note := goodIn_r _ [19, 20, 21, 22, 23, 24, 25, 26, 27] (by decide +kernel) (by decide +kernel)
set_option maxRecDepth 20000 in
theorem gX3_readDigit_X3_note : GoodIn wsX3_readDigit (wsV RX3 97 RX3 yX3_note wsX3_note) := goodIn_app (goodIn_of _ (by decide +kernel)) ggX3_readDigit_X3_note
theorem dX3_readDigit_0 : decode cX3_readDigit 0 = .ok (.aload_n 0, 1) := by decide +kernel
theorem dX3_readDigit_1 : decode cX3_readDigit 1 = .ok (.invokevirtual 90, 3) := by decide +kernel
theorem dX3_readDigit_4 : decode cX3_readDigit 4 = .ok (.istore_n 1, 1) := by decide +kernel
theorem dX3_readDigit_5 : decode cX3_readDigit 5 = .ok (.iload_n 1, 1) := by decide +kernel
theorem dX3_readDigit_6 : decode cX3_readDigit 6 = .ok (.iconst 0, 1) := by decide +kernel
theorem dX3_readDigit_7 : decode cX3_readDigit 7 = .ok (.iconst 2, 1) := by decide +kernel
theorem dX3_readDigit_8 : decode cX3_readDigit 8 = .ok (.invokestatic 93, 3) := by decide +kernel
theorem dX3_readDigit_11 : decode cX3_readDigit 11 = .ok (.ifCond .ne 5, 3) := by decide +kernel
theorem dX3_readDigit_14 : decode cX3_readDigit 14 = .ok (.iconst 0, 1) := by decide +kernel
theorem dX3_readDigit_15 : decode cX3_readDigit 15 = .ok (.ireturn, 1) := by decide +kernel
theorem dX3_readDigit_16 : decode cX3_readDigit 16 = .ok (.aload_n 0, 1) := by decide +kernel
theorem dX3_readDigit_17 : decode cX3_readDigit 17 = .ok (.dup, 1) := by decide +kernel
theorem dX3_readDigit_18 : decode cX3_readDigit 18 = .ok (.getfield 19, 3) := by decide +kernel
theorem dX3_readDigit_21 : decode cX3_readDigit 21 = .ok (.iconst 1, 1) := by decide +kernel
theorem dX3_readDigit_22 : decode cX3_readDigit 22 = .ok (.iadd, 1) := by decide +kernel
theorem dX3_readDigit_23 : decode cX3_readDigit 23 = .ok (.putfield 19, 3) := by decide +kernel
theorem dX3_readDigit_26 : decode cX3_readDigit 26 = .ok (.aload_n 0, 1) := by decide +kernel
theorem dX3_readDigit_27 : decode cX3_readDigit 27 = .ok (.iload_n 1, 1) := by decide +kernel
theorem dX3_readDigit_28 : decode cX3_readDigit 28 = .ok (.invokevirtual 97, 3) := by decide +kernel
theorem dX3_readDigit_31 : decode cX3_readDigit 31 = .ok (.iconst 1, 1) := by decide +kernel
theorem dX3_readDigit_32 : decode cX3_readDigit 32 = .ok (.ireturn, 1) := by decide +kernel
set_option maxRecDepth 20000 in
theorem ggX3_readNumber_X3_digitHere : GoodIn wsX3_readNumber wsX3_digitHere := goodIn_r _ [6, 7, 8, 9, 5, 10, 1, 11, 12, 19, 20, 21, 22, 23, 24] (by decide +kernel) (by decide +kernel)
set_option maxRecDepth 20000 in
theorem gX3_readNumber_X3_digitHere : GoodIn wsX3_readNumber (wsV RX3 90 RX3 yX3_digitHere wsX3_digitHere) := goodIn_app (goodIn_of _ (by decide +kernel)) ggX3_readNumber_X3_digitHere
set_option maxRecDepth 20000 in
theorem ggX3_readNumber_X3_note : GoodIn wsX3_readNumber wsX3_note := goodIn_r _ [16, 17, 18, 19, 20, 21, 22, 23, 24] (by decide +kernel) (by decide +kernel)
set_option maxRecDepth 20000 in
theorem gX3_readNumber_X3_note : GoodIn wsX3_readNumber (wsV RX3 97 RX3 yX3_note wsX3_note) := goodIn_app (goodIn_of _ (by decide +kernel)) ggX3_readNumber_X3_note
theorem dX3_readNumber_0 : decode cX3_readNumber 0 = .ok (.aload_n 0, 1) := by decide +kernel
theorem dX3_readNumber_1 : decode cX3_readNumber 1 = .ok (.invokevirtual 90, 3) := by decide +kernel
theorem dX3_readNumber_4 : decode cX3_readNumber 4 = .ok (.istore_n 1, 1) := by decide +kernel
theorem dX3_readNumber_5 : decode cX3_readNumber 5 = .ok (.iload_n 1, 1) := by decide +kernel
theorem dX3_readNumber_6 : decode cX3_readNumber 6 = .ok (.ifCond .ge 5, 3) := by decide +kernel
theorem dX3_readNumber_9 : decode cX3_readNumber 9 = .ok (.iconst 0, 1) := by decide +kernel
theorem dX3_readNumber_10 : decode cX3_readNumber 10 = .ok (.ireturn, 1) := by decide +kernel
theorem dX3_readNumber_11 : decode cX3_readNumber 11 = .ok (.aload_n 0, 1) := by decide +kernel
theorem dX3_readNumber_12 : decode cX3_readNumber 12 = .ok (.dup, 1) := by decide +kernel
theorem dX3_readNumber_13 : decode cX3_readNumber 13 = .ok (.getfield 19, 3) := by decide +kernel
theorem dX3_readNumber_16 : decode cX3_readNumber 16 = .ok (.iconst 1, 1) := by decide +kernel
theorem dX3_readNumber_17 : decode cX3_readNumber 17 = .ok (.iadd, 1) := by decide +kernel
theorem dX3_readNumber_18 : decode cX3_readNumber 18 = .ok (.putfield 19, 3) := by decide +kernel
theorem dX3_readNumber_21 : decode cX3_readNumber 21 = .ok (.iconst 0, 1) := by decide +kernel
theorem dX3_readNumber_22 : decode cX3_readNumber 22 = .ok (.istore_n 2, 1) := by decide +kernel
theorem dX3_readNumber_23 : decode cX3_readNumber 23 = .ok (.iload_n 2, 1) := by decide +kernel
theorem dX3_readNumber_24 : decode cX3_readNumber 24 = .ok (.iconst 2, 1) := by decide +kernel
theorem dX3_readNumber_25 : decode cX3_readNumber 25 = .ok (.if_icmp .ge 40, 3) := by decide +kernel
theorem dX3_readNumber_28 : decode cX3_readNumber 28 = .ok (.iload_n 1, 1) := by decide +kernel
theorem dX3_readNumber_29 : decode cX3_readNumber 29 = .ok (.ifCond .le 36, 3) := by decide +kernel
theorem dX3_readNumber_32 : decode cX3_readNumber 32 = .ok (.aload_n 0, 1) := by decide +kernel
theorem dX3_readNumber_33 : decode cX3_readNumber 33 = .ok (.invokevirtual 90, 3) := by decide +kernel
theorem dX3_readNumber_36 : decode cX3_readNumber 36 = .ok (.ifCond .lt 29, 3) := by decide +kernel
theorem dX3_readNumber_39 : decode cX3_readNumber 39 = .ok (.bipush 10, 2) := by decide +kernel
theorem dX3_readNumber_41 : decode cX3_readNumber 41 = .ok (.iload_n 1, 1) := by decide +kernel
theorem dX3_readNumber_42 : decode cX3_readNumber 42 = .ok (.imul, 1) := by decide +kernel
theorem dX3_readNumber_43 : decode cX3_readNumber 43 = .ok (.aload_n 0, 1) := by decide +kernel
theorem dX3_readNumber_44 : decode cX3_readNumber 44 = .ok (.invokevirtual 90, 3) := by decide +kernel
theorem dX3_readNumber_47 : decode cX3_readNumber 47 = .ok (.iadd, 1) := by decide +kernel
theorem dX3_readNumber_48 : decode cX3_readNumber 48 = .ok (.istore_n 1, 1) := by decide +kernel
theorem dX3_readNumber_49 : decode cX3_readNumber 49 = .ok (.aload_n 0, 1) := by decide +kernel
theorem dX3_readNumber_50 : decode cX3_readNumber 50 = .ok (.dup, 1) := by decide +kernel
theorem dX3_readNumber_51 : decode cX3_readNumber 51 = .ok (.getfield 19, 3) := by decide +kernel
theorem dX3_readNumber_54 : decode cX3_readNumber 54 = .ok (.iconst 1, 1) := by decide +kernel
theorem dX3_readNumber_55 : decode cX3_readNumber 55 = .ok (.iadd, 1) := by decide +kernel
theorem dX3_readNumber_56 : decode cX3_readNumber 56 = .ok (.putfield 19, 3) := by decide +kernel
theorem dX3_readNumber_59 : decode cX3_readNumber 59 = .ok (.iinc 2 1, 3) := by decide +kernel
theorem dX3_readNumber_62 : decode cX3_readNumber 62 = .ok (.goto (-39), 3) := by decide +kernel
theorem dX3_readNumber_65 : decode cX3_readNumber 65 = .ok (.aload_n 0, 1) := by decide +kernel
theorem dX3_readNumber_66 : decode cX3_readNumber 66 = .ok (.iload_n 1, 1) := by decide +kernel
theorem dX3_readNumber_67 : decode cX3_readNumber 67 = .ok (.invokevirtual 97, 3) := by decide +kernel
theorem dX3_readNumber_70 : decode cX3_readNumber 70 = .ok (.iconst 1, 1) := by decide +kernel
theorem dX3_readNumber_71 : decode cX3_readNumber 71 = .ok (.ireturn, 1) := by decide +kernel
theorem dX3_note_0 : decode cX3_note 0 = .ok (.aload_n 0, 1) := by decide +kernel
theorem dX3_note_1 : decode cX3_note 1 = .ok (.getfield 30, 3) := by decide +kernel
theorem dX3_note_4 : decode cX3_note 4 = .ok (.iconst 4, 1) := by decide +kernel
theorem dX3_note_5 : decode cX3_note 5 = .ok (.if_icmp .ge 23, 3) := by decide +kernel
theorem dX3_note_8 : decode cX3_note 8 = .ok (.aload_n 0, 1) := by decide +kernel
theorem dX3_note_9 : decode cX3_note 9 = .ok (.getfield 26, 3) := by decide +kernel
theorem dX3_note_12 : decode cX3_note 12 = .ok (.aload_n 0, 1) := by decide +kernel
theorem dX3_note_13 : decode cX3_note 13 = .ok (.getfield 30, 3) := by decide +kernel
theorem dX3_note_16 : decode cX3_note 16 = .ok (.iload_n 1, 1) := by decide +kernel
theorem dX3_note_17 : decode cX3_note 17 = .ok (.iastore, 1) := by decide +kernel
theorem dX3_note_18 : decode cX3_note 18 = .ok (.aload_n 0, 1) := by decide +kernel
theorem dX3_note_19 : decode cX3_note 19 = .ok (.dup, 1) := by decide +kernel
theorem dX3_note_20 : decode cX3_note 20 = .ok (.getfield 30, 3) := by decide +kernel
theorem dX3_note_23 : decode cX3_note 23 = .ok (.iconst 1, 1) := by decide +kernel
theorem dX3_note_24 : decode cX3_note 24 = .ok (.iadd, 1) := by decide +kernel
theorem dX3_note_25 : decode cX3_note 25 = .ok (.putfield 30, 3) := by decide +kernel
theorem dX3_note_28 : decode cX3_note 28 = .ok (.return_, 1) := by decide +kernel
set_option maxRecDepth 20000 in
theorem ggX3_digitHere_X3_here : GoodIn wsX3_digitHere wsX3_here := goodIn_r _ [5, 6, 7, 8, 9, 10, 11, 12, 13, 14] (by decide +kernel) (by decide +kernel)
set_option maxRecDepth 20000 in
theorem gX3_digitHere_X3_here : GoodIn wsX3_digitHere (wsV RX3 47 RX3 yX3_here wsX3_here) := goodIn_app (goodIn_of _ (by decide +kernel)) ggX3_digitHere_X3_here
theorem dX3_digitHere_0 : decode cX3_digitHere 0 = .ok (.aload_n 0, 1) := by decide +kernel
theorem dX3_digitHere_1 : decode cX3_digitHere 1 = .ok (.invokevirtual 47, 3) := by decide +kernel
theorem dX3_digitHere_4 : decode cX3_digitHere 4 = .ok (.istore_n 1, 1) := by decide +kernel
theorem dX3_digitHere_5 : decode cX3_digitHere 5 = .ok (.iload_n 1, 1) := by decide +kernel
theorem dX3_digitHere_6 : decode cX3_digitHere 6 = .ok (.bipush 48, 2) := by decide +kernel
theorem dX3_digitHere_8 : decode cX3_digitHere 8 = .ok (.if_icmp .lt 16, 3) := by decide +kernel
theorem dX3_digitHere_11 : decode cX3_digitHere 11 = .ok (.iload_n 1, 1) := by decide +kernel
theorem dX3_digitHere_12 : decode cX3_digitHere 12 = .ok (.bipush 57, 2) := by decide +kernel
theorem dX3_digitHere_14 : decode cX3_digitHere 14 = .ok (.if_icmp .gt 10, 3) := by decide +kernel
theorem dX3_digitHere_17 : decode cX3_digitHere 17 = .ok (.iload_n 1, 1) := by decide +kernel
theorem dX3_digitHere_18 : decode cX3_digitHere 18 = .ok (.bipush 48, 2) := by decide +kernel
theorem dX3_digitHere_20 : decode cX3_digitHere 20 = .ok (.isub, 1) := by decide +kernel
theorem dX3_digitHere_21 : decode cX3_digitHere 21 = .ok (.goto 4, 3) := by decide +kernel
theorem dX3_digitHere_24 : decode cX3_digitHere 24 = .ok (.iconst (-1), 1) := by decide +kernel
theorem dX3_digitHere_25 : decode cX3_digitHere 25 = .ok (.ireturn, 1) := by decide +kernel
theorem dX3_here_0 : decode cX3_here 0 = .ok (.aload_n 0, 1) := by decide +kernel
theorem dX3_here_1 : decode cX3_here 1 = .ok (.getfield 19, 3) := by decide +kernel
theorem dX3_here_4 : decode cX3_here 4 = .ok (.aload_n 0, 1) := by decide +kernel
theorem dX3_here_5 : decode cX3_here 5 = .ok (.getfield 15, 3) := by decide +kernel
theorem dX3_here_8 : decode cX3_here 8 = .ok (.if_icmp .ge 24, 3) := by decide +kernel
theorem dX3_here_11 : decode cX3_here 11 = .ok (.aload_n 0, 1) := by decide +kernel
theorem dX3_here_12 : decode cX3_here 12 = .ok (.getfield 19, 3) := by decide +kernel
theorem dX3_here_15 : decode cX3_here 15 = .ok (.bipush 80, 2) := by decide +kernel
theorem dX3_here_17 : decode cX3_here 17 = .ok (.if_icmp .ge 15, 3) := by decide +kernel
theorem dX3_here_20 : decode cX3_here 20 = .ok (.aload_n 0, 1) := by decide +kernel
theorem dX3_here_21 : decode cX3_here 21 = .ok (.getfield 9, 3) := by decide +kernel
theorem dX3_here_24 : decode cX3_here 24 = .ok (.aload_n 0, 1) := by decide +kernel
theorem dX3_here_25 : decode cX3_here 25 = .ok (.getfield 19, 3) := by decide +kernel
theorem dX3_here_28 : decode cX3_here 28 = .ok (.caload, 1) := by decide +kernel
theorem dX3_here_29 : decode cX3_here 29 = .ok (.goto 4, 3) := by decide +kernel
theorem dX3_here_32 : decode cX3_here 32 = .ok (.iconst 0, 1) := by decide +kernel
theorem dX3_here_33 : decode cX3_here 33 = .ok (.ireturn, 1) := by decide +kernel
theorem dX4_init_0 : decode cX4_init 0 = .ok (.aload_n 0, 1) := by decide +kernel
theorem dX4_init_1 : decode cX4_init 1 = .ok (.invokespecial 3, 3) := by decide +kernel
theorem dX4_init_4 : decode cX4_init 4 = .ok (.aload_n 0, 1) := by decide +kernel
theorem dX4_init_5 : decode cX4_init 5 = .ok (.iconst 3, 1) := by decide +kernel
theorem dX4_init_6 : decode cX4_init 6 = .ok (.newarray .int, 2) := by decide +kernel
theorem dX4_init_8 : decode cX4_init 8 = .ok (.putfield 9, 3) := by decide +kernel
theorem dX4_init_11 : decode cX4_init 11 = .ok (.aload_n 0, 1) := by decide +kernel
theorem dX4_init_12 : decode cX4_init 12 = .ok (.bipush 17, 2) := by decide +kernel
theorem dX4_init_14 : decode cX4_init 14 = .ok (.newarray .int, 2) := by decide +kernel
theorem dX4_init_16 : decode cX4_init 16 = .ok (.putfield 15, 3) := by decide +kernel
theorem dX4_init_19 : decode cX4_init 19 = .ok (.return_, 1) := by decide +kernel
set_option maxRecDepth 20000 in
theorem ggX4_greatestWorth_X4_start : GoodIn wsX4_greatestWorth wsX4_start := goodIn_r _ [7, 8, 1, 9, 10, 11, 12, 13, 2, 14, 39, 40, 41, 42, 37, 38] (by decide +kernel) (by decide +kernel)
set_option maxRecDepth 20000 in
theorem gX4_greatestWorth_X4_start : GoodIn wsX4_greatestWorth (wsV RX4 18 RX4 yX4_start wsX4_start) := goodIn_app (goodIn_of _ (by decide +kernel)) ggX4_greatestWorth_X4_start
set_option maxRecDepth 20000 in
theorem ggX4_greatestWorth_X6_isDimension : GoodIn wsX4_greatestWorth wsX6_isDimension := goodIn_r _ [17, 18, 19, 16, 20] (by decide +kernel) (by decide +kernel)
set_option maxRecDepth 20000 in
theorem gX4_greatestWorth_X6_isDimension_n22 : GoodIn wsX4_greatestWorth (wsX6_isDimension) := ggX4_greatestWorth_X6_isDimension
set_option maxRecDepth 20000 in
theorem ggX4_greatestWorth_X4_greatest : GoodIn wsX4_greatestWorth wsX4_greatest := goodIn_r _ [23, 24, 25, 26, 27, 13, 14, 19, 16, 20, 28, 29, 30, 6, 31, 32, 1, 33, 34, 35, 36, 21, 22, 37, 38, 39, 40, 41, 42] (by decide +kernel) (by decide +kernel)
set_option maxRecDepth 20000 in
theorem gX4_greatestWorth_X4_greatest : GoodIn wsX4_greatestWorth (va_wsS RX4 32 yX4_greatest wsX4_greatest) := goodIn_app (goodIn_of _ (by decide +kernel)) ggX4_greatestWorth_X4_greatest
theorem dX4_greatestWorth_0 : decode cX4_greatestWorth 0 = .ok (.aload_n 0, 1) := by decide +kernel
theorem dX4_greatestWorth_1 : decode cX4_greatestWorth 1 = .ok (.aload_n 1, 1) := by decide +kernel
theorem dX4_greatestWorth_2 : decode cX4_greatestWorth 2 = .ok (.invokevirtual 18, 3) := by decide +kernel
theorem dX4_greatestWorth_5 : decode cX4_greatestWorth 5 = .ok (.iload_n 2, 1) := by decide +kernel
theorem dX4_greatestWorth_6 : decode cX4_greatestWorth 6 = .ok (.invokestatic 22, 3) := by decide +kernel
theorem dX4_greatestWorth_9 : decode cX4_greatestWorth 9 = .ok (.ifCond .eq 13, 3) := by decide +kernel
theorem dX4_greatestWorth_12 : decode cX4_greatestWorth 12 = .ok (.aload_n 0, 1) := by decide +kernel
theorem dX4_greatestWorth_13 : decode cX4_greatestWorth 13 = .ok (.getfield 9, 3) := by decide +kernel
theorem dX4_greatestWorth_16 : decode cX4_greatestWorth 16 = .ok (.iload_n 2, 1) := by decide +kernel
theorem dX4_greatestWorth_17 : decode cX4_greatestWorth 17 = .ok (.dup2, 1) := by decide +kernel
theorem dX4_greatestWorth_18 : decode cX4_greatestWorth 18 = .ok (.iaload, 1) := by decide +kernel
theorem dX4_greatestWorth_19 : decode cX4_greatestWorth 19 = .ok (.iload_n 3, 1) := by decide +kernel
theorem dX4_greatestWorth_20 : decode cX4_greatestWorth 20 = .ok (.iadd, 1) := by decide +kernel
theorem dX4_greatestWorth_21 : decode cX4_greatestWorth 21 = .ok (.iastore, 1) := by decide +kernel
theorem dX4_greatestWorth_22 : decode cX4_greatestWorth 22 = .ok (.aload_n 0, 1) := by decide +kernel
theorem dX4_greatestWorth_23 : decode cX4_greatestWorth 23 = .ok (.aload_n 1, 1) := by decide +kernel
theorem dX4_greatestWorth_24 : decode cX4_greatestWorth 24 = .ok (.aload_n 1, 1) := by decide +kernel
theorem dX4_greatestWorth_25 : decode cX4_greatestWorth 25 = .ok (.getfield 26, 3) := by decide +kernel
theorem dX4_greatestWorth_28 : decode cX4_greatestWorth 28 = .ok (.iconst 0, 1) := by decide +kernel
theorem dX4_greatestWorth_29 : decode cX4_greatestWorth 29 = .ok (.iconst 0, 1) := by decide +kernel
theorem dX4_greatestWorth_30 : decode cX4_greatestWorth 30 = .ok (.invokestatic 32, 3) := by decide +kernel
theorem dX4_greatestWorth_33 : decode cX4_greatestWorth 33 = .ok (.ireturn, 1) := by decide +kernel
set_option maxRecDepth 20000 in
theorem ggX4_leastBestSet_X4_greatestWorth : GoodIn wsX4_leastBestSet wsX4_greatestWorth := goodIn_r _ [6, 7, 1, 8, 9, 10, 5, 11, 12, 13, 14, 15, 16, 17, 18, 19, 20, 21, 22, 23, 24, 25, 26, 27, 28, 29, 30, 31, 32, 33, 34, 35, 36, 37, 38, 39, 40, 48, 49, 44, 45, 46, 47] (by decide +kernel) (by decide +kernel)
set_option maxRecDepth 20000 in
theorem gX4_leastBestSet_X4_greatestWorth : GoodIn wsX4_leastBestSet (wsV RX4 36 RX4 yX4_greatestWorth wsX4_greatestWorth) := goodIn_app (goodIn_of _ (by decide +kernel)) ggX4_leastBestSet_X4_greatestWorth
set_option maxRecDepth 20000 in
theorem ggX4_leastBestSet_X4_start : GoodIn wsX4_leastBestSet wsX4_start := goodIn_r _ [11, 12, 7, 13, 14, 15, 16, 17, 1, 18, 44, 45, 46, 47, 48, 49] (by decide +kernel) (by decide +kernel)
set_option maxRecDepth 20000 in
theorem gX4_leastBestSet_X4_start : GoodIn wsX4_leastBestSet (wsV RX4 18 RX4 yX4_start wsX4_start) := goodIn_app (goodIn_of _ (by decide +kernel)) ggX4_leastBestSet_X4_start
set_option maxRecDepth 20000 in
theorem ggX4_leastBestSet_X4_least : GoodIn wsX4_leastBestSet wsX4_least := goodIn_r _ [43, 17, 18, 23, 20, 24, 41, 42, 5, 32, 33, 34, 35, 36, 7, 37, 38, 39, 40, 48, 49, 44, 45, 46, 47] (by decide +kernel) (by decide +kernel)
set_option maxRecDepth 20000 in
theorem gX4_leastBestSet_X4_least : GoodIn wsX4_leastBestSet (va_wsS RX4 40 yX4_least wsX4_least) := goodIn_app (goodIn_of _ (by decide +kernel)) ggX4_leastBestSet_X4_least
theorem dX4_leastBestSet_0 : decode cX4_leastBestSet 0 = .ok (.aload_n 0, 1) := by decide +kernel
theorem dX4_leastBestSet_1 : decode cX4_leastBestSet 1 = .ok (.aload_n 1, 1) := by decide +kernel
theorem dX4_leastBestSet_2 : decode cX4_leastBestSet 2 = .ok (.iconst 0, 1) := by decide +kernel
theorem dX4_leastBestSet_3 : decode cX4_leastBestSet 3 = .ok (.iconst 0, 1) := by decide +kernel
theorem dX4_leastBestSet_4 : decode cX4_leastBestSet 4 = .ok (.invokevirtual 36, 3) := by decide +kernel
theorem dX4_leastBestSet_7 : decode cX4_leastBestSet 7 = .ok (.istore_n 2, 1) := by decide +kernel
theorem dX4_leastBestSet_8 : decode cX4_leastBestSet 8 = .ok (.aload_n 0, 1) := by decide +kernel
theorem dX4_leastBestSet_9 : decode cX4_leastBestSet 9 = .ok (.aload_n 1, 1) := by decide +kernel
theorem dX4_leastBestSet_10 : decode cX4_leastBestSet 10 = .ok (.invokevirtual 18, 3) := by decide +kernel
theorem dX4_leastBestSet_13 : decode cX4_leastBestSet 13 = .ok (.aload_n 0, 1) := by decide +kernel
theorem dX4_leastBestSet_14 : decode cX4_leastBestSet 14 = .ok (.aload_n 1, 1) := by decide +kernel
theorem dX4_leastBestSet_15 : decode cX4_leastBestSet 15 = .ok (.aload_n 1, 1) := by decide +kernel
theorem dX4_leastBestSet_16 : decode cX4_leastBestSet 16 = .ok (.getfield 26, 3) := by decide +kernel
theorem dX4_leastBestSet_19 : decode cX4_leastBestSet 19 = .ok (.iload_n 2, 1) := by decide +kernel
theorem dX4_leastBestSet_20 : decode cX4_leastBestSet 20 = .ok (.iconst 0, 1) := by decide +kernel
theorem dX4_leastBestSet_21 : decode cX4_leastBestSet 21 = .ok (.invokestatic 40, 3) := by decide +kernel
theorem dX4_leastBestSet_24 : decode cX4_leastBestSet 24 = .ok (.ireturn, 1) := by decide +kernel
theorem dX4_start_0 : decode cX4_start 0 = .ok (.aload_n 1, 1) := by decide +kernel
theorem dX4_start_1 : decode cX4_start 1 = .ok (.getfield 43, 3) := by decide +kernel
theorem dX4_start_4 : decode cX4_start 4 = .ok (.iconst 0, 1) := by decide +kernel
theorem dX4_start_5 : decode cX4_start 5 = .ok (.aload_n 0, 1) := by decide +kernel
theorem dX4_start_6 : decode cX4_start 6 = .ok (.getfield 9, 3) := by decide +kernel
theorem dX4_start_9 : decode cX4_start 9 = .ok (.iconst 0, 1) := by decide +kernel
theorem dX4_start_10 : decode cX4_start 10 = .ok (.iconst 3, 1) := by decide +kernel
theorem dX4_start_11 : decode cX4_start 11 = .ok (.invokestatic 46, 3) := by decide +kernel
theorem dX4_start_14 : decode cX4_start 14 = .ok (.aload_n 0, 1) := by decide +kernel
theorem dX4_start_15 : decode cX4_start 15 = .ok (.getfield 15, 3) := by decide +kernel
theorem dX4_start_18 : decode cX4_start 18 = .ok (.iconst 0, 1) := by decide +kernel
theorem dX4_start_19 : decode cX4_start 19 = .ok (.iconst 0, 1) := by decide +kernel
theorem dX4_start_20 : decode cX4_start 20 = .ok (.iastore, 1) := by decide +kernel
theorem dX4_start_21 : decode cX4_start 21 = .ok (.iconst 0, 1) := by decide +kernel
theorem dX4_start_22 : decode cX4_start 22 = .ok (.istore_n 2, 1) := by decide +kernel
theorem dX4_start_23 : decode cX4_start 23 = .ok (.iload_n 2, 1) := by decide +kernel
theorem dX4_start_24 : decode cX4_start 24 = .ok (.aload_n 1, 1) := by decide +kernel
theorem dX4_start_25 : decode cX4_start 25 = .ok (.getfield 26, 3) := by decide +kernel
theorem dX4_start_28 : decode cX4_start 28 = .ok (.if_icmp .ge 30, 3) := by decide +kernel
theorem dX4_start_31 : decode cX4_start 31 = .ok (.aload_n 0, 1) := by decide +kernel
theorem dX4_start_32 : decode cX4_start 32 = .ok (.getfield 15, 3) := by decide +kernel
theorem dX4_start_35 : decode cX4_start 35 = .ok (.iload_n 2, 1) := by decide +kernel
theorem dX4_start_36 : decode cX4_start 36 = .ok (.iconst 1, 1) := by decide +kernel
theorem dX4_start_37 : decode cX4_start 37 = .ok (.iadd, 1) := by decide +kernel
theorem dX4_start_38 : decode cX4_start 38 = .ok (.aload_n 0, 1) := by decide +kernel
theorem dX4_start_39 : decode cX4_start 39 = .ok (.getfield 15, 3) := by decide +kernel
theorem dX4_start_42 : decode cX4_start 42 = .ok (.iload_n 2, 1) := by decide +kernel
theorem dX4_start_43 : decode cX4_start 43 = .ok (.iaload, 1) := by decide +kernel
theorem dX4_start_44 : decode cX4_start 44 = .ok (.aload_n 1, 1) := by decide +kernel
theorem dX4_start_45 : decode cX4_start 45 = .ok (.getfield 52, 3) := by decide +kernel
theorem dX4_start_48 : decode cX4_start 48 = .ok (.iload_n 2, 1) := by decide +kernel
theorem dX4_start_49 : decode cX4_start 49 = .ok (.iaload, 1) := by decide +kernel
theorem dX4_start_50 : decode cX4_start 50 = .ok (.iadd, 1) := by decide +kernel
theorem dX4_start_51 : decode cX4_start 51 = .ok (.iastore, 1) := by decide +kernel
theorem dX4_start_52 : decode cX4_start 52 = .ok (.iinc 2 1, 3) := by decide +kernel
theorem dX4_start_55 : decode cX4_start 55 = .ok (.goto (-32), 3) := by decide +kernel
theorem dX4_start_58 : decode cX4_start 58 = .ok (.return_, 1) := by decide +kernel
set_option maxRecDepth 20000 in
theorem ggX4_greatest_X6_within : GoodIn wsX4_greatest wsX6_within := goodIn_r _ [9] (by decide +kernel) (by decide +kernel)
set_option maxRecDepth 20000 in
theorem gX4_greatest_X6_within_n55 : GoodIn wsX4_greatest (wsX6_within) := ggX4_greatest_X6_within
set_option maxRecDepth 20000 in
theorem ggX4_greatest_X4_hasRoomFor : GoodIn wsX4_greatest wsX4_hasRoomFor := goodIn_r _ [14, 15, 16, 25, 26, 27, 28, 23, 24] (by decide +kernel) (by decide +kernel)
set_option maxRecDepth 20000 in
theorem gX4_greatest_X4_hasRoomFor : GoodIn wsX4_greatest (wsV RX4 65 RX4 yX4_hasRoomFor wsX4_hasRoomFor) := goodIn_app (goodIn_of _ (by decide +kernel)) ggX4_greatest_X4_hasRoomFor
set_option maxRecDepth 20000 in
theorem ggX4_greatest_X4_leave : GoodIn wsX4_greatest wsX4_leave := goodIn_r _ [20, 16, 15, 23, 24, 25, 26, 27, 28] (by decide +kernel) (by decide +kernel)
set_option maxRecDepth 20000 in
theorem gX4_greatest_X4_leave : GoodIn wsX4_greatest (wsV RX4 69 RX4 yX4_leave wsX4_leave) := goodIn_app (goodIn_of _ (by decide +kernel)) ggX4_greatest_X4_leave
set_option maxRecDepth 20000 in
theorem ggX4_greatest_X4_greatest : GoodIn wsX4_greatest wsX4_greatest := goodIn_r _ [0, 1, 2, 3, 4, 5, 6, 7, 8, 9, 10, 11, 12, 13, 14, 15, 16, 17, 18, 19, 20, 21, 22, 23, 24, 25, 26, 27, 28] (by decide +kernel) (by decide +kernel)
set_option maxRecDepth 20000 in
theorem gX4_greatest_X4_greatest : GoodIn wsX4_greatest (va_wsS RX4 32 yX4_greatest wsX4_greatest) := goodIn_app (goodIn_of _ (by decide +kernel)) ggX4_greatest_X4_greatest
theorem dX4_greatest_0 : decode cX4_greatest 0 = .ok (.iload_n 2, 1) := by decide +kernel
theorem dX4_greatest_1 : decode cX4_greatest 1 = .ok (.iconst 1, 1) := by decide +kernel
theorem dX4_greatest_2 : decode cX4_greatest 2 = .ok (.bipush 16, 2) := by decide +kernel
theorem dX4_greatest_4 : decode cX4_greatest 4 = .ok (.invokestatic 55, 3) := by decide +kernel
theorem dX4_greatest_7 : decode cX4_greatest 7 = .ok (.ifCond .ne 10, 3) := by decide +kernel
theorem dX4_greatest_10 : decode cX4_greatest 10 = .ok (.iload 4, 2) := by decide +kernel
theorem dX4_greatest_12 : decode cX4_greatest 12 = .ok (.iload_n 3, 1) := by decide +kernel
theorem dX4_greatest_13 : decode cX4_greatest 13 = .ok (.invokestatic 59, 3) := by decide +kernel
theorem dX4_greatest_16 : decode cX4_greatest 16 = .ok (.ireturn, 1) := by decide +kernel
theorem dX4_greatest_17 : decode cX4_greatest 17 = .ok (.iload_n 3, 1) := by decide +kernel
theorem dX4_greatest_18 : decode cX4_greatest 18 = .ok (.aload_n 0, 1) := by decide +kernel
theorem dX4_greatest_19 : decode cX4_greatest 19 = .ok (.getfield 15, 3) := by decide +kernel
theorem dX4_greatest_22 : decode cX4_greatest 22 = .ok (.iload_n 2, 1) := by decide +kernel
theorem dX4_greatest_23 : decode cX4_greatest 23 = .ok (.iaload, 1) := by decide +kernel
theorem dX4_greatest_24 : decode cX4_greatest 24 = .ok (.iadd, 1) := by decide +kernel
theorem dX4_greatest_25 : decode cX4_greatest 25 = .ok (.iload 4, 2) := by decide +kernel
theorem dX4_greatest_27 : decode cX4_greatest 27 = .ok (.if_icmp .gt 6, 3) := by decide +kernel
theorem dX4_greatest_30 : decode cX4_greatest 30 = .ok (.iload 4, 2) := by decide +kernel
theorem dX4_greatest_32 : decode cX4_greatest 32 = .ok (.ireturn, 1) := by decide +kernel
theorem dX4_greatest_33 : decode cX4_greatest 33 = .ok (.iload_n 2, 1) := by decide +kernel
theorem dX4_greatest_34 : decode cX4_greatest 34 = .ok (.iconst 1, 1) := by decide +kernel
theorem dX4_greatest_35 : decode cX4_greatest 35 = .ok (.isub, 1) := by decide +kernel
theorem dX4_greatest_36 : decode cX4_greatest 36 = .ok (.istore 5, 2) := by decide +kernel
theorem dX4_greatest_38 : decode cX4_greatest 38 = .ok (.iload 4, 2) := by decide +kernel
theorem dX4_greatest_40 : decode cX4_greatest 40 = .ok (.istore 6, 2) := by decide +kernel
theorem dX4_greatest_42 : decode cX4_greatest 42 = .ok (.aload_n 0, 1) := by decide +kernel
theorem dX4_greatest_43 : decode cX4_greatest 43 = .ok (.aload_n 1, 1) := by decide +kernel
theorem dX4_greatest_44 : decode cX4_greatest 44 = .ok (.iload 5, 2) := by decide +kernel
theorem dX4_greatest_46 : decode cX4_greatest 46 = .ok (.invokevirtual 65, 3) := by decide +kernel
theorem dX4_greatest_49 : decode cX4_greatest 49 = .ok (.ifCond .eq 39, 3) := by decide +kernel
theorem dX4_greatest_52 : decode cX4_greatest 52 = .ok (.aload_n 0, 1) := by decide +kernel
theorem dX4_greatest_53 : decode cX4_greatest 53 = .ok (.aload_n 1, 1) := by decide +kernel
theorem dX4_greatest_54 : decode cX4_greatest 54 = .ok (.iload 5, 2) := by decide +kernel
theorem dX4_greatest_56 : decode cX4_greatest 56 = .ok (.iconst (-1), 1) := by decide +kernel
theorem dX4_greatest_57 : decode cX4_greatest 57 = .ok (.invokevirtual 69, 3) := by decide +kernel
theorem dX4_greatest_60 : decode cX4_greatest 60 = .ok (.aload_n 0, 1) := by decide +kernel
theorem dX4_greatest_61 : decode cX4_greatest 61 = .ok (.aload_n 1, 1) := by decide +kernel
theorem dX4_greatest_62 : decode cX4_greatest 62 = .ok (.iload 5, 2) := by decide +kernel
theorem dX4_greatest_64 : decode cX4_greatest 64 = .ok (.iload_n 3, 1) := by decide +kernel
theorem dX4_greatest_65 : decode cX4_greatest 65 = .ok (.aload_n 1, 1) := by decide +kernel
theorem dX4_greatest_66 : decode cX4_greatest 66 = .ok (.getfield 52, 3) := by decide +kernel
theorem dX4_greatest_69 : decode cX4_greatest 69 = .ok (.iload 5, 2) := by decide +kernel
theorem dX4_greatest_71 : decode cX4_greatest 71 = .ok (.iaload, 1) := by decide +kernel
theorem dX4_greatest_72 : decode cX4_greatest 72 = .ok (.iadd, 1) := by decide +kernel
theorem dX4_greatest_73 : decode cX4_greatest 73 = .ok (.iload 6, 2) := by decide +kernel
theorem dX4_greatest_75 : decode cX4_greatest 75 = .ok (.invokestatic 32, 3) := by decide +kernel
theorem dX4_greatest_78 : decode cX4_greatest 78 = .ok (.istore 6, 2) := by decide +kernel
theorem dX4_greatest_80 : decode cX4_greatest 80 = .ok (.aload_n 0, 1) := by decide +kernel
theorem dX4_greatest_81 : decode cX4_greatest 81 = .ok (.aload_n 1, 1) := by decide +kernel
theorem dX4_greatest_82 : decode cX4_greatest 82 = .ok (.iload 5, 2) := by decide +kernel
theorem dX4_greatest_84 : decode cX4_greatest 84 = .ok (.iconst 1, 1) := by decide +kernel
theorem dX4_greatest_85 : decode cX4_greatest 85 = .ok (.invokevirtual 69, 3) := by decide +kernel
theorem dX4_greatest_88 : decode cX4_greatest 88 = .ok (.aload_n 0, 1) := by decide +kernel
theorem dX4_greatest_89 : decode cX4_greatest 89 = .ok (.aload_n 1, 1) := by decide +kernel
theorem dX4_greatest_90 : decode cX4_greatest 90 = .ok (.iload 5, 2) := by decide +kernel
theorem dX4_greatest_92 : decode cX4_greatest 92 = .ok (.iload_n 3, 1) := by decide +kernel
theorem dX4_greatest_93 : decode cX4_greatest 93 = .ok (.iload 6, 2) := by decide +kernel
theorem dX4_greatest_95 : decode cX4_greatest 95 = .ok (.invokestatic 32, 3) := by decide +kernel
theorem dX4_greatest_98 : decode cX4_greatest 98 = .ok (.ireturn, 1) := by decide +kernel
set_option maxRecDepth 20000 in
theorem ggX4_least_X6_within : GoodIn wsX4_least wsX6_within := goodIn_r _ [5] (by decide +kernel) (by decide +kernel)
set_option maxRecDepth 20000 in
theorem gX4_least_X6_within_n55 : GoodIn wsX4_least (wsX6_within) := ggX4_least_X6_within
set_option maxRecDepth 20000 in
theorem ggX4_least_X4_least : GoodIn wsX4_least wsX4_least := goodIn_r _ [0, 1, 2, 3, 4, 5, 6, 7, 8, 9, 10, 11, 12, 13, 14, 15, 16, 17, 18, 19, 20, 21, 22, 23, 24] (by decide +kernel) (by decide +kernel)
set_option maxRecDepth 20000 in
theorem gX4_least_X4_least : GoodIn wsX4_least (va_wsS RX4 40 yX4_least wsX4_least) := goodIn_app (goodIn_of _ (by decide +kernel)) ggX4_least_X4_least
set_option maxRecDepth 20000 in
theorem ggX4_least_X4_hasRoomFor : GoodIn wsX4_least wsX4_hasRoomFor := goodIn_r _ [12, 13, 14, 21, 22, 23, 24, 19, 20] (by decide +kernel) (by decide +kernel)
set_option maxRecDepth 20000 in
theorem gX4_least_X4_hasRoomFor : GoodIn wsX4_least (wsV RX4 65 RX4 yX4_hasRoomFor wsX4_hasRoomFor) := goodIn_app (goodIn_of _ (by decide +kernel)) ggX4_least_X4_hasRoomFor
set_option maxRecDepth 20000 in
theorem ggX4_least_X4_leave : GoodIn wsX4_least wsX4_leave := goodIn_r _ [18, 14, 13, 19, 20, 21, 22, 23, 24] (by decide +kernel) (by decide +kernel)
set_option maxRecDepth 20000 in
theorem gX4_least_X4_leave : GoodIn wsX4_least (wsV RX4 69 RX4 yX4_leave wsX4_leave) := goodIn_app (goodIn_of _ (by decide +kernel)) ggX4_least_X4_leave
theorem dX4_least_0 : decode cX4_least 0 = .ok (.iload_n 3, 1) := by decide +kernel
theorem dX4_least_1 : decode cX4_least 1 = .ok (.ifCond .gt 6, 3) := by decide +kernel
theorem dX4_least_4 : decode cX4_least 4 = .ok (.iload 4, 2) := by decide +kernel
theorem dX4_least_6 : decode cX4_least 6 = .ok (.ireturn, 1) := by decide +kernel
theorem dX4_least_7 : decode cX4_least 7 = .ok (.iload_n 2, 1) := by decide +kernel
theorem dX4_least_8 : decode cX4_least 8 = .ok (.iconst 1, 1) := by decide +kernel
theorem dX4_least_9 : decode cX4_least 9 = .ok (.bipush 16, 2) := by decide +kernel
theorem dX4_least_11 : decode cX4_least 11 = .ok (.invokestatic 55, 3) := by decide +kernel
theorem dX4_least_14 : decode cX4_least 14 = .ok (.ifCond .eq 13, 3) := by decide +kernel
theorem dX4_least_17 : decode cX4_least 17 = .ok (.aload_n 0, 1) := by decide +kernel
theorem dX4_least_18 : decode cX4_least 18 = .ok (.getfield 15, 3) := by decide +kernel
theorem dX4_least_21 : decode cX4_least 21 = .ok (.iload_n 2, 1) := by decide +kernel
theorem dX4_least_22 : decode cX4_least 22 = .ok (.iaload, 1) := by decide +kernel
theorem dX4_least_23 : decode cX4_least 23 = .ok (.iload_n 3, 1) := by decide +kernel
theorem dX4_least_24 : decode cX4_least 24 = .ok (.if_icmp .ge 5, 3) := by decide +kernel
theorem dX4_least_27 : decode cX4_least 27 = .ok (.iconst (-1), 1) := by decide +kernel
theorem dX4_least_28 : decode cX4_least 28 = .ok (.ireturn, 1) := by decide +kernel
theorem dX4_least_29 : decode cX4_least 29 = .ok (.iload_n 2, 1) := by decide +kernel
theorem dX4_least_30 : decode cX4_least 30 = .ok (.iconst 1, 1) := by decide +kernel
theorem dX4_least_31 : decode cX4_least 31 = .ok (.isub, 1) := by decide +kernel
theorem dX4_least_32 : decode cX4_least 32 = .ok (.istore 5, 2) := by decide +kernel
theorem dX4_least_34 : decode cX4_least 34 = .ok (.aload_n 0, 1) := by decide +kernel
theorem dX4_least_35 : decode cX4_least 35 = .ok (.aload_n 1, 1) := by decide +kernel
theorem dX4_least_36 : decode cX4_least 36 = .ok (.iload 5, 2) := by decide +kernel
theorem dX4_least_38 : decode cX4_least 38 = .ok (.iload_n 3, 1) := by decide +kernel
theorem dX4_least_39 : decode cX4_least 39 = .ok (.iload 4, 2) := by decide +kernel
theorem dX4_least_41 : decode cX4_least 41 = .ok (.invokestatic 40, 3) := by decide +kernel
theorem dX4_least_44 : decode cX4_least 44 = .ok (.istore 6, 2) := by decide +kernel
theorem dX4_least_46 : decode cX4_least 46 = .ok (.iload 6, 2) := by decide +kernel
theorem dX4_least_48 : decode cX4_least 48 = .ok (.iconst (-1), 1) := by decide +kernel
theorem dX4_least_49 : decode cX4_least 49 = .ok (.if_icmp .ne 54, 3) := by decide +kernel
theorem dX4_least_52 : decode cX4_least 52 = .ok (.aload_n 0, 1) := by decide +kernel
theorem dX4_least_53 : decode cX4_least 53 = .ok (.aload_n 1, 1) := by decide +kernel
theorem dX4_least_54 : decode cX4_least 54 = .ok (.iload 5, 2) := by decide +kernel
theorem dX4_least_56 : decode cX4_least 56 = .ok (.invokevirtual 65, 3) := by decide +kernel
theorem dX4_least_59 : decode cX4_least 59 = .ok (.ifCond .eq 44, 3) := by decide +kernel
theorem dX4_least_62 : decode cX4_least 62 = .ok (.aload_n 0, 1) := by decide +kernel
theorem dX4_least_63 : decode cX4_least 63 = .ok (.aload_n 1, 1) := by decide +kernel
theorem dX4_least_64 : decode cX4_least 64 = .ok (.iload 5, 2) := by decide +kernel
theorem dX4_least_66 : decode cX4_least 66 = .ok (.iconst (-1), 1) := by decide +kernel
theorem dX4_least_67 : decode cX4_least 67 = .ok (.invokevirtual 69, 3) := by decide +kernel
theorem dX4_least_70 : decode cX4_least 70 = .ok (.aload_n 0, 1) := by decide +kernel
theorem dX4_least_71 : decode cX4_least 71 = .ok (.aload_n 1, 1) := by decide +kernel
theorem dX4_least_72 : decode cX4_least 72 = .ok (.iload 5, 2) := by decide +kernel
theorem dX4_least_74 : decode cX4_least 74 = .ok (.iload_n 3, 1) := by decide +kernel
theorem dX4_least_75 : decode cX4_least 75 = .ok (.aload_n 1, 1) := by decide +kernel
theorem dX4_least_76 : decode cX4_least 76 = .ok (.getfield 52, 3) := by decide +kernel
theorem dX4_least_79 : decode cX4_least 79 = .ok (.iload 5, 2) := by decide +kernel
theorem dX4_least_81 : decode cX4_least 81 = .ok (.iaload, 1) := by decide +kernel
theorem dX4_least_82 : decode cX4_least 82 = .ok (.isub, 1) := by decide +kernel
theorem dX4_least_83 : decode cX4_least 83 = .ok (.iload 4, 2) := by decide +kernel
theorem dX4_least_85 : decode cX4_least 85 = .ok (.iconst 1, 1) := by decide +kernel
theorem dX4_least_86 : decode cX4_least 86 = .ok (.iload 5, 2) := by decide +kernel
theorem dX4_least_88 : decode cX4_least 88 = .ok (.ishl, 1) := by decide +kernel
theorem dX4_least_89 : decode cX4_least 89 = .ok (.ior, 1) := by decide +kernel
theorem dX4_least_90 : decode cX4_least 90 = .ok (.invokestatic 40, 3) := by decide +kernel
theorem dX4_least_93 : decode cX4_least 93 = .ok (.istore 6, 2) := by decide +kernel
theorem dX4_least_95 : decode cX4_least 95 = .ok (.aload_n 0, 1) := by decide +kernel
theorem dX4_least_96 : decode cX4_least 96 = .ok (.aload_n 1, 1) := by decide +kernel
theorem dX4_least_97 : decode cX4_least 97 = .ok (.iload 5, 2) := by decide +kernel
theorem dX4_least_99 : decode cX4_least 99 = .ok (.iconst 1, 1) := by decide +kernel
theorem dX4_least_100 : decode cX4_least 100 = .ok (.invokevirtual 69, 3) := by decide +kernel
theorem dX4_least_103 : decode cX4_least 103 = .ok (.iload 6, 2) := by decide +kernel
theorem dX4_least_105 : decode cX4_least 105 = .ok (.ireturn, 1) := by decide +kernel
theorem dX4_hasRoomFor_0 : decode cX4_hasRoomFor 0 = .ok (.iconst 0, 1) := by decide +kernel
theorem dX4_hasRoomFor_1 : decode cX4_hasRoomFor 1 = .ok (.istore_n 3, 1) := by decide +kernel
theorem dX4_hasRoomFor_2 : decode cX4_hasRoomFor 2 = .ok (.iload_n 3, 1) := by decide +kernel
theorem dX4_hasRoomFor_3 : decode cX4_hasRoomFor 3 = .ok (.iconst 3, 1) := by decide +kernel
theorem dX4_hasRoomFor_4 : decode cX4_hasRoomFor 4 = .ok (.if_icmp .ge 28, 3) := by decide +kernel
theorem dX4_hasRoomFor_7 : decode cX4_hasRoomFor 7 = .ok (.aload_n 1, 1) := by decide +kernel
theorem dX4_hasRoomFor_8 : decode cX4_hasRoomFor 8 = .ok (.getfield 73, 3) := by decide +kernel
theorem dX4_hasRoomFor_11 : decode cX4_hasRoomFor 11 = .ok (.iload_n 3, 1) := by decide +kernel
theorem dX4_hasRoomFor_12 : decode cX4_hasRoomFor 12 = .ok (.aaload, 1) := by decide +kernel
theorem dX4_hasRoomFor_13 : decode cX4_hasRoomFor 13 = .ok (.iload_n 2, 1) := by decide +kernel
theorem dX4_hasRoomFor_14 : decode cX4_hasRoomFor 14 = .ok (.iaload, 1) := by decide +kernel
theorem dX4_hasRoomFor_15 : decode cX4_hasRoomFor 15 = .ok (.aload_n 0, 1) := by decide +kernel
theorem dX4_hasRoomFor_16 : decode cX4_hasRoomFor 16 = .ok (.getfield 9, 3) := by decide +kernel
theorem dX4_hasRoomFor_19 : decode cX4_hasRoomFor 19 = .ok (.iload_n 3, 1) := by decide +kernel
theorem dX4_hasRoomFor_20 : decode cX4_hasRoomFor 20 = .ok (.iaload, 1) := by decide +kernel
theorem dX4_hasRoomFor_21 : decode cX4_hasRoomFor 21 = .ok (.if_icmp .le 5, 3) := by decide +kernel
theorem dX4_hasRoomFor_24 : decode cX4_hasRoomFor 24 = .ok (.iconst 0, 1) := by decide +kernel
theorem dX4_hasRoomFor_25 : decode cX4_hasRoomFor 25 = .ok (.ireturn, 1) := by decide +kernel
theorem dX4_hasRoomFor_26 : decode cX4_hasRoomFor 26 = .ok (.iinc 3 1, 3) := by decide +kernel
theorem dX4_hasRoomFor_29 : decode cX4_hasRoomFor 29 = .ok (.goto (-27), 3) := by decide +kernel
theorem dX4_hasRoomFor_32 : decode cX4_hasRoomFor 32 = .ok (.iconst 1, 1) := by decide +kernel
theorem dX4_hasRoomFor_33 : decode cX4_hasRoomFor 33 = .ok (.ireturn, 1) := by decide +kernel
theorem dX4_leave_0 : decode cX4_leave 0 = .ok (.iconst 0, 1) := by decide +kernel
theorem dX4_leave_1 : decode cX4_leave 1 = .ok (.istore 4, 2) := by decide +kernel
theorem dX4_leave_3 : decode cX4_leave 3 = .ok (.iload 4, 2) := by decide +kernel
theorem dX4_leave_5 : decode cX4_leave 5 = .ok (.iconst 3, 1) := by decide +kernel
theorem dX4_leave_6 : decode cX4_leave 6 = .ok (.if_icmp .ge 30, 3) := by decide +kernel
theorem dX4_leave_9 : decode cX4_leave 9 = .ok (.aload_n 0, 1) := by decide +kernel
theorem dX4_leave_10 : decode cX4_leave 10 = .ok (.getfield 9, 3) := by decide +kernel
theorem dX4_leave_13 : decode cX4_leave 13 = .ok (.iload 4, 2) := by decide +kernel
theorem dX4_leave_15 : decode cX4_leave 15 = .ok (.dup2, 1) := by decide +kernel
theorem dX4_leave_16 : decode cX4_leave 16 = .ok (.iaload, 1) := by decide +kernel
theorem dX4_leave_17 : decode cX4_leave 17 = .ok (.iload_n 3, 1) := by decide +kernel
theorem dX4_leave_18 : decode cX4_leave 18 = .ok (.aload_n 1, 1) := by decide +kernel
theorem dX4_leave_19 : decode cX4_leave 19 = .ok (.getfield 73, 3) := by decide +kernel
theorem dX4_leave_22 : decode cX4_leave 22 = .ok (.iload 4, 2) := by decide +kernel
theorem dX4_leave_24 : decode cX4_leave 24 = .ok (.aaload, 1) := by decide +kernel
theorem dX4_leave_25 : decode cX4_leave 25 = .ok (.iload_n 2, 1) := by decide +kernel
theorem dX4_leave_26 : decode cX4_leave 26 = .ok (.iaload, 1) := by decide +kernel
theorem dX4_leave_27 : decode cX4_leave 27 = .ok (.imul, 1) := by decide +kernel
theorem dX4_leave_28 : decode cX4_leave 28 = .ok (.iadd, 1) := by decide +kernel
theorem dX4_leave_29 : decode cX4_leave 29 = .ok (.iastore, 1) := by decide +kernel
theorem dX4_leave_30 : decode cX4_leave 30 = .ok (.iinc 4 1, 3) := by decide +kernel
theorem dX4_leave_33 : decode cX4_leave 33 = .ok (.goto (-30), 3) := by decide +kernel
theorem dX4_leave_36 : decode cX4_leave 36 = .ok (.return_, 1) := by decide +kernel
set_option maxRecDepth 20000 in
theorem ggX5_init_X2_init : GoodIn wsX5_init wsX2_init := goodIn_r _ [24, 25, 2, 3, 12, 26, 27, 28, 29, 30, 31, 32, 33, 34, 40, 41, 42, 43] (by decide +kernel) (by decide +kernel)
set_option maxRecDepth 20000 in
theorem gX5_init_X2_init : GoodIn wsX5_init (wsX2_init) := ggX5_init_X2_init
set_option maxRecDepth 20000 in
theorem ggX5_init_X0_init : GoodIn wsX5_init wsX0_init := goodIn_r _ [36, 37, 2, 3, 12, 38, 39, 55, 56] (by decide +kernel) (by decide +kernel)
set_option maxRecDepth 20000 in
theorem gX5_init_X0_init_n20 : GoodIn wsX5_init (wsX0_init) := ggX5_init_X0_init
theorem dX5_init_0 : decode cX5_init 0 = .ok (.aload_n 0, 1) := by decide +kernel
theorem dX5_init_1 : decode cX5_init 1 = .ok (.invokespecial 3, 3) := by decide +kernel
theorem dX5_init_4 : decode cX5_init 4 = .ok (.aload_n 0, 1) := by decide +kernel
theorem dX5_init_5 : decode cX5_init 5 = .ok (.new 9, 3) := by decide +kernel
theorem dX5_init_8 : decode cX5_init 8 = .ok (.dup, 1) := by decide +kernel
theorem dX5_init_9 : decode cX5_init 9 = .ok (.invokespecial 11, 3) := by decide +kernel
theorem dX5_init_12 : decode cX5_init 12 = .ok (.putfield 12, 3) := by decide +kernel
theorem dX5_init_15 : decode cX5_init 15 = .ok (.aload_n 0, 1) := by decide +kernel
theorem dX5_init_16 : decode cX5_init 16 = .ok (.new 18, 3) := by decide +kernel
theorem dX5_init_19 : decode cX5_init 19 = .ok (.dup, 1) := by decide +kernel
theorem dX5_init_20 : decode cX5_init 20 = .ok (.invokespecial 20, 3) := by decide +kernel
theorem dX5_init_23 : decode cX5_init 23 = .ok (.putfield 21, 3) := by decide +kernel
theorem dX5_init_26 : decode cX5_init 26 = .ok (.aload_n 0, 1) := by decide +kernel
theorem dX5_init_27 : decode cX5_init 27 = .ok (.iconst 3, 1) := by decide +kernel
theorem dX5_init_28 : decode cX5_init 28 = .ok (.newarray .int, 2) := by decide +kernel
theorem dX5_init_30 : decode cX5_init 30 = .ok (.putfield 25, 3) := by decide +kernel
theorem dX5_init_33 : decode cX5_init 33 = .ok (.aload_n 0, 1) := by decide +kernel
theorem dX5_init_34 : decode cX5_init 34 = .ok (.iconst 3, 1) := by decide +kernel
theorem dX5_init_35 : decode cX5_init 35 = .ok (.newarray .int, 2) := by decide +kernel
theorem dX5_init_37 : decode cX5_init 37 = .ok (.putfield 29, 3) := by decide +kernel
theorem dX5_init_40 : decode cX5_init 40 = .ok (.aload_n 0, 1) := by decide +kernel
theorem dX5_init_41 : decode cX5_init 41 = .ok (.iconst 0, 1) := by decide +kernel
theorem dX5_init_42 : decode cX5_init 42 = .ok (.putfield 32, 3) := by decide +kernel
theorem dX5_init_45 : decode cX5_init 45 = .ok (.aload_n 0, 1) := by decide +kernel
theorem dX5_init_46 : decode cX5_init 46 = .ok (.bipush 100, 2) := by decide +kernel
theorem dX5_init_48 : decode cX5_init 48 = .ok (.putfield 36, 3) := by decide +kernel
theorem dX5_init_51 : decode cX5_init 51 = .ok (.aload_n 0, 1) := by decide +kernel
theorem dX5_init_52 : decode cX5_init 52 = .ok (.iconst 0, 1) := by decide +kernel
theorem dX5_init_53 : decode cX5_init 53 = .ok (.putfield 39, 3) := by decide +kernel
theorem dX5_init_56 : decode cX5_init 56 = .ok (.aload_n 0, 1) := by decide +kernel
theorem dX5_init_57 : decode cX5_init 57 = .ok (.bipush (-6), 2) := by decide +kernel
theorem dX5_init_59 : decode cX5_init 59 = .ok (.putfield 42, 3) := by decide +kernel
theorem dX5_init_62 : decode cX5_init 62 = .ok (.aload_n 0, 1) := by decide +kernel
theorem dX5_init_63 : decode cX5_init 63 = .ok (.iconst 0, 1) := by decide +kernel
theorem dX5_init_64 : decode cX5_init 64 = .ok (.putfield 45, 3) := by decide +kernel
theorem dX5_init_67 : decode cX5_init 67 = .ok (.aload_n 0, 1) := by decide +kernel
theorem dX5_init_68 : decode cX5_init 68 = .ok (.iconst 0, 1) := by decide +kernel
theorem dX5_init_69 : decode cX5_init 69 = .ok (.putfield 48, 3) := by decide +kernel
theorem dX5_init_72 : decode cX5_init 72 = .ok (.aload_n 0, 1) := by decide +kernel
theorem dX5_init_73 : decode cX5_init 73 = .ok (.lconst 0, 1) := by decide +kernel
theorem dX5_init_74 : decode cX5_init 74 = .ok (.putfield 51, 3) := by decide +kernel
theorem dX5_init_77 : decode cX5_init 77 = .ok (.return_, 1) := by decide +kernel
set_option maxRecDepth 20000 in
theorem ggX5_copyFrom_X2_copyFrom : GoodIn wsX5_copyFrom wsX2_copyFrom := goodIn_r _ [19, 20, 21, 5, 6, 7, 22, 23, 24, 44, 45, 46, 47] (by decide +kernel) (by decide +kernel)
set_option maxRecDepth 20000 in
theorem gX5_copyFrom_X2_copyFrom : GoodIn wsX5_copyFrom (wsV RX5 55 RX2 yX2_copyFrom wsX2_copyFrom) := goodIn_app (goodIn_of _ (by decide +kernel)) ggX5_copyFrom_X2_copyFrom
set_option maxRecDepth 20000 in
theorem ggX5_copyFrom_X0_copyFrom : GoodIn wsX5_copyFrom wsX0_copyFrom := goodIn_r _ [29, 30, 31, 5, 6, 7, 32, 48, 49] (by decide +kernel) (by decide +kernel)
set_option maxRecDepth 20000 in
theorem gX5_copyFrom_X0_copyFrom : GoodIn wsX5_copyFrom (wsV RX5 59 RX0 yX0_copyFrom wsX0_copyFrom) := goodIn_app (goodIn_of _ (by decide +kernel)) ggX5_copyFrom_X0_copyFrom
theorem dX5_copyFrom_0 : decode cX5_copyFrom 0 = .ok (.aload_n 0, 1) := by decide +kernel
theorem dX5_copyFrom_1 : decode cX5_copyFrom 1 = .ok (.getfield 12, 3) := by decide +kernel
theorem dX5_copyFrom_4 : decode cX5_copyFrom 4 = .ok (.aload_n 1, 1) := by decide +kernel
theorem dX5_copyFrom_5 : decode cX5_copyFrom 5 = .ok (.getfield 12, 3) := by decide +kernel
theorem dX5_copyFrom_8 : decode cX5_copyFrom 8 = .ok (.invokevirtual 55, 3) := by decide +kernel
theorem dX5_copyFrom_11 : decode cX5_copyFrom 11 = .ok (.aload_n 0, 1) := by decide +kernel
theorem dX5_copyFrom_12 : decode cX5_copyFrom 12 = .ok (.getfield 21, 3) := by decide +kernel
theorem dX5_copyFrom_15 : decode cX5_copyFrom 15 = .ok (.aload_n 1, 1) := by decide +kernel
theorem dX5_copyFrom_16 : decode cX5_copyFrom 16 = .ok (.getfield 21, 3) := by decide +kernel
theorem dX5_copyFrom_19 : decode cX5_copyFrom 19 = .ok (.invokevirtual 59, 3) := by decide +kernel
theorem dX5_copyFrom_22 : decode cX5_copyFrom 22 = .ok (.aload_n 1, 1) := by decide +kernel
theorem dX5_copyFrom_23 : decode cX5_copyFrom 23 = .ok (.getfield 25, 3) := by decide +kernel
theorem dX5_copyFrom_26 : decode cX5_copyFrom 26 = .ok (.iconst 0, 1) := by decide +kernel
theorem dX5_copyFrom_27 : decode cX5_copyFrom 27 = .ok (.aload_n 0, 1) := by decide +kernel
theorem dX5_copyFrom_28 : decode cX5_copyFrom 28 = .ok (.getfield 25, 3) := by decide +kernel
theorem dX5_copyFrom_31 : decode cX5_copyFrom 31 = .ok (.iconst 0, 1) := by decide +kernel
theorem dX5_copyFrom_32 : decode cX5_copyFrom 32 = .ok (.iconst 3, 1) := by decide +kernel
theorem dX5_copyFrom_33 : decode cX5_copyFrom 33 = .ok (.invokestatic 62, 3) := by decide +kernel
theorem dX5_copyFrom_36 : decode cX5_copyFrom 36 = .ok (.aload_n 0, 1) := by decide +kernel
theorem dX5_copyFrom_37 : decode cX5_copyFrom 37 = .ok (.aload_n 1, 1) := by decide +kernel
theorem dX5_copyFrom_38 : decode cX5_copyFrom 38 = .ok (.getfield 32, 3) := by decide +kernel
theorem dX5_copyFrom_41 : decode cX5_copyFrom 41 = .ok (.putfield 32, 3) := by decide +kernel
theorem dX5_copyFrom_44 : decode cX5_copyFrom 44 = .ok (.aload_n 0, 1) := by decide +kernel
theorem dX5_copyFrom_45 : decode cX5_copyFrom 45 = .ok (.aload_n 1, 1) := by decide +kernel
theorem dX5_copyFrom_46 : decode cX5_copyFrom 46 = .ok (.getfield 36, 3) := by decide +kernel
theorem dX5_copyFrom_49 : decode cX5_copyFrom 49 = .ok (.putfield 36, 3) := by decide +kernel
theorem dX5_copyFrom_52 : decode cX5_copyFrom 52 = .ok (.aload_n 0, 1) := by decide +kernel
theorem dX5_copyFrom_53 : decode cX5_copyFrom 53 = .ok (.aload_n 1, 1) := by decide +kernel
theorem dX5_copyFrom_54 : decode cX5_copyFrom 54 = .ok (.getfield 39, 3) := by decide +kernel
theorem dX5_copyFrom_57 : decode cX5_copyFrom 57 = .ok (.putfield 39, 3) := by decide +kernel
theorem dX5_copyFrom_60 : decode cX5_copyFrom 60 = .ok (.aload_n 0, 1) := by decide +kernel
theorem dX5_copyFrom_61 : decode cX5_copyFrom 61 = .ok (.aload_n 1, 1) := by decide +kernel
theorem dX5_copyFrom_62 : decode cX5_copyFrom 62 = .ok (.getfield 42, 3) := by decide +kernel
theorem dX5_copyFrom_65 : decode cX5_copyFrom 65 = .ok (.putfield 42, 3) := by decide +kernel
theorem dX5_copyFrom_68 : decode cX5_copyFrom 68 = .ok (.aload_n 0, 1) := by decide +kernel
theorem dX5_copyFrom_69 : decode cX5_copyFrom 69 = .ok (.aload_n 1, 1) := by decide +kernel
theorem dX5_copyFrom_70 : decode cX5_copyFrom 70 = .ok (.getfield 45, 3) := by decide +kernel
theorem dX5_copyFrom_73 : decode cX5_copyFrom 73 = .ok (.putfield 45, 3) := by decide +kernel
theorem dX5_copyFrom_76 : decode cX5_copyFrom 76 = .ok (.aload_n 0, 1) := by decide +kernel
theorem dX5_copyFrom_77 : decode cX5_copyFrom 77 = .ok (.aload_n 1, 1) := by decide +kernel
theorem dX5_copyFrom_78 : decode cX5_copyFrom 78 = .ok (.getfield 48, 3) := by decide +kernel
theorem dX5_copyFrom_81 : decode cX5_copyFrom 81 = .ok (.putfield 48, 3) := by decide +kernel
theorem dX5_copyFrom_84 : decode cX5_copyFrom 84 = .ok (.aload_n 0, 1) := by decide +kernel
theorem dX5_copyFrom_85 : decode cX5_copyFrom 85 = .ok (.aload_n 1, 1) := by decide +kernel
theorem dX5_copyFrom_86 : decode cX5_copyFrom 86 = .ok (.getfield 51, 3) := by decide +kernel
theorem dX5_copyFrom_89 : decode cX5_copyFrom 89 = .ok (.putfield 51, 3) := by decide +kernel
theorem dX5_copyFrom_92 : decode cX5_copyFrom 92 = .ok (.return_, 1) := by decide +kernel
set_option maxRecDepth 20000 in
theorem ggX5_addItem_X6_within : GoodIn wsX5_addItem wsX6_within := goodIn_r _ [7] (by decide +kernel) (by decide +kernel)
set_option maxRecDepth 20000 in
theorem gX5_addItem_X6_within_n68 : GoodIn wsX5_addItem (wsX6_within) := ggX5_addItem_X6_within
set_option maxRecDepth 20000 in
theorem ggX5_addItem_X5_isSize : GoodIn wsX5_addItem wsX5_isSize := goodIn_r _ [11, 5, 6, 7] (by decide +kernel) (by decide +kernel)
set_option maxRecDepth 20000 in
theorem gX5_addItem_X5_isSize : GoodIn wsX5_addItem (va_wsS RX5 72 yX5_isSize wsX5_isSize) := goodIn_app (goodIn_of _ (by decide +kernel)) ggX5_addItem_X5_isSize
set_option maxRecDepth 20000 in
theorem ggX5_addItem_X2_isFull : GoodIn wsX5_addItem wsX2_isFull := goodIn_r _ [16, 17, 60, 61, 62, 63] (by decide +kernel) (by decide +kernel)
set_option maxRecDepth 20000 in
theorem gX5_addItem_X2_isFull : GoodIn wsX5_addItem (wsV RX5 76 RX2 yX2_isFull wsX2_isFull) := goodIn_app (goodIn_of _ (by decide +kernel)) ggX5_addItem_X2_isFull
set_option maxRecDepth 20000 in
theorem ggX5_addItem_X2_append : GoodIn wsX5_addItem wsX2_append := goodIn_r _ [21, 22, 17, 23, 24, 13, 14, 15, 16, 60, 61, 62, 63] (by decide +kernel) (by decide +kernel)
set_option maxRecDepth 20000 in
theorem gX5_addItem_X2_append : GoodIn wsX5_addItem (wsV RX5 80 RX2 yX2_append wsX2_append) := goodIn_app (goodIn_of _ (by decide +kernel)) ggX5_addItem_X2_append
set_option maxRecDepth 20000 in
theorem ggX5_addItem_X5_forget : GoodIn wsX5_addItem wsX5_forget := goodIn_r _ [28, 29, 30, 31, 1, 32, 33, 34, 35, 36, 15, 37, 17, 38, 39, 40, 41, 42, 43, 44, 45, 46, 22, 23, 47, 48, 49, 50, 51, 52, 53, 54, 55, 56, 57, 60, 61, 62, 63] (by decide +kernel) (by decide +kernel)
set_option maxRecDepth 20000 in
theorem gX5_addItem_X5_forget : GoodIn wsX5_addItem (wsV RX5 87 RX5 yX5_forget wsX5_forget) := goodIn_app (goodIn_of _ (by decide +kernel)) ggX5_addItem_X5_forget
