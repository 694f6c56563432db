theorem dX0_init_0 : decode cX0_init 0 = .ok (.aload_n 0, 1) := by decide +kernel
theorem dX0_init_1 : decode cX0_init 1 = .ok (.invokespecial 3, 3) := by decide +kernel
theorem dX0_init_4 : decode cX0_init 4 = .ok (.aload_n 0, 1) := by decide +kernel
theorem dX0_init_5 : decode cX0_init 5 = .ok (.bipush 20, 2) := by decide +kernel
theorem dX0_init_7 : decode cX0_init 7 = .ok (.anewarray 9, 3) := by decide +kernel
theorem dX0_init_10 : decode cX0_init 10 = .ok (.putfield 11, 3) := by decide +kernel
theorem dX0_init_13 : decode cX0_init 13 = .ok (.aload_n 0, 1) := by decide +kernel
theorem dX0_init_14 : decode cX0_init 14 = .ok (.iconst 0, 1) := by decide +kernel
theorem dX0_init_15 : decode cX0_init 15 = .ok (.putfield 17, 3) := by decide +kernel
theorem dX0_init_18 : decode cX0_init 18 = .ok (.aload_n 0, 1) := by decide +kernel
theorem dX0_init_19 : decode cX0_init 19 = .ok (.iconst 0, 1) := by decide +kernel
theorem dX0_init_20 : decode cX0_init 20 = .ok (.putfield 21, 3) := by decide +kernel
theorem dX0_init_23 : decode cX0_init 23 = .ok (.return_, 1) := by decide +kernel
set_option maxRecDepth 20000 in
theorem ggX0_keep_X5_init : GoodIn wsX0_keep wsX5_init := goodIn_r _ [8, 9, 10, 11, 12, 13, 14, 15, 16, 17, 18, 19, 20, 21, 22, 23, 24, 25, 26, 27, 28, 29, 30, 31, 32, 33, 34, 35, 36, 37, 38, 39, 40, 41, 42, 43, 44, 45, 46, 47, 48, 49, 50, 51, 52, 53, 54, 55, 56, 57, 85, 86, 87, 88, 89, 90, 91, 92, 93, 94, 95, 96, 97, 98, 99, 100, 101, 102, 103, 104, 105, 106] (by decide +kernel) (by decide +kernel)
set_option maxRecDepth 20000 in
theorem gX0_keep_X5_init_n24 : GoodIn wsX0_keep (wsX5_init) := ggX0_keep_X5_init
set_option maxRecDepth 20000 in
theorem ggX0_keep_X5_copyFrom : GoodIn wsX0_keep wsX5_copyFrom := goodIn_r _ [61, 12, 13, 14, 15, 17, 62, 63, 64, 65, 18, 19, 20, 21, 25, 29, 30, 31, 35, 66, 67, 68, 24, 69, 39, 70, 40, 41, 71, 72, 73, 28, 74, 47, 75, 48, 76, 77, 78, 34, 79, 53, 80, 54, 56, 81, 85, 86, 87, 88, 89, 90, 91, 92, 93, 94, 95, 96, 97, 98, 99, 100, 101, 102, 103, 104, 105, 106] (by decide +kernel) (by decide +kernel)
set_option maxRecDepth 20000 in
theorem gX0_keep_X5_copyFrom : GoodIn wsX0_keep (wsV RX0 25 RX5 yX5_copyFrom wsX5_copyFrom) := goodIn_app (goodIn_of _ (by decide +kernel)) ggX0_keep_X5_copyFrom
theorem dX0_keep_0 : decode cX0_keep 0 = .ok (.aload_n 0, 1) := by decide +kernel
theorem dX0_keep_1 : decode cX0_keep 1 = .ok (.getfield 11, 3) := by decide +kernel
theorem dX0_keep_4 : decode cX0_keep 4 = .ok (.aload_n 0, 1) := by decide +kernel
theorem dX0_keep_5 : decode cX0_keep 5 = .ok (.getfield 17, 3) := by decide +kernel
theorem dX0_keep_8 : decode cX0_keep 8 = .ok (.aaload, 1) := by decide +kernel
theorem dX0_keep_9 : decode cX0_keep 9 = .ok (.astore_n 2, 1) := by decide +kernel
theorem dX0_keep_10 : decode cX0_keep 10 = .ok (.aload_n 2, 1) := by decide +kernel
theorem dX0_keep_11 : decode cX0_keep 11 = .ok (.ifnonnull 21, 3) := by decide +kernel
theorem dX0_keep_14 : decode cX0_keep 14 = .ok (.new 9, 3) := by decide +kernel
theorem dX0_keep_17 : decode cX0_keep 17 = .ok (.dup, 1) := by decide +kernel
theorem dX0_keep_18 : decode cX0_keep 18 = .ok (.invokespecial 24, 3) := by decide +kernel
theorem dX0_keep_21 : decode cX0_keep 21 = .ok (.astore_n 2, 1) := by decide +kernel
theorem dX0_keep_22 : decode cX0_keep 22 = .ok (.aload_n 0, 1) := by decide +kernel
theorem dX0_keep_23 : decode cX0_keep 23 = .ok (.getfield 11, 3) := by decide +kernel
theorem dX0_keep_26 : decode cX0_keep 26 = .ok (.aload_n 0, 1) := by decide +kernel
theorem dX0_keep_27 : decode cX0_keep 27 = .ok (.getfield 17, 3) := by decide +kernel
theorem dX0_keep_30 : decode cX0_keep 30 = .ok (.aload_n 2, 1) := by decide +kernel
theorem dX0_keep_31 : decode cX0_keep 31 = .ok (.aastore, 1) := by decide +kernel
theorem dX0_keep_32 : decode cX0_keep 32 = .ok (.aload_n 2, 1) := by decide +kernel
theorem dX0_keep_33 : decode cX0_keep 33 = .ok (.aload_n 1, 1) := by decide +kernel
theorem dX0_keep_34 : decode cX0_keep 34 = .ok (.invokevirtual 25, 3) := by decide +kernel
theorem dX0_keep_37 : decode cX0_keep 37 = .ok (.aload_n 0, 1) := by decide +kernel
theorem dX0_keep_38 : decode cX0_keep 38 = .ok (.aload_n 0, 1) := by decide +kernel
theorem dX0_keep_39 : decode cX0_keep 39 = .ok (.getfield 17, 3) := by decide +kernel
theorem dX0_keep_42 : decode cX0_keep 42 = .ok (.iconst 1, 1) := by decide +kernel
theorem dX0_keep_43 : decode cX0_keep 43 = .ok (.iadd, 1) := by decide +kernel
theorem dX0_keep_44 : decode cX0_keep 44 = .ok (.bipush 20, 2) := by decide +kernel
theorem dX0_keep_46 : decode cX0_keep 46 = .ok (.irem, 1) := by decide +kernel
theorem dX0_keep_47 : decode cX0_keep 47 = .ok (.putfield 17, 3) := by decide +kernel
theorem dX0_keep_50 : decode cX0_keep 50 = .ok (.aload_n 0, 1) := by decide +kernel
theorem dX0_keep_51 : decode cX0_keep 51 = .ok (.aload_n 0, 1) := by decide +kernel
theorem dX0_keep_52 : decode cX0_keep 52 = .ok (.getfield 21, 3) := by decide +kernel
theorem dX0_keep_55 : decode cX0_keep 55 = .ok (.bipush 20, 2) := by decide +kernel
theorem dX0_keep_57 : decode cX0_keep 57 = .ok (.if_icmp .ge 12, 3) := by decide +kernel
theorem dX0_keep_60 : decode cX0_keep 60 = .ok (.aload_n 0, 1) := by decide +kernel
theorem dX0_keep_61 : decode cX0_keep 61 = .ok (.getfield 21, 3) := by decide +kernel
theorem dX0_keep_64 : decode cX0_keep 64 = .ok (.iconst 1, 1) := by decide +kernel
theorem dX0_keep_65 : decode cX0_keep 65 = .ok (.iadd, 1) := by decide +kernel
theorem dX0_keep_66 : decode cX0_keep 66 = .ok (.goto 7, 3) := by decide +kernel
theorem dX0_keep_69 : decode cX0_keep 69 = .ok (.aload_n 0, 1) := by decide +kernel
theorem dX0_keep_70 : decode cX0_keep 70 = .ok (.getfield 21, 3) := by decide +kernel
theorem dX0_keep_73 : decode cX0_keep 73 = .ok (.putfield 21, 3) := by decide +kernel
theorem dX0_keep_76 : decode cX0_keep 76 = .ok (.return_, 1) := by decide +kernel
set_option maxRecDepth 20000 in
theorem ggX0_restore_X5_copyFrom : GoodIn wsX0_restore wsX5_copyFrom := goodIn_r _ [8, 9, 10, 11, 12, 13, 14, 15, 16, 17, 18, 19, 20, 21, 22, 23, 24, 25, 26, 27, 28, 29, 30, 31, 32, 33, 34, 35, 36, 37, 38, 39, 40, 41, 42, 43, 44, 45, 46, 47, 48, 49, 50, 51, 52, 53, 57, 58, 59, 60, 61, 62, 63, 64, 65, 66, 67, 68, 69, 70, 71, 72, 73, 74, 75, 76, 77, 78] (by decide +kernel) (by decide +kernel)
set_option maxRecDepth 20000 in
theorem gX0_restore_X5_copyFrom : GoodIn wsX0_restore (wsV RX0 25 RX5 yX5_copyFrom wsX5_copyFrom) := goodIn_app (goodIn_of _ (by decide +kernel)) ggX0_restore_X5_copyFrom
theorem dX0_restore_0 : decode cX0_restore 0 = .ok (.aload_n 0, 1) := by decide +kernel
theorem dX0_restore_1 : decode cX0_restore 1 = .ok (.getfield 17, 3) := by decide +kernel
theorem dX0_restore_4 : decode cX0_restore 4 = .ok (.bipush 20, 2) := by decide +kernel
theorem dX0_restore_6 : decode cX0_restore 6 = .ok (.iadd, 1) := by decide +kernel
theorem dX0_restore_7 : decode cX0_restore 7 = .ok (.iconst 1, 1) := by decide +kernel
theorem dX0_restore_8 : decode cX0_restore 8 = .ok (.isub, 1) := by decide +kernel
theorem dX0_restore_9 : decode cX0_restore 9 = .ok (.bipush 20, 2) := by decide +kernel
theorem dX0_restore_11 : decode cX0_restore 11 = .ok (.irem, 1) := by decide +kernel
theorem dX0_restore_12 : decode cX0_restore 12 = .ok (.istore_n 2, 1) := by decide +kernel
theorem dX0_restore_13 : decode cX0_restore 13 = .ok (.aload_n 0, 1) := by decide +kernel
theorem dX0_restore_14 : decode cX0_restore 14 = .ok (.getfield 11, 3) := by decide +kernel
theorem dX0_restore_17 : decode cX0_restore 17 = .ok (.iload_n 2, 1) := by decide +kernel
theorem dX0_restore_18 : decode cX0_restore 18 = .ok (.aaload, 1) := by decide +kernel
theorem dX0_restore_19 : decode cX0_restore 19 = .ok (.astore_n 3, 1) := by decide +kernel
theorem dX0_restore_20 : decode cX0_restore 20 = .ok (.aload_n 0, 1) := by decide +kernel
theorem dX0_restore_21 : decode cX0_restore 21 = .ok (.getfield 21, 3) := by decide +kernel
theorem dX0_restore_24 : decode cX0_restore 24 = .ok (.ifCond .le 7, 3) := by decide +kernel
theorem dX0_restore_27 : decode cX0_restore 27 = .ok (.aload_n 3, 1) := by decide +kernel
theorem dX0_restore_28 : decode cX0_restore 28 = .ok (.ifnonnull 5, 3) := by decide +kernel
theorem dX0_restore_31 : decode cX0_restore 31 = .ok (.iconst 0, 1) := by decide +kernel
theorem dX0_restore_32 : decode cX0_restore 32 = .ok (.ireturn, 1) := by decide +kernel
theorem dX0_restore_33 : decode cX0_restore 33 = .ok (.aload_n 1, 1) := by decide +kernel
theorem dX0_restore_34 : decode cX0_restore 34 = .ok (.aload_n 3, 1) := by decide +kernel
theorem dX0_restore_35 : decode cX0_restore 35 = .ok (.invokevirtual 25, 3) := by decide +kernel
theorem dX0_restore_38 : decode cX0_restore 38 = .ok (.aload_n 0, 1) := by decide +kernel
theorem dX0_restore_39 : decode cX0_restore 39 = .ok (.iload_n 2, 1) := by decide +kernel
theorem dX0_restore_40 : decode cX0_restore 40 = .ok (.putfield 17, 3) := by decide +kernel
theorem dX0_restore_43 : decode cX0_restore 43 = .ok (.aload_n 0, 1) := by decide +kernel
theorem dX0_restore_44 : decode cX0_restore 44 = .ok (.dup, 1) := by decide +kernel
theorem dX0_restore_45 : decode cX0_restore 45 = .ok (.getfield 21, 3) := by decide +kernel
theorem dX0_restore_48 : decode cX0_restore 48 = .ok (.iconst 1, 1) := by decide +kernel
theorem dX0_restore_49 : decode cX0_restore 49 = .ok (.isub, 1) := by decide +kernel
theorem dX0_restore_50 : decode cX0_restore 50 = .ok (.putfield 21, 3) := by decide +kernel
theorem dX0_restore_53 : decode cX0_restore 53 = .ok (.iconst 1, 1) := by decide +kernel
theorem dX0_restore_54 : decode cX0_restore 54 = .ok (.ireturn, 1) := by decide +kernel
set_option maxRecDepth 20000 in
theorem ggX1_init_X3_init : GoodIn wsX1_init wsX3_init := goodIn_r _ [13, 14, 2, 3, 15, 16, 17, 21, 22] (by decide +kernel) (by decide +kernel)
set_option maxRecDepth 20000 in
theorem gX1_init_X3_init : GoodIn wsX1_init (wsX3_init) := ggX1_init_X3_init
theorem dX1_init_0 : decode cX1_init 0 = .ok (.aload_n 0, 1) := by decide +kernel
theorem dX1_init_1 : decode cX1_init 1 = .ok (.invokespecial 3, 3) := by decide +kernel
theorem dX1_init_4 : decode cX1_init 4 = .ok (.aload_n 0, 1) := by decide +kernel
theorem dX1_init_5 : decode cX1_init 5 = .ok (.bipush 8, 2) := by decide +kernel
theorem dX1_init_7 : decode cX1_init 7 = .ok (.newarray .int, 2) := by decide +kernel
theorem dX1_init_9 : decode cX1_init 9 = .ok (.putfield 9, 3) := by decide +kernel
theorem dX1_init_12 : decode cX1_init 12 = .ok (.aload_n 0, 1) := by decide +kernel
theorem dX1_init_13 : decode cX1_init 13 = .ok (.bipush 8, 2) := by decide +kernel
theorem dX1_init_15 : decode cX1_init 15 = .ok (.newarray .int, 2) := by decide +kernel
theorem dX1_init_17 : decode cX1_init 17 = .ok (.putfield 15, 3) := by decide +kernel
theorem dX1_init_20 : decode cX1_init 20 = .ok (.aload_n 0, 1) := by decide +kernel
theorem dX1_init_21 : decode cX1_init 21 = .ok (.new 18, 3) := by decide +kernel
theorem dX1_init_24 : decode cX1_init 24 = .ok (.dup, 1) := by decide +kernel
theorem dX1_init_25 : decode cX1_init 25 = .ok (.bipush 8, 2) := by decide +kernel
theorem dX1_init_27 : decode cX1_init 27 = .ok (.invokespecial 20, 3) := by decide +kernel
theorem dX1_init_30 : decode cX1_init 30 = .ok (.putfield 23, 3) := by decide +kernel
theorem dX1_init_33 : decode cX1_init 33 = .ok (.iconst 0, 1) := by decide +kernel
theorem dX1_init_34 : decode cX1_init 34 = .ok (.istore_n 1, 1) := by decide +kernel
theorem dX1_init_35 : decode cX1_init 35 = .ok (.iload_n 1, 1) := by decide +kernel
theorem dX1_init_36 : decode cX1_init 36 = .ok (.bipush 8, 2) := by decide +kernel
theorem dX1_init_38 : decode cX1_init 38 = .ok (.if_icmp .ge 23, 3) := by decide +kernel
theorem dX1_init_41 : decode cX1_init 41 = .ok (.aload_n 0, 1) := by decide +kernel
theorem dX1_init_42 : decode cX1_init 42 = .ok (.getfield 9, 3) := by decide +kernel
theorem dX1_init_45 : decode cX1_init 45 = .ok (.iload_n 1, 1) := by decide +kernel
theorem dX1_init_46 : decode cX1_init 46 = .ok (.iconst (-1), 1) := by decide +kernel
theorem dX1_init_47 : decode cX1_init 47 = .ok (.iastore, 1) := by decide +kernel
theorem dX1_init_48 : decode cX1_init 48 = .ok (.aload_n 0, 1) := by decide +kernel
theorem dX1_init_49 : decode cX1_init 49 = .ok (.getfield 15, 3) := by decide +kernel
theorem dX1_init_52 : decode cX1_init 52 = .ok (.iload_n 1, 1) := by decide +kernel
theorem dX1_init_53 : decode cX1_init 53 = .ok (.iconst (-1), 1) := by decide +kernel
theorem dX1_init_54 : decode cX1_init 54 = .ok (.iastore, 1) := by decide +kernel
theorem dX1_init_55 : decode cX1_init 55 = .ok (.iinc 1 1, 3) := by decide +kernel
theorem dX1_init_58 : decode cX1_init 58 = .ok (.goto (-23), 3) := by decide +kernel
theorem dX1_init_61 : decode cX1_init 61 = .ok (.return_, 1) := by decide +kernel
theorem dX1_isUnderWay_0 : decode cX1_isUnderWay 0 = .ok (.iload_n 1, 1) := by decide +kernel
theorem dX1_isUnderWay_1 : decode cX1_isUnderWay 1 = .ok (.ifCond .lt 23, 3) := by decide +kernel
theorem dX1_isUnderWay_4 : decode cX1_isUnderWay 4 = .ok (.iload_n 1, 1) := by decide +kernel
theorem dX1_isUnderWay_5 : decode cX1_isUnderWay 5 = .ok (.bipush 8, 2) := by decide +kernel
theorem dX1_isUnderWay_7 : decode cX1_isUnderWay 7 = .ok (.if_icmp .ge 17, 3) := by decide +kernel
theorem dX1_isUnderWay_10 : decode cX1_isUnderWay 10 = .ok (.aload_n 0, 1) := by decide +kernel
theorem dX1_isUnderWay_11 : decode cX1_isUnderWay 11 = .ok (.getfield 9, 3) := by decide +kernel
theorem dX1_isUnderWay_14 : decode cX1_isUnderWay 14 = .ok (.iload_n 1, 1) := by decide +kernel
theorem dX1_isUnderWay_15 : decode cX1_isUnderWay 15 = .ok (.iaload, 1) := by decide +kernel
theorem dX1_isUnderWay_16 : decode cX1_isUnderWay 16 = .ok (.iconst (-1), 1) := by decide +kernel
theorem dX1_isUnderWay_17 : decode cX1_isUnderWay 17 = .ok (.if_icmp .eq 7, 3) := by decide +kernel
theorem dX1_isUnderWay_20 : decode cX1_isUnderWay 20 = .ok (.iconst 1, 1) := by decide +kernel
theorem dX1_isUnderWay_21 : decode cX1_isUnderWay 21 = .ok (.goto 4, 3) := by decide +kernel
theorem dX1_isUnderWay_24 : decode cX1_isUnderWay 24 = .ok (.iconst 0, 1) := by decide +kernel
theorem dX1_isUnderWay_25 : decode cX1_isUnderWay 25 = .ok (.ireturn, 1) := by decide +kernel
set_option maxRecDepth 20000 in
theorem ggX1_firstFree_X1_isUnderWay : GoodIn wsX1_firstFree wsX1_isUnderWay := goodIn_r _ [5, 6, 7, 8, 9] (by decide +kernel) (by decide +kernel)
set_option maxRecDepth 20000 in
theorem gX1_firstFree_X1_isUnderWay : GoodIn wsX1_firstFree (wsV RX1 27 RX1 yX1_isUnderWay wsX1_isUnderWay) := goodIn_app (goodIn_of _ (by decide +kernel)) ggX1_firstFree_X1_isUnderWay
theorem dX1_firstFree_0 : decode cX1_firstFree 0 = .ok (.iconst 0, 1) := by decide +kernel
theorem dX1_firstFree_1 : decode cX1_firstFree 1 = .ok (.istore_n 1, 1) := by decide +kernel
theorem dX1_firstFree_2 : decode cX1_firstFree 2 = .ok (.iload_n 1, 1) := by decide +kernel
theorem dX1_firstFree_3 : decode cX1_firstFree 3 = .ok (.bipush 8, 2) := by decide +kernel
theorem dX1_firstFree_5 : decode cX1_firstFree 5 = .ok (.if_icmp .ge 17, 3) := by decide +kernel
theorem dX1_firstFree_8 : decode cX1_firstFree 8 = .ok (.aload_n 0, 1) := by decide +kernel
theorem dX1_firstFree_9 : decode cX1_firstFree 9 = .ok (.iload_n 1, 1) := by decide +kernel
theorem dX1_firstFree_10 : decode cX1_firstFree 10 = .ok (.invokevirtual 27, 3) := by decide +kernel
theorem dX1_firstFree_13 : decode cX1_firstFree 13 = .ok (.ifCond .eq 9, 3) := by decide +kernel
theorem dX1_firstFree_16 : decode cX1_firstFree 16 = .ok (.iinc 1 1, 3) := by decide +kernel
theorem dX1_firstFree_19 : decode cX1_firstFree 19 = .ok (.goto (-17), 3) := by decide +kernel
theorem dX1_firstFree_22 : decode cX1_firstFree 22 = .ok (.iload_n 1, 1) := by decide +kernel
theorem dX1_firstFree_23 : decode cX1_firstFree 23 = .ok (.ireturn, 1) := by decide +kernel
set_option maxRecDepth 20000 in
theorem ggX1_underWayCount_X1_isUnderWay : GoodIn wsX1_underWayCount wsX1_isUnderWay := goodIn_r _ [5, 6, 7, 8, 9] (by decide +kernel) (by decide +kernel)
set_option maxRecDepth 20000 in
theorem gX1_underWayCount_X1_isUnderWay : GoodIn wsX1_underWayCount (wsV RX1 27 RX1 yX1_isUnderWay wsX1_isUnderWay) := goodIn_app (goodIn_of _ (by decide +kernel)) ggX1_underWayCount_X1_isUnderWay
theorem dX1_underWayCount_0 : decode cX1_underWayCount 0 = .ok (.iconst 0, 1) := by decide +kernel
theorem dX1_underWayCount_1 : decode cX1_underWayCount 1 = .ok (.istore_n 1, 1) := by decide +kernel
theorem dX1_underWayCount_2 : decode cX1_underWayCount 2 = .ok (.iconst 0, 1) := by decide +kernel
theorem dX1_underWayCount_3 : decode cX1_underWayCount 3 = .ok (.istore_n 2, 1) := by decide +kernel
theorem dX1_underWayCount_4 : decode cX1_underWayCount 4 = .ok (.iload_n 2, 1) := by decide +kernel
theorem dX1_underWayCount_5 : decode cX1_underWayCount 5 = .ok (.bipush 8, 2) := by decide +kernel
theorem dX1_underWayCount_7 : decode cX1_underWayCount 7 = .ok (.if_icmp .ge 25, 3) := by decide +kernel
theorem dX1_underWayCount_10 : decode cX1_underWayCount 10 = .ok (.iload_n 1, 1) := by decide +kernel
theorem dX1_underWayCount_11 : decode cX1_underWayCount 11 = .ok (.aload_n 0, 1) := by decide +kernel
theorem dX1_underWayCount_12 : decode cX1_underWayCount 12 = .ok (.iload_n 2, 1) := by decide +kernel
theorem dX1_underWayCount_13 : decode cX1_underWayCount 13 = .ok (.invokevirtual 27, 3) := by decide +kernel
theorem dX1_underWayCount_16 : decode cX1_underWayCount 16 = .ok (.ifCond .eq 7, 3) := by decide +kernel
theorem dX1_underWayCount_19 : decode cX1_underWayCount 19 = .ok (.iconst 1, 1) := by decide +kernel
theorem dX1_underWayCount_20 : decode cX1_underWayCount 20 = .ok (.goto 4, 3) := by decide +kernel
theorem dX1_underWayCount_23 : decode cX1_underWayCount 23 = .ok (.iconst 0, 1) := by decide +kernel
theorem dX1_underWayCount_24 : decode cX1_underWayCount 24 = .ok (.iadd, 1) := by decide +kernel
theorem dX1_underWayCount_25 : decode cX1_underWayCount 25 = .ok (.istore_n 1, 1) := by decide +kernel
theorem dX1_underWayCount_26 : decode cX1_underWayCount 26 = .ok (.iinc 2 1, 3) := by decide +kernel
theorem dX1_underWayCount_29 : decode cX1_underWayCount 29 = .ok (.goto (-25), 3) := by decide +kernel
theorem dX1_underWayCount_32 : decode cX1_underWayCount 32 = .ok (.iload_n 1, 1) := by decide +kernel
theorem dX1_underWayCount_33 : decode cX1_underWayCount 33 = .ok (.ireturn, 1) := by decide +kernel
set_option maxRecDepth 20000 in
theorem ggX1_countOf_X1_isOf : GoodIn wsX1_countOf wsX1_isOf := goodIn_r _ [5, 6, 7, 8, 9, 10, 4, 11, 12, 13, 14] (by decide +kernel) (by decide +kernel)
set_option maxRecDepth 20000 in
theorem gX1_countOf_X1_isOf : GoodIn wsX1_countOf (wsV RX1 31 RX1 yX1_isOf wsX1_isOf) := goodIn_app (goodIn_of _ (by decide +kernel)) ggX1_countOf_X1_isOf
theorem dX1_countOf_0 : decode cX1_countOf 0 = .ok (.iconst 0, 1) := by decide +kernel
theorem dX1_countOf_1 : decode cX1_countOf 1 = .ok (.istore_n 2, 1) := by decide +kernel
theorem dX1_countOf_2 : decode cX1_countOf 2 = .ok (.iconst 0, 1) := by decide +kernel
theorem dX1_countOf_3 : decode cX1_countOf 3 = .ok (.istore_n 3, 1) := by decide +kernel
theorem dX1_countOf_4 : decode cX1_countOf 4 = .ok (.iload_n 3, 1) := by decide +kernel
theorem dX1_countOf_5 : decode cX1_countOf 5 = .ok (.bipush 8, 2) := by decide +kernel
theorem dX1_countOf_7 : decode cX1_countOf 7 = .ok (.if_icmp .ge 26, 3) := by decide +kernel
theorem dX1_countOf_10 : decode cX1_countOf 10 = .ok (.iload_n 2, 1) := by decide +kernel
theorem dX1_countOf_11 : decode cX1_countOf 11 = .ok (.aload_n 0, 1) := by decide +kernel
theorem dX1_countOf_12 : decode cX1_countOf 12 = .ok (.iload_n 3, 1) := by decide +kernel
theorem dX1_countOf_13 : decode cX1_countOf 13 = .ok (.iload_n 1, 1) := by decide +kernel
theorem dX1_countOf_14 : decode cX1_countOf 14 = .ok (.invokevirtual 31, 3) := by decide +kernel
theorem dX1_countOf_17 : decode cX1_countOf 17 = .ok (.ifCond .eq 7, 3) := by decide +kernel
theorem dX1_countOf_20 : decode cX1_countOf 20 = .ok (.iconst 1, 1) := by decide +kernel
theorem dX1_countOf_21 : decode cX1_countOf 21 = .ok (.goto 4, 3) := by decide +kernel
theorem dX1_countOf_24 : decode cX1_countOf 24 = .ok (.iconst 0, 1) := by decide +kernel
theorem dX1_countOf_25 : decode cX1_countOf 25 = .ok (.iadd, 1) := by decide +kernel
theorem dX1_countOf_26 : decode cX1_countOf 26 = .ok (.istore_n 2, 1) := by decide +kernel
theorem dX1_countOf_27 : decode cX1_countOf 27 = .ok (.iinc 3 1, 3) := by decide +kernel
theorem dX1_countOf_30 : decode cX1_countOf 30 = .ok (.goto (-26), 3) := by decide +kernel
theorem dX1_countOf_33 : decode cX1_countOf 33 = .ok (.iload_n 2, 1) := by decide +kernel
theorem dX1_countOf_34 : decode cX1_countOf 34 = .ok (.ireturn, 1) := by decide +kernel
set_option maxRecDepth 20000 in
theorem ggX1_anyOver_X1_isOf : GoodIn wsX1_anyOver wsX1_isOf := goodIn_r _ [5, 6, 7, 8, 9, 10, 4, 11, 12, 13, 14] (by decide +kernel) (by decide +kernel)
set_option maxRecDepth 20000 in
theorem gX1_anyOver_X1_isOf : GoodIn wsX1_anyOver (wsV RX1 31 RX1 yX1_isOf wsX1_isOf) := goodIn_app (goodIn_of _ (by decide +kernel)) ggX1_anyOver_X1_isOf
theorem dX1_anyOver_0 : decode cX1_anyOver 0 = .ok (.iconst 0, 1) := by decide +kernel
theorem dX1_anyOver_1 : decode cX1_anyOver 1 = .ok (.istore_n 3, 1) := by decide +kernel
theorem dX1_anyOver_2 : decode cX1_anyOver 2 = .ok (.iload_n 3, 1) := by decide +kernel
theorem dX1_anyOver_3 : decode cX1_anyOver 3 = .ok (.bipush 8, 2) := by decide +kernel
theorem dX1_anyOver_5 : decode cX1_anyOver 5 = .ok (.if_icmp .ge 29, 3) := by decide +kernel
theorem dX1_anyOver_8 : decode cX1_anyOver 8 = .ok (.aload_n 0, 1) := by decide +kernel
theorem dX1_anyOver_9 : decode cX1_anyOver 9 = .ok (.iload_n 3, 1) := by decide +kernel
theorem dX1_anyOver_10 : decode cX1_anyOver 10 = .ok (.iload_n 1, 1) := by decide +kernel
theorem dX1_anyOver_11 : decode cX1_anyOver 11 = .ok (.invokevirtual 31, 3) := by decide +kernel
theorem dX1_anyOver_14 : decode cX1_anyOver 14 = .ok (.ifCond .eq 14, 3) := by decide +kernel
theorem dX1_anyOver_17 : decode cX1_anyOver 17 = .ok (.aload_n 0, 1) := by decide +kernel
theorem dX1_anyOver_18 : decode cX1_anyOver 18 = .ok (.iload_n 3, 1) := by decide +kernel
theorem dX1_anyOver_19 : decode cX1_anyOver 19 = .ok (.iload_n 2, 1) := by decide +kernel
theorem dX1_anyOver_20 : decode cX1_anyOver 20 = .ok (.invokevirtual 31, 3) := by decide +kernel
theorem dX1_anyOver_23 : decode cX1_anyOver 23 = .ok (.ifCond .eq 5, 3) := by decide +kernel
theorem dX1_anyOver_26 : decode cX1_anyOver 26 = .ok (.iconst 1, 1) := by decide +kernel
theorem dX1_anyOver_27 : decode cX1_anyOver 27 = .ok (.ireturn, 1) := by decide +kernel
theorem dX1_anyOver_28 : decode cX1_anyOver 28 = .ok (.iinc 3 1, 3) := by decide +kernel
theorem dX1_anyOver_31 : decode cX1_anyOver 31 = .ok (.goto (-29), 3) := by decide +kernel
theorem dX1_anyOver_34 : decode cX1_anyOver 34 = .ok (.iconst 0, 1) := by decide +kernel
theorem dX1_anyOver_35 : decode cX1_anyOver 35 = .ok (.ireturn, 1) := by decide +kernel
set_option maxRecDepth 20000 in
theorem ggX1_write_X3_put : GoodIn wsX1_write wsX3_put := goodIn_r _ [8, 9, 10, 14, 15] (by decide +kernel) (by decide +kernel)
set_option maxRecDepth 20000 in
theorem gX1_write_X3_put : GoodIn wsX1_write (wsV RX1 35 RX3 yX3_put wsX3_put) := goodIn_app (goodIn_of _ (by decide +kernel)) ggX1_write_X3_put
theorem dX1_write_0 : decode cX1_write 0 = .ok (.aload_n 0, 1) := by decide +kernel
theorem dX1_write_1 : decode cX1_write 1 = .ok (.getfield 9, 3) := by decide +kernel
theorem dX1_write_4 : decode cX1_write 4 = .ok (.iload_n 1, 1) := by decide +kernel
theorem dX1_write_5 : decode cX1_write 5 = .ok (.iload_n 2, 1) := by decide +kernel
theorem dX1_write_6 : decode cX1_write 6 = .ok (.iastore, 1) := by decide +kernel
theorem dX1_write_7 : decode cX1_write 7 = .ok (.aload_n 0, 1) := by decide +kernel
theorem dX1_write_8 : decode cX1_write 8 = .ok (.getfield 15, 3) := by decide +kernel
theorem dX1_write_11 : decode cX1_write 11 = .ok (.iload_n 1, 1) := by decide +kernel
theorem dX1_write_12 : decode cX1_write 12 = .ok (.iload_n 3, 1) := by decide +kernel
theorem dX1_write_13 : decode cX1_write 13 = .ok (.iastore, 1) := by decide +kernel
theorem dX1_write_14 : decode cX1_write 14 = .ok (.aload_n 0, 1) := by decide +kernel
theorem dX1_write_15 : decode cX1_write 15 = .ok (.getfield 23, 3) := by decide +kernel
theorem dX1_write_18 : decode cX1_write 18 = .ok (.iload_n 1, 1) := by decide +kernel
theorem dX1_write_19 : decode cX1_write 19 = .ok (.lload 4, 2) := by decide +kernel
theorem dX1_write_21 : decode cX1_write 21 = .ok (.lload 6, 2) := by decide +kernel
theorem dX1_write_23 : decode cX1_write 23 = .ok (.invokevirtual 35, 3) := by decide +kernel
theorem dX1_write_26 : decode cX1_write 26 = .ok (.return_, 1) := by decide +kernel
set_option maxRecDepth 20000 in
theorem ggX1_drop_X1_write : GoodIn wsX1_drop wsX1_write := goodIn_r _ [5, 6, 7, 8, 9, 10, 11, 12, 13, 14, 15, 16, 17, 18, 19, 20] (by decide +kernel) (by decide +kernel)
set_option maxRecDepth 20000 in
theorem gX1_drop_X1_write : GoodIn wsX1_drop (wsV RX1 39 RX1 yX1_write wsX1_write) := goodIn_app (goodIn_of _ (by decide +kernel)) ggX1_drop_X1_write
theorem dX1_drop_0 : decode cX1_drop 0 = .ok (.aload_n 0, 1) := by decide +kernel
theorem dX1_drop_1 : decode cX1_drop 1 = .ok (.iload_n 1, 1) := by decide +kernel
theorem dX1_drop_2 : decode cX1_drop 2 = .ok (.iconst (-1), 1) := by decide +kernel
theorem dX1_drop_3 : decode cX1_drop 3 = .ok (.iconst (-1), 1) := by decide +kernel
theorem dX1_drop_4 : decode cX1_drop 4 = .ok (.lconst 0, 1) := by decide +kernel
theorem dX1_drop_5 : decode cX1_drop 5 = .ok (.lconst 0, 1) := by decide +kernel
theorem dX1_drop_6 : decode cX1_drop 6 = .ok (.invokevirtual 39, 3) := by decide +kernel
theorem dX1_drop_9 : decode cX1_drop 9 = .ok (.return_, 1) := by decide +kernel
set_option maxRecDepth 20000 in
theorem ggX1_dropAllOf_X1_isOf : GoodIn wsX1_dropAllOf wsX1_isOf := goodIn_r _ [5, 6, 7, 8, 9, 10, 4, 11, 28, 29, 30] (by decide +kernel) (by decide +kernel)
set_option maxRecDepth 20000 in
theorem gX1_dropAllOf_X1_isOf : GoodIn wsX1_dropAllOf (wsV RX1 31 RX1 yX1_isOf wsX1_isOf) := goodIn_app (goodIn_of _ (by decide +kernel)) ggX1_dropAllOf_X1_isOf
set_option maxRecDepth 20000 in
theorem ggX1_dropAllOf_X1_drop : GoodIn wsX1_dropAllOf wsX1_drop := goodIn_r _ [15, 16, 17, 18, 4, 19, 6, 7, 20, 21, 22, 23, 24, 25, 26, 27, 28, 29, 30, 31, 32] (by decide +kernel) (by decide +kernel)
set_option maxRecDepth 20000 in
theorem gX1_dropAllOf_X1_drop : GoodIn wsX1_dropAllOf (wsV RX1 43 RX1 yX1_drop wsX1_drop) := goodIn_app (goodIn_of _ (by decide +kernel)) ggX1_dropAllOf_X1_drop
theorem dX1_dropAllOf_0 : decode cX1_dropAllOf 0 = .ok (.iconst 0, 1) := by decide +kernel
theorem dX1_dropAllOf_1 : decode cX1_dropAllOf 1 = .ok (.istore_n 2, 1) := by decide +kernel
theorem dX1_dropAllOf_2 : decode cX1_dropAllOf 2 = .ok (.iload_n 2, 1) := by decide +kernel
theorem dX1_dropAllOf_3 : decode cX1_dropAllOf 3 = .ok (.bipush 8, 2) := by decide +kernel
theorem dX1_dropAllOf_5 : decode cX1_dropAllOf 5 = .ok (.if_icmp .ge 23, 3) := by decide +kernel
theorem dX1_dropAllOf_8 : decode cX1_dropAllOf 8 = .ok (.aload_n 0, 1) := by decide +kernel
theorem dX1_dropAllOf_9 : decode cX1_dropAllOf 9 = .ok (.iload_n 2, 1) := by decide +kernel
theorem dX1_dropAllOf_10 : decode cX1_dropAllOf 10 = .ok (.iload_n 1, 1) := by decide +kernel
theorem dX1_dropAllOf_11 : decode cX1_dropAllOf 11 = .ok (.invokevirtual 31, 3) := by decide +kernel
theorem dX1_dropAllOf_14 : decode cX1_dropAllOf 14 = .ok (.ifCond .eq 8, 3) := by decide +kernel
theorem dX1_dropAllOf_17 : decode cX1_dropAllOf 17 = .ok (.aload_n 0, 1) := by decide +kernel
theorem dX1_dropAllOf_18 : decode cX1_dropAllOf 18 = .ok (.iload_n 2, 1) := by decide +kernel
theorem dX1_dropAllOf_19 : decode cX1_dropAllOf 19 = .ok (.invokevirtual 43, 3) := by decide +kernel
theorem dX1_dropAllOf_22 : decode cX1_dropAllOf 22 = .ok (.iinc 2 1, 3) := by decide +kernel
theorem dX1_dropAllOf_25 : decode cX1_dropAllOf 25 = .ok (.goto (-23), 3) := by decide +kernel
theorem dX1_dropAllOf_28 : decode cX1_dropAllOf 28 = .ok (.return_, 1) := by decide +kernel
set_option maxRecDepth 20000 in
theorem ggX1_copyFrom_X3_copyFrom : GoodIn wsX1_copyFrom wsX3_copyFrom := goodIn_r _ [12, 13, 14, 3, 4, 5, 15, 19, 20] (by decide +kernel) (by decide +kernel)
set_option maxRecDepth 20000 in
theorem gX1_copyFrom_X3_copyFrom : GoodIn wsX1_copyFrom (wsV RX1 52 RX3 yX3_copyFrom wsX3_copyFrom) := goodIn_app (goodIn_of _ (by decide +kernel)) ggX1_copyFrom_X3_copyFrom
theorem dX1_copyFrom_0 : decode cX1_copyFrom 0 = .ok (.aload_n 1, 1) := by decide +kernel
theorem dX1_copyFrom_1 : decode cX1_copyFrom 1 = .ok (.getfield 9, 3) := by decide +kernel
theorem dX1_copyFrom_4 : decode cX1_copyFrom 4 = .ok (.iconst 0, 1) := by decide +kernel
theorem dX1_copyFrom_5 : decode cX1_copyFrom 5 = .ok (.aload_n 0, 1) := by decide +kernel
theorem dX1_copyFrom_6 : decode cX1_copyFrom 6 = .ok (.getfield 9, 3) := by decide +kernel
theorem dX1_copyFrom_9 : decode cX1_copyFrom 9 = .ok (.iconst 0, 1) := by decide +kernel
theorem dX1_copyFrom_10 : decode cX1_copyFrom 10 = .ok (.bipush 8, 2) := by decide +kernel
theorem dX1_copyFrom_12 : decode cX1_copyFrom 12 = .ok (.invokestatic 46, 3) := by decide +kernel
theorem dX1_copyFrom_15 : decode cX1_copyFrom 15 = .ok (.aload_n 1, 1) := by decide +kernel
theorem dX1_copyFrom_16 : decode cX1_copyFrom 16 = .ok (.getfield 15, 3) := by decide +kernel
theorem dX1_copyFrom_19 : decode cX1_copyFrom 19 = .ok (.iconst 0, 1) := by decide +kernel
theorem dX1_copyFrom_20 : decode cX1_copyFrom 20 = .ok (.aload_n 0, 1) := by decide +kernel
theorem dX1_copyFrom_21 : decode cX1_copyFrom 21 = .ok (.getfield 15, 3) := by decide +kernel
theorem dX1_copyFrom_24 : decode cX1_copyFrom 24 = .ok (.iconst 0, 1) := by decide +kernel
theorem dX1_copyFrom_25 : decode cX1_copyFrom 25 = .ok (.bipush 8, 2) := by decide +kernel
theorem dX1_copyFrom_27 : decode cX1_copyFrom 27 = .ok (.invokestatic 46, 3) := by decide +kernel
theorem dX1_copyFrom_30 : decode cX1_copyFrom 30 = .ok (.aload_n 0, 1) := by decide +kernel
theorem dX1_copyFrom_31 : decode cX1_copyFrom 31 = .ok (.getfield 23, 3) := by decide +kernel
theorem dX1_copyFrom_34 : decode cX1_copyFrom 34 = .ok (.aload_n 1, 1) := by decide +kernel
theorem dX1_copyFrom_35 : decode cX1_copyFrom 35 = .ok (.getfield 23, 3) := by decide +kernel
theorem dX1_copyFrom_38 : decode cX1_copyFrom 38 = .ok (.invokevirtual 52, 3) := by decide +kernel
theorem dX1_copyFrom_41 : decode cX1_copyFrom 41 = .ok (.return_, 1) := by decide +kernel
set_option maxRecDepth 20000 in
theorem ggX1_isOf_X1_isUnderWay : GoodIn wsX1_isOf wsX1_isUnderWay := goodIn_r _ [7, 1, 8, 9, 10] (by decide +kernel) (by decide +kernel)
set_option maxRecDepth 20000 in
theorem gX1_isOf_X1_isUnderWay : GoodIn wsX1_isOf (wsV RX1 27 RX1 yX1_isUnderWay wsX1_isUnderWay) := goodIn_app (goodIn_of _ (by decide +kernel)) ggX1_isOf_X1_isUnderWay
theorem dX1_isOf_0 : decode cX1_isOf 0 = .ok (.aload_n 0, 1) := by decide +kernel
theorem dX1_isOf_1 : decode cX1_isOf 1 = .ok (.iload_n 1, 1) := by decide +kernel
theorem dX1_isOf_2 : decode cX1_isOf 2 = .ok (.invokevirtual 27, 3) := by decide +kernel
theorem dX1_isOf_5 : decode cX1_isOf 5 = .ok (.ifCond .eq 27, 3) := by decide +kernel
theorem dX1_isOf_8 : decode cX1_isOf 8 = .ok (.aload_n 0, 1) := by decide +kernel
theorem dX1_isOf_9 : decode cX1_isOf 9 = .ok (.getfield 9, 3) := by decide +kernel
theorem dX1_isOf_12 : decode cX1_isOf 12 = .ok (.iload_n 1, 1) := by decide +kernel
theorem dX1_isOf_13 : decode cX1_isOf 13 = .ok (.iaload, 1) := by decide +kernel
theorem dX1_isOf_14 : decode cX1_isOf 14 = .ok (.iload_n 2, 1) := by decide +kernel
theorem dX1_isOf_15 : decode cX1_isOf 15 = .ok (.if_icmp .eq 13, 3) := by decide +kernel
theorem dX1_isOf_18 : decode cX1_isOf 18 = .ok (.aload_n 0, 1) := by decide +kernel
theorem dX1_isOf_19 : decode cX1_isOf 19 = .ok (.getfield 15, 3) := by decide +kernel
theorem dX1_isOf_22 : decode cX1_isOf 22 = .ok (.iload_n 1, 1) := by decide +kernel
theorem dX1_isOf_23 : decode cX1_isOf 23 = .ok (.iaload, 1) := by decide +kernel
theorem dX1_isOf_24 : decode cX1_isOf 24 = .ok (.iload_n 2, 1) := by decide +kernel
theorem dX1_isOf_25 : decode cX1_isOf 25 = .ok (.if_icmp .ne 7, 3) := by decide +kernel
theorem dX1_isOf_28 : decode cX1_isOf 28 = .ok (.iconst 1, 1) := by decide +kernel
theorem dX1_isOf_29 : decode cX1_isOf 29 = .ok (.goto 4, 3) := by decide +kernel
theorem dX1_isOf_32 : decode cX1_isOf 32 = .ok (.iconst 0, 1) := by decide +kernel
theorem dX1_isOf_33 : decode cX1_isOf 33 = .ok (.ireturn, 1) := by decide +kernel
theorem dX2_init_0 : decode cX2_init 0 = .ok (.aload_n 0, 1) := by decide +kernel
theorem dX2_init_1 : decode cX2_init 1 = .ok (.invokespecial 3, 3) := by decide +kernel
theorem dX2_init_4 : decode cX2_init 4 = .ok (.aload_n 0, 1) := by decide +kernel
theorem dX2_init_5 : decode cX2_init 5 = .ok (.bipush 45, 2) := by decide +kernel
theorem dX2_init_7 : decode cX2_init 7 = .ok (.newarray .int, 2) := by decide +kernel
theorem dX2_init_9 : decode cX2_init 9 = .ok (.putfield 9, 3) := by decide +kernel
theorem dX2_init_12 : decode cX2_init 12 = .ok (.aload_n 0, 1) := by decide +kernel
theorem dX2_init_13 : decode cX2_init 13 = .ok (.bipush 45, 2) := by decide +kernel
theorem dX2_init_15 : decode cX2_init 15 = .ok (.newarray .int, 2) := by decide +kernel
theorem dX2_init_17 : decode cX2_init 17 = .ok (.putfield 15, 3) := by decide +kernel
theorem dX2_init_20 : decode cX2_init 20 = .ok (.aload_n 0, 1) := by decide +kernel
theorem dX2_init_21 : decode cX2_init 21 = .ok (.iconst 0, 1) := by decide +kernel
theorem dX2_init_22 : decode cX2_init 22 = .ok (.putfield 18, 3) := by decide +kernel
theorem dX2_init_25 : decode cX2_init 25 = .ok (.return_, 1) := by decide +kernel
set_option maxRecDepth 20000 in
theorem ggX2_listOf_X5_isJoined : GoodIn wsX2_listOf wsX5_isJoined := goodIn_r _ [7, 8, 24, 25, 26, 27, 28, 29, 30, 31, 32, 33, 34, 35, 36, 37] (by decide +kernel) (by decide +kernel)
set_option maxRecDepth 20000 in
theorem gX2_listOf_X5_isJoined : GoodIn wsX2_listOf (wsV RX2 27 RX5 yX5_isJoined wsX5_isJoined) := goodIn_app (goodIn_of _ (by decide +kernel)) ggX2_listOf_X5_isJoined
set_option maxRecDepth 20000 in
theorem ggX2_listOf_X5_isHere : GoodIn wsX2_listOf wsX5_isHere := goodIn_r _ [12, 13, 24, 25, 26, 27, 28, 29, 30, 31, 32, 33, 34, 35, 36, 37] (by decide +kernel) (by decide +kernel)
set_option maxRecDepth 20000 in
theorem gX2_listOf_X5_isHere : GoodIn wsX2_listOf (wsV RX2 31 RX5 yX5_isHere wsX5_isHere) := goodIn_app (goodIn_of _ (by decide +kernel)) ggX2_listOf_X5_isHere
set_option maxRecDepth 20000 in
theorem ggX2_listOf_X2_add : GoodIn wsX2_listOf wsX2_add := goodIn_r _ [18, 1, 19, 20, 21, 22, 23] (by decide +kernel) (by decide +kernel)
set_option maxRecDepth 20000 in
theorem gX2_listOf_X2_add : GoodIn wsX2_listOf (wsV RX2 35 RX2 yX2_add wsX2_add) := goodIn_app (goodIn_of _ (by decide +kernel)) ggX2_listOf_X2_add
theorem dX2_listOf_0 : decode cX2_listOf 0 = .ok (.aload_n 0, 1) := by decide +kernel
theorem dX2_listOf_1 : decode cX2_listOf 1 = .ok (.iconst 0, 1) := by decide +kernel
theorem dX2_listOf_2 : decode cX2_listOf 2 = .ok (.putfield 18, 3) := by decide +kernel
theorem dX2_listOf_5 : decode cX2_listOf 5 = .ok (.iconst 0, 1) := by decide +kernel
theorem dX2_listOf_6 : decode cX2_listOf 6 = .ok (.istore_n 2, 1) := by decide +kernel
theorem dX2_listOf_7 : decode cX2_listOf 7 = .ok (.iload_n 2, 1) := by decide +kernel
theorem dX2_listOf_8 : decode cX2_listOf 8 = .ok (.aload_n 1, 1) := by decide +kernel
theorem dX2_listOf_9 : decode cX2_listOf 9 = .ok (.getfield 22, 3) := by decide +kernel
theorem dX2_listOf_12 : decode cX2_listOf 12 = .ok (.if_icmp .ge 58, 3) := by decide +kernel
theorem dX2_listOf_15 : decode cX2_listOf 15 = .ok (.iload_n 2, 1) := by decide +kernel
theorem dX2_listOf_16 : decode cX2_listOf 16 = .ok (.iconst 1, 1) := by decide +kernel
theorem dX2_listOf_17 : decode cX2_listOf 17 = .ok (.iadd, 1) := by decide +kernel
theorem dX2_listOf_18 : decode cX2_listOf 18 = .ok (.istore_n 3, 1) := by decide +kernel
theorem dX2_listOf_19 : decode cX2_listOf 19 = .ok (.iload_n 3, 1) := by decide +kernel
theorem dX2_listOf_20 : decode cX2_listOf 20 = .ok (.aload_n 1, 1) := by decide +kernel
theorem dX2_listOf_21 : decode cX2_listOf 21 = .ok (.getfield 22, 3) := by decide +kernel
theorem dX2_listOf_24 : decode cX2_listOf 24 = .ok (.if_icmp .ge 40, 3) := by decide +kernel
theorem dX2_listOf_27 : decode cX2_listOf 27 = .ok (.aload_n 1, 1) := by decide +kernel
theorem dX2_listOf_28 : decode cX2_listOf 28 = .ok (.iload_n 2, 1) := by decide +kernel
theorem dX2_listOf_29 : decode cX2_listOf 29 = .ok (.iload_n 3, 1) := by decide +kernel
theorem dX2_listOf_30 : decode cX2_listOf 30 = .ok (.invokevirtual 27, 3) := by decide +kernel
theorem dX2_listOf_33 : decode cX2_listOf 33 = .ok (.ifCond .eq 25, 3) := by decide +kernel
theorem dX2_listOf_36 : decode cX2_listOf 36 = .ok (.aload_n 1, 1) := by decide +kernel
theorem dX2_listOf_37 : decode cX2_listOf 37 = .ok (.iload_n 2, 1) := by decide +kernel
theorem dX2_listOf_38 : decode cX2_listOf 38 = .ok (.invokevirtual 31, 3) := by decide +kernel
theorem dX2_listOf_41 : decode cX2_listOf 41 = .ok (.ifCond .eq 17, 3) := by decide +kernel
theorem dX2_listOf_44 : decode cX2_listOf 44 = .ok (.aload_n 1, 1) := by decide +kernel
theorem dX2_listOf_45 : decode cX2_listOf 45 = .ok (.iload_n 3, 1) := by decide +kernel
theorem dX2_listOf_46 : decode cX2_listOf 46 = .ok (.invokevirtual 31, 3) := by decide +kernel
theorem dX2_listOf_49 : decode cX2_listOf 49 = .ok (.ifCond .eq 9, 3) := by decide +kernel
theorem dX2_listOf_52 : decode cX2_listOf 52 = .ok (.aload_n 0, 1) := by decide +kernel
theorem dX2_listOf_53 : decode cX2_listOf 53 = .ok (.iload_n 2, 1) := by decide +kernel
theorem dX2_listOf_54 : decode cX2_listOf 54 = .ok (.iload_n 3, 1) := by decide +kernel
theorem dX2_listOf_55 : decode cX2_listOf 55 = .ok (.invokevirtual 35, 3) := by decide +kernel
theorem dX2_listOf_58 : decode cX2_listOf 58 = .ok (.iinc 3 1, 3) := by decide +kernel
theorem dX2_listOf_61 : decode cX2_listOf 61 = .ok (.goto (-42), 3) := by decide +kernel
theorem dX2_listOf_64 : decode cX2_listOf 64 = .ok (.iinc 2 1, 3) := by decide +kernel
theorem dX2_listOf_67 : decode cX2_listOf 67 = .ok (.goto (-60), 3) := by decide +kernel
theorem dX2_listOf_70 : decode cX2_listOf 70 = .ok (.return_, 1) := by decide +kernel
theorem dX2_add_0 : decode cX2_add 0 = .ok (.aload_n 0, 1) := by decide +kernel
theorem dX2_add_1 : decode cX2_add 1 = .ok (.getfield 18, 3) := by decide +kernel
theorem dX2_add_4 : decode cX2_add 4 = .ok (.bipush 45, 2) := by decide +kernel
theorem dX2_add_6 : decode cX2_add 6 = .ok (.if_icmp .ge 33, 3) := by decide +kernel
theorem dX2_add_9 : decode cX2_add 9 = .ok (.aload_n 0, 1) := by decide +kernel
theorem dX2_add_10 : decode cX2_add 10 = .ok (.getfield 9, 3) := by decide +kernel
theorem dX2_add_13 : decode cX2_add 13 = .ok (.aload_n 0, 1) := by decide +kernel
theorem dX2_add_14 : decode cX2_add 14 = .ok (.getfield 18, 3) := by decide +kernel
theorem dX2_add_17 : decode cX2_add 17 = .ok (.iload_n 1, 1) := by decide +kernel
theorem dX2_add_18 : decode cX2_add 18 = .ok (.iastore, 1) := by decide +kernel
theorem dX2_add_19 : decode cX2_add 19 = .ok (.aload_n 0, 1) := by decide +kernel
theorem dX2_add_20 : decode cX2_add 20 = .ok (.getfield 15, 3) := by decide +kernel
theorem dX2_add_23 : decode cX2_add 23 = .ok (.aload_n 0, 1) := by decide +kernel
theorem dX2_add_24 : decode cX2_add 24 = .ok (.getfield 18, 3) := by decide +kernel
theorem dX2_add_27 : decode cX2_add 27 = .ok (.iload_n 2, 1) := by decide +kernel
theorem dX2_add_28 : decode cX2_add 28 = .ok (.iastore, 1) := by decide +kernel
theorem dX2_add_29 : decode cX2_add 29 = .ok (.aload_n 0, 1) := by decide +kernel
theorem dX2_add_30 : decode cX2_add 30 = .ok (.dup, 1) := by decide +kernel
theorem dX2_add_31 : decode cX2_add 31 = .ok (.getfield 18, 3) := by decide +kernel
theorem dX2_add_34 : decode cX2_add 34 = .ok (.iconst 1, 1) := by decide +kernel
theorem dX2_add_35 : decode cX2_add 35 = .ok (.iadd, 1) := by decide +kernel
theorem dX2_add_36 : decode cX2_add 36 = .ok (.putfield 18, 3) := by decide +kernel
theorem dX2_add_39 : decode cX2_add 39 = .ok (.return_, 1) := by decide +kernel
theorem dX3_init_0 : decode cX3_init 0 = .ok (.aload_n 0, 1) := by decide +kernel
theorem dX3_init_1 : decode cX3_init 1 = .ok (.invokespecial 1, 3) := by decide +kernel
theorem dX3_init_4 : decode cX3_init 4 = .ok (.iload_n 1, 1) := by decide +kernel
theorem dX3_init_5 : decode cX3_init 5 = .ok (.ifCond .le 7, 3) := by decide +kernel
theorem dX3_init_8 : decode cX3_init 8 = .ok (.iload_n 1, 1) := by decide +kernel
theorem dX3_init_9 : decode cX3_init 9 = .ok (.goto 4, 3) := by decide +kernel
theorem dX3_init_12 : decode cX3_init 12 = .ok (.iconst 0, 1) := by decide +kernel
theorem dX3_init_13 : decode cX3_init 13 = .ok (.istore_n 2, 1) := by decide +kernel
theorem dX3_init_14 : decode cX3_init 14 = .ok (.aload_n 0, 1) := by decide +kernel
theorem dX3_init_15 : decode cX3_init 15 = .ok (.iload_n 2, 1) := by decide +kernel
theorem dX3_init_16 : decode cX3_init 16 = .ok (.newarray .long, 2) := by decide +kernel
theorem dX3_init_18 : decode cX3_init 18 = .ok (.putfield 7, 3) := by decide +kernel
theorem dX3_init_21 : decode cX3_init 21 = .ok (.aload_n 0, 1) := by decide +kernel
theorem dX3_init_22 : decode cX3_init 22 = .ok (.iload_n 2, 1) := by decide +kernel
theorem dX3_init_23 : decode cX3_init 23 = .ok (.newarray .long, 2) := by decide +kernel
theorem dX3_init_25 : decode cX3_init 25 = .ok (.putfield 13, 3) := by decide +kernel
theorem dX3_init_28 : decode cX3_init 28 = .ok (.return_, 1) := by decide +kernel
theorem dX3_at_0 : decode cX3_at 0 = .ok (.iload_n 2, 1) := by decide +kernel
theorem dX3_at_1 : decode cX3_at 1 = .ok (.ifCond .eq 12, 3) := by decide +kernel
theorem dX3_at_4 : decode cX3_at 4 = .ok (.aload_n 0, 1) := by decide +kernel
theorem dX3_at_5 : decode cX3_at 5 = .ok (.getfield 13, 3) := by decide +kernel
theorem dX3_at_8 : decode cX3_at 8 = .ok (.iload_n 1, 1) := by decide +kernel
theorem dX3_at_9 : decode cX3_at 9 = .ok (.laload, 1) := by decide +kernel
theorem dX3_at_10 : decode cX3_at 10 = .ok (.goto 9, 3) := by decide +kernel
theorem dX3_at_13 : decode cX3_at 13 = .ok (.aload_n 0, 1) := by decide +kernel
theorem dX3_at_14 : decode cX3_at 14 = .ok (.getfield 7, 3) := by decide +kernel
theorem dX3_at_17 : decode cX3_at 17 = .ok (.iload_n 1, 1) := by decide +kernel
theorem dX3_at_18 : decode cX3_at 18 = .ok (.laload, 1) := by decide +kernel
theorem dX3_at_19 : decode cX3_at 19 = .ok (.lreturn, 1) := by decide +kernel
theorem dX3_put_0 : decode cX3_put 0 = .ok (.aload_n 0, 1) := by decide +kernel
theorem dX3_put_1 : decode cX3_put 1 = .ok (.getfield 7, 3) := by decide +kernel
theorem dX3_put_4 : decode cX3_put 4 = .ok (.iload_n 1, 1) := by decide +kernel
theorem dX3_put_5 : decode cX3_put 5 = .ok (.lload_n 2, 1) := by decide +kernel
theorem dX3_put_6 : decode cX3_put 6 = .ok (.lastore, 1) := by decide +kernel
theorem dX3_put_7 : decode cX3_put 7 = .ok (.aload_n 0, 1) := by decide +kernel
theorem dX3_put_8 : decode cX3_put 8 = .ok (.getfield 13, 3) := by decide +kernel
theorem dX3_put_11 : decode cX3_put 11 = .ok (.iload_n 1, 1) := by decide +kernel
theorem dX3_put_12 : decode cX3_put 12 = .ok (.lload 4, 2) := by decide +kernel
theorem dX3_put_14 : decode cX3_put 14 = .ok (.lastore, 1) := by decide +kernel
theorem dX3_put_15 : decode cX3_put 15 = .ok (.return_, 1) := by decide +kernel
theorem dX3_add_0 : decode cX3_add 0 = .ok (.aload_n 0, 1) := by decide +kernel
theorem dX3_add_1 : decode cX3_add 1 = .ok (.getfield 7, 3) := by decide +kernel
theorem dX3_add_4 : decode cX3_add 4 = .ok (.iload_n 1, 1) := by decide +kernel
theorem dX3_add_5 : decode cX3_add 5 = .ok (.dup2, 1) := by decide +kernel
theorem dX3_add_6 : decode cX3_add 6 = .ok (.laload, 1) := by decide +kernel
theorem dX3_add_7 : decode cX3_add 7 = .ok (.lload_n 2, 1) := by decide +kernel
theorem dX3_add_8 : decode cX3_add 8 = .ok (.ladd, 1) := by decide +kernel
theorem dX3_add_9 : decode cX3_add 9 = .ok (.lastore, 1) := by decide +kernel
theorem dX3_add_10 : decode cX3_add 10 = .ok (.aload_n 0, 1) := by decide +kernel
theorem dX3_add_11 : decode cX3_add 11 = .ok (.getfield 13, 3) := by decide +kernel
theorem dX3_add_14 : decode cX3_add 14 = .ok (.iload_n 1, 1) := by decide +kernel
theorem dX3_add_15 : decode cX3_add 15 = .ok (.dup2, 1) := by decide +kernel
theorem dX3_add_16 : decode cX3_add 16 = .ok (.laload, 1) := by decide +kernel
theorem dX3_add_17 : decode cX3_add 17 = .ok (.lload 4, 2) := by decide +kernel
theorem dX3_add_19 : decode cX3_add 19 = .ok (.ladd, 1) := by decide +kernel
theorem dX3_add_20 : decode cX3_add 20 = .ok (.lastore, 1) := by decide +kernel
theorem dX3_add_21 : decode cX3_add 21 = .ok (.return_, 1) := by decide +kernel
set_option maxRecDepth 20000 in
theorem ggX3_addFrom_X3_add : GoodIn wsX3_addFrom wsX3_add := goodIn_r _ [7, 1, 2, 8, 9] (by decide +kernel) (by decide +kernel)
set_option maxRecDepth 20000 in
theorem gX3_addFrom_X3_add : GoodIn wsX3_addFrom (wsV RX3 16 RX3 yX3_add wsX3_add) := goodIn_app (goodIn_of _ (by decide +kernel)) ggX3_addFrom_X3_add
theorem dX3_addFrom_0 : decode cX3_addFrom 0 = .ok (.aload_n 0, 1) := by decide +kernel
theorem dX3_addFrom_1 : decode cX3_addFrom 1 = .ok (.iload_n 1, 1) := by decide +kernel
theorem dX3_addFrom_2 : decode cX3_addFrom 2 = .ok (.aload_n 2, 1) := by decide +kernel
theorem dX3_addFrom_3 : decode cX3_addFrom 3 = .ok (.getfield 7, 3) := by decide +kernel
theorem dX3_addFrom_6 : decode cX3_addFrom 6 = .ok (.iload_n 3, 1) := by decide +kernel
theorem dX3_addFrom_7 : decode cX3_addFrom 7 = .ok (.laload, 1) := by decide +kernel
theorem dX3_addFrom_8 : decode cX3_addFrom 8 = .ok (.aload_n 2, 1) := by decide +kernel
theorem dX3_addFrom_9 : decode cX3_addFrom 9 = .ok (.getfield 13, 3) := by decide +kernel
theorem dX3_addFrom_12 : decode cX3_addFrom 12 = .ok (.iload_n 3, 1) := by decide +kernel
theorem dX3_addFrom_13 : decode cX3_addFrom 13 = .ok (.laload, 1) := by decide +kernel
theorem dX3_addFrom_14 : decode cX3_addFrom 14 = .ok (.invokevirtual 16, 3) := by decide +kernel
theorem dX3_addFrom_17 : decode cX3_addFrom 17 = .ok (.return_, 1) := by decide +kernel
set_option maxRecDepth 20000 in
theorem ggX3_even_X3_put : GoodIn wsX3_even wsX3_put := goodIn_r _ [7, 1, 2, 8, 9] (by decide +kernel) (by decide +kernel)
set_option maxRecDepth 20000 in
theorem gX3_even_X3_put : GoodIn wsX3_even (wsV RX3 20 RX3 yX3_put wsX3_put) := goodIn_app (goodIn_of _ (by decide +kernel)) ggX3_even_X3_put
theorem dX3_even_0 : decode cX3_even 0 = .ok (.aload_n 0, 1) := by decide +kernel
theorem dX3_even_1 : decode cX3_even 1 = .ok (.getfield 7, 3) := by decide +kernel
theorem dX3_even_4 : decode cX3_even 4 = .ok (.iload_n 1, 1) := by decide +kernel
theorem dX3_even_5 : decode cX3_even 5 = .ok (.laload, 1) := by decide +kernel
theorem dX3_even_6 : decode cX3_even 6 = .ok (.aload_n 0, 1) := by decide +kernel
theorem dX3_even_7 : decode cX3_even 7 = .ok (.getfield 7, 3) := by decide +kernel
theorem dX3_even_10 : decode cX3_even 10 = .ok (.iload_n 2, 1) := by decide +kernel
theorem dX3_even_11 : decode cX3_even 11 = .ok (.laload, 1) := by decide +kernel
theorem dX3_even_12 : decode cX3_even 12 = .ok (.ladd, 1) := by decide +kernel
theorem dX3_even_13 : decode cX3_even 13 = .ok (.lstore_n 3, 1) := by decide +kernel
theorem dX3_even_14 : decode cX3_even 14 = .ok (.aload_n 0, 1) := by decide +kernel
theorem dX3_even_15 : decode cX3_even 15 = .ok (.getfield 13, 3) := by decide +kernel
theorem dX3_even_18 : decode cX3_even 18 = .ok (.iload_n 1, 1) := by decide +kernel
theorem dX3_even_19 : decode cX3_even 19 = .ok (.laload, 1) := by decide +kernel
theorem dX3_even_20 : decode cX3_even 20 = .ok (.aload_n 0, 1) := by decide +kernel
theorem dX3_even_21 : decode cX3_even 21 = .ok (.getfield 13, 3) := by decide +kernel
theorem dX3_even_24 : decode cX3_even 24 = .ok (.iload_n 2, 1) := by decide +kernel
theorem dX3_even_25 : decode cX3_even 25 = .ok (.laload, 1) := by decide +kernel
theorem dX3_even_26 : decode cX3_even 26 = .ok (.ladd, 1) := by decide +kernel
theorem dX3_even_27 : decode cX3_even 27 = .ok (.lstore 5, 2) := by decide +kernel
theorem dX3_even_29 : decode cX3_even 29 = .ok (.aload_n 0, 1) := by decide +kernel
theorem dX3_even_30 : decode cX3_even 30 = .ok (.iload_n 2, 1) := by decide +kernel
theorem dX3_even_31 : decode cX3_even 31 = .ok (.lload_n 3, 1) := by decide +kernel
theorem dX3_even_32 : decode cX3_even 32 = .ok (.iconst 1, 1) := by decide +kernel
theorem dX3_even_33 : decode cX3_even 33 = .ok (.lshr, 1) := by decide +kernel
theorem dX3_even_34 : decode cX3_even 34 = .ok (.lload 5, 2) := by decide +kernel
theorem dX3_even_36 : decode cX3_even 36 = .ok (.iconst 1, 1) := by decide +kernel
theorem dX3_even_37 : decode cX3_even 37 = .ok (.lshr, 1) := by decide +kernel
theorem dX3_even_38 : decode cX3_even 38 = .ok (.invokevirtual 20, 3) := by decide +kernel
theorem dX3_even_41 : decode cX3_even 41 = .ok (.aload_n 0, 1) := by decide +kernel
theorem dX3_even_42 : decode cX3_even 42 = .ok (.iload_n 1, 1) := by decide +kernel
theorem dX3_even_43 : decode cX3_even 43 = .ok (.lload_n 3, 1) := by decide +kernel
theorem dX3_even_44 : decode cX3_even 44 = .ok (.aload_n 0, 1) := by decide +kernel
theorem dX3_even_45 : decode cX3_even 45 = .ok (.getfield 7, 3) := by decide +kernel
theorem dX3_even_48 : decode cX3_even 48 = .ok (.iload_n 2, 1) := by decide +kernel
theorem dX3_even_49 : decode cX3_even 49 = .ok (.laload, 1) := by decide +kernel
theorem dX3_even_50 : decode cX3_even 50 = .ok (.lsub, 1) := by decide +kernel
theorem dX3_even_51 : decode cX3_even 51 = .ok (.lload 5, 2) := by decide +kernel
theorem dX3_even_53 : decode cX3_even 53 = .ok (.aload_n 0, 1) := by decide +kernel
theorem dX3_even_54 : decode cX3_even 54 = .ok (.getfield 13, 3) := by decide +kernel
theorem dX3_even_57 : decode cX3_even 57 = .ok (.iload_n 2, 1) := by decide +kernel
theorem dX3_even_58 : decode cX3_even 58 = .ok (.laload, 1) := by decide +kernel
theorem dX3_even_59 : decode cX3_even 59 = .ok (.lsub, 1) := by decide +kernel
theorem dX3_even_60 : decode cX3_even 60 = .ok (.invokevirtual 20, 3) := by decide +kernel
theorem dX3_even_63 : decode cX3_even 63 = .ok (.return_, 1) := by decide +kernel
set_option maxRecDepth 20000 in
theorem ggX3_move_X3_addFrom : GoodIn wsX3_move wsX3_addFrom := goodIn_r _ [5, 6, 7, 8, 9, 10, 4, 11, 16, 17] (by decide +kernel) (by decide +kernel)
set_option maxRecDepth 20000 in
theorem gX3_move_X3_addFrom : GoodIn wsX3_move (wsV RX3 23 RX3 yX3_addFrom wsX3_addFrom) := goodIn_app (goodIn_of _ (by decide +kernel)) ggX3_move_X3_addFrom
set_option maxRecDepth 20000 in
theorem ggX3_move_X3_put : GoodIn wsX3_move wsX3_put := goodIn_r _ [15, 6, 7, 16, 17] (by decide +kernel) (by decide +kernel)
set_option maxRecDepth 20000 in
theorem gX3_move_X3_put : GoodIn wsX3_move (wsV RX3 20 RX3 yX3_put wsX3_put) := goodIn_app (goodIn_of _ (by decide +kernel)) ggX3_move_X3_put
theorem dX3_move_0 : decode cX3_move 0 = .ok (.aload_n 0, 1) := by decide +kernel
theorem dX3_move_1 : decode cX3_move 1 = .ok (.iload_n 2, 1) := by decide +kernel
theorem dX3_move_2 : decode cX3_move 2 = .ok (.aload_n 0, 1) := by decide +kernel
theorem dX3_move_3 : decode cX3_move 3 = .ok (.iload_n 1, 1) := by decide +kernel
theorem dX3_move_4 : decode cX3_move 4 = .ok (.invokevirtual 23, 3) := by decide +kernel
theorem dX3_move_7 : decode cX3_move 7 = .ok (.aload_n 0, 1) := by decide +kernel
theorem dX3_move_8 : decode cX3_move 8 = .ok (.iload_n 1, 1) := by decide +kernel
theorem dX3_move_9 : decode cX3_move 9 = .ok (.lconst 0, 1) := by decide +kernel
theorem dX3_move_10 : decode cX3_move 10 = .ok (.lconst 0, 1) := by decide +kernel
theorem dX3_move_11 : decode cX3_move 11 = .ok (.invokevirtual 20, 3) := by decide +kernel
theorem dX3_move_14 : decode cX3_move 14 = .ok (.return_, 1) := by decide +kernel
theorem dX3_total_0 : decode cX3_total 0 = .ok (.iload_n 1, 1) := by decide +kernel
theorem dX3_total_1 : decode cX3_total 1 = .ok (.ifCond .eq 10, 3) := by decide +kernel
theorem dX3_total_4 : decode cX3_total 4 = .ok (.aload_n 0, 1) := by decide +kernel
theorem dX3_total_5 : decode cX3_total 5 = .ok (.getfield 13, 3) := by decide +kernel
theorem dX3_total_8 : decode cX3_total 8 = .ok (.goto 7, 3) := by decide +kernel
theorem dX3_total_11 : decode cX3_total 11 = .ok (.aload_n 0, 1) := by decide +kernel
theorem dX3_total_12 : decode cX3_total 12 = .ok (.getfield 7, 3) := by decide +kernel
theorem dX3_total_15 : decode cX3_total 15 = .ok (.astore_n 2, 1) := by decide +kernel
theorem dX3_total_16 : decode cX3_total 16 = .ok (.lconst 0, 1) := by decide +kernel
theorem dX3_total_17 : decode cX3_total 17 = .ok (.lstore_n 3, 1) := by decide +kernel
theorem dX3_total_18 : decode cX3_total 18 = .ok (.iconst 0, 1) := by decide +kernel
theorem dX3_total_19 : decode cX3_total 19 = .ok (.istore 5, 2) := by decide +kernel
theorem dX3_total_21 : decode cX3_total 21 = .ok (.iload 5, 2) := by decide +kernel
theorem dX3_total_23 : decode cX3_total 23 = .ok (.aload_n 2, 1) := by decide +kernel
theorem dX3_total_24 : decode cX3_total 24 = .ok (.arraylength, 1) := by decide +kernel
theorem dX3_total_25 : decode cX3_total 25 = .ok (.if_icmp .ge 16, 3) := by decide +kernel
theorem dX3_total_28 : decode cX3_total 28 = .ok (.lload_n 3, 1) := by decide +kernel
theorem dX3_total_29 : decode cX3_total 29 = .ok (.aload_n 2, 1) := by decide +kernel
theorem dX3_total_30 : decode cX3_total 30 = .ok (.iload 5, 2) := by decide +kernel
theorem dX3_total_32 : decode cX3_total 32 = .ok (.laload, 1) := by decide +kernel
theorem dX3_total_33 : decode cX3_total 33 = .ok (.ladd, 1) := by decide +kernel
theorem dX3_total_34 : decode cX3_total 34 = .ok (.lstore_n 3, 1) := by decide +kernel
theorem dX3_total_35 : decode cX3_total 35 = .ok (.iinc 5 1, 3) := by decide +kernel
theorem dX3_total_38 : decode cX3_total 38 = .ok (.goto (-17), 3) := by decide +kernel
theorem dX3_total_41 : decode cX3_total 41 = .ok (.lload_n 3, 1) := by decide +kernel
theorem dX3_total_42 : decode cX3_total 42 = .ok (.lreturn, 1) := by decide +kernel
theorem dX3_copyFrom_0 : decode cX3_copyFrom 0 = .ok (.aload_n 1, 1) := by decide +kernel
theorem dX3_copyFrom_1 : decode cX3_copyFrom 1 = .ok (.getfield 7, 3) := by decide +kernel
theorem dX3_copyFrom_4 : decode cX3_copyFrom 4 = .ok (.iconst 0, 1) := by decide +kernel
theorem dX3_copyFrom_5 : decode cX3_copyFrom 5 = .ok (.aload_n 0, 1) := by decide +kernel
theorem dX3_copyFrom_6 : decode cX3_copyFrom 6 = .ok (.getfield 7, 3) := by decide +kernel
theorem dX3_copyFrom_9 : decode cX3_copyFrom 9 = .ok (.iconst 0, 1) := by decide +kernel
theorem dX3_copyFrom_10 : decode cX3_copyFrom 10 = .ok (.aload_n 0, 1) := by decide +kernel
theorem dX3_copyFrom_11 : decode cX3_copyFrom 11 = .ok (.getfield 7, 3) := by decide +kernel
theorem dX3_copyFrom_14 : decode cX3_copyFrom 14 = .ok (.arraylength, 1) := by decide +kernel
theorem dX3_copyFrom_15 : decode cX3_copyFrom 15 = .ok (.invokestatic 27, 3) := by decide +kernel
theorem dX3_copyFrom_18 : decode cX3_copyFrom 18 = .ok (.aload_n 1, 1) := by decide +kernel
theorem dX3_copyFrom_19 : decode cX3_copyFrom 19 = .ok (.getfield 13, 3) := by decide +kernel
theorem dX3_copyFrom_22 : decode cX3_copyFrom 22 = .ok (.iconst 0, 1) := by decide +kernel
theorem dX3_copyFrom_23 : decode cX3_copyFrom 23 = .ok (.aload_n 0, 1) := by decide +kernel
theorem dX3_copyFrom_24 : decode cX3_copyFrom 24 = .ok (.getfield 13, 3) := by decide +kernel
theorem dX3_copyFrom_27 : decode cX3_copyFrom 27 = .ok (.iconst 0, 1) := by decide +kernel
theorem dX3_copyFrom_28 : decode cX3_copyFrom 28 = .ok (.aload_n 0, 1) := by decide +kernel
theorem dX3_copyFrom_29 : decode cX3_copyFrom 29 = .ok (.getfield 13, 3) := by decide +kernel
theorem dX3_copyFrom_32 : decode cX3_copyFrom 32 = .ok (.arraylength, 1) := by decide +kernel
theorem dX3_copyFrom_33 : decode cX3_copyFrom 33 = .ok (.invokestatic 27, 3) := by decide +kernel
theorem dX3_copyFrom_36 : decode cX3_copyFrom 36 = .ok (.return_, 1) := by decide +kernel
set_option maxRecDepth 20000 in
theorem ggX4_init_X3_init : GoodIn wsX4_init wsX3_init := goodIn_r _ [15, 16, 2, 3, 17, 18, 19, 20, 21] (by decide +kernel) (by decide +kernel)
set_option maxRecDepth 20000 in
theorem gX4_init_X3_init : GoodIn wsX4_init (wsX3_init) := ggX4_init_X3_init
theorem dX4_init_0 : decode cX4_init 0 = .ok (.aload_n 0, 1) := by decide +kernel
theorem dX4_init_1 : decode cX4_init 1 = .ok (.invokespecial 3, 3) := by decide +kernel
theorem dX4_init_4 : decode cX4_init 4 = .ok (.aload_n 0, 1) := by decide +kernel
theorem dX4_init_5 : decode cX4_init 5 = .ok (.new 9, 3) := by decide +kernel
theorem dX4_init_8 : decode cX4_init 8 = .ok (.dup, 1) := by decide +kernel
theorem dX4_init_9 : decode cX4_init 9 = .ok (.bipush 10, 2) := by decide +kernel
theorem dX4_init_11 : decode cX4_init 11 = .ok (.invokespecial 11, 3) := by decide +kernel
theorem dX4_init_14 : decode cX4_init 14 = .ok (.putfield 14, 3) := by decide +kernel
theorem dX4_init_17 : decode cX4_init 17 = .ok (.aload_n 0, 1) := by decide +kernel
theorem dX4_init_18 : decode cX4_init 18 = .ok (.bipush 10, 2) := by decide +kernel
theorem dX4_init_20 : decode cX4_init 20 = .ok (.newarray .int, 2) := by decide +kernel
theorem dX4_init_22 : decode cX4_init 22 = .ok (.putfield 20, 3) := by decide +kernel
theorem dX4_init_25 : decode cX4_init 25 = .ok (.aload_n 0, 1) := by decide +kernel
theorem dX4_init_26 : decode cX4_init 26 = .ok (.iconst 3, 1) := by decide +kernel
theorem dX4_init_27 : decode cX4_init 27 = .ok (.newarray .int, 2) := by decide +kernel
theorem dX4_init_29 : decode cX4_init 29 = .ok (.putfield 24, 3) := by decide +kernel
theorem dX4_init_32 : decode cX4_init 32 = .ok (.aload_n 0, 1) := by decide +kernel
theorem dX4_init_33 : decode cX4_init 33 = .ok (.iconst 0, 1) := by decide +kernel
theorem dX4_init_34 : decode cX4_init 34 = .ok (.putfield 27, 3) := by decide +kernel
theorem dX4_init_37 : decode cX4_init 37 = .ok (.aload_n 0, 1) := by decide +kernel
theorem dX4_init_38 : decode cX4_init 38 = .ok (.aconst_null, 1) := by decide +kernel
theorem dX4_init_39 : decode cX4_init 39 = .ok (.putfield 31, 3) := by decide +kernel
theorem dX4_init_42 : decode cX4_init 42 = .ok (.return_, 1) := by decide +kernel
set_option maxRecDepth 20000 in
theorem ggX4_start_X3_copyFrom : GoodIn wsX4_start wsX3_copyFrom := goodIn_r _ [11, 12, 13, 14, 15, 16, 17, 43, 44] (by decide +kernel) (by decide +kernel)
set_option maxRecDepth 20000 in
theorem gX4_start_X3_copyFrom : GoodIn wsX4_start (wsV RX4 38 RX3 yX3_copyFrom wsX3_copyFrom) := goodIn_app (goodIn_of _ (by decide +kernel)) ggX4_start_X3_copyFrom
set_option maxRecDepth 20000 in
theorem ggX4_start_X5_isHere : GoodIn wsX4_start wsX5_isHere := goodIn_r _ [22, 23, 29, 30, 31, 32, 33, 34, 35, 36, 37, 38, 39, 40, 41, 42] (by decide +kernel) (by decide +kernel)
set_option maxRecDepth 20000 in
theorem gX4_start_X5_isHere : GoodIn wsX4_start (wsV RX4 45 RX5 yX5_isHere wsX5_isHere) := goodIn_app (goodIn_of _ (by decide +kernel)) ggX4_start_X5_isHere
theorem dX4_start_0 : decode cX4_start 0 = .ok (.aload_n 0, 1) := by decide +kernel
theorem dX4_start_1 : decode cX4_start 1 = .ok (.aload_n 2, 1) := by decide +kernel
theorem dX4_start_2 : decode cX4_start 2 = .ok (.putfield 31, 3) := by decide +kernel
theorem dX4_start_5 : decode cX4_start 5 = .ok (.aload_n 0, 1) := by decide +kernel
theorem dX4_start_6 : decode cX4_start 6 = .ok (.getfield 14, 3) := by decide +kernel
theorem dX4_start_9 : decode cX4_start 9 = .ok (.aload_n 1, 1) := by decide +kernel
theorem dX4_start_10 : decode cX4_start 10 = .ok (.getfield 35, 3) := by decide +kernel
theorem dX4_start_13 : decode cX4_start 13 = .ok (.invokevirtual 38, 3) := by decide +kernel
theorem dX4_start_16 : decode cX4_start 16 = .ok (.aload_n 0, 1) := by decide +kernel
theorem dX4_start_17 : decode cX4_start 17 = .ok (.iconst 0, 1) := by decide +kernel
theorem dX4_start_18 : decode cX4_start 18 = .ok (.putfield 27, 3) := by decide +kernel
theorem dX4_start_21 : decode cX4_start 21 = .ok (.iconst 0, 1) := by decide +kernel
theorem dX4_start_22 : decode cX4_start 22 = .ok (.istore_n 3, 1) := by decide +kernel
theorem dX4_start_23 : decode cX4_start 23 = .ok (.iload_n 3, 1) := by decide +kernel
theorem dX4_start_24 : decode cX4_start 24 = .ok (.aload_n 1, 1) := by decide +kernel
theorem dX4_start_25 : decode cX4_start 25 = .ok (.getfield 42, 3) := by decide +kernel
theorem dX4_start_28 : decode cX4_start 28 = .ok (.if_icmp .ge 37, 3) := by decide +kernel
theorem dX4_start_31 : decode cX4_start 31 = .ok (.aload_n 1, 1) := by decide +kernel
theorem dX4_start_32 : decode cX4_start 32 = .ok (.iload_n 3, 1) := by decide +kernel
theorem dX4_start_33 : decode cX4_start 33 = .ok (.invokevirtual 45, 3) := by decide +kernel
theorem dX4_start_36 : decode cX4_start 36 = .ok (.ifCond .eq 23, 3) := by decide +kernel
theorem dX4_start_39 : decode cX4_start 39 = .ok (.aload_n 0, 1) := by decide +kernel
theorem dX4_start_40 : decode cX4_start 40 = .ok (.getfield 20, 3) := by decide +kernel
theorem dX4_start_43 : decode cX4_start 43 = .ok (.aload_n 0, 1) := by decide +kernel
theorem dX4_start_44 : decode cX4_start 44 = .ok (.getfield 27, 3) := by decide +kernel
theorem dX4_start_47 : decode cX4_start 47 = .ok (.iload_n 3, 1) := by decide +kernel
theorem dX4_start_48 : decode cX4_start 48 = .ok (.iastore, 1) := by decide +kernel
theorem dX4_start_49 : decode cX4_start 49 = .ok (.aload_n 0, 1) := by decide +kernel
theorem dX4_start_50 : decode cX4_start 50 = .ok (.dup, 1) := by decide +kernel
theorem dX4_start_51 : decode cX4_start 51 = .ok (.getfield 27, 3) := by decide +kernel
theorem dX4_start_54 : decode cX4_start 54 = .ok (.iconst 1, 1) := by decide +kernel
theorem dX4_start_55 : decode cX4_start 55 = .ok (.iadd, 1) := by decide +kernel
theorem dX4_start_56 : decode cX4_start 56 = .ok (.putfield 27, 3) := by decide +kernel
theorem dX4_start_59 : decode cX4_start 59 = .ok (.iinc 3 1, 3) := by decide +kernel
theorem dX4_start_62 : decode cX4_start 62 = .ok (.goto (-39), 3) := by decide +kernel
theorem dX4_start_65 : decode cX4_start 65 = .ok (.return_, 1) := by decide +kernel
set_option maxRecDepth 20000 in
theorem ggX4_finds_X4_evensOut : GoodIn wsX4_finds wsX4_evensOut := goodIn_r _ [5, 6, 7, 8, 9, 10, 11, 12, 13, 4, 14, 15, 16, 17, 18, 19, 20, 21, 22, 23, 24, 25, 26, 27, 28, 29, 30, 31, 32, 33, 34, 35, 36, 37, 38, 39, 40, 41, 42, 1, 2, 3, 43, 44, 45, 46, 47, 48, 49, 50, 51, 52, 53] (by decide +kernel) (by decide +kernel)
set_option maxRecDepth 20000 in
theorem gX4_finds_X4_evensOut : GoodIn wsX4_finds (wsV RX4 49 RX4 yX4_evensOut wsX4_evensOut) := goodIn_app (goodIn_of _ (by decide +kernel)) ggX4_finds_X4_evensOut
theorem dX4_finds_0 : decode cX4_finds 0 = .ok (.iload_n 1, 1) := by decide +kernel
theorem dX4_finds_1 : decode cX4_finds 1 = .ok (.ifCond .lt 21, 3) := by decide +kernel
theorem dX4_finds_4 : decode cX4_finds 4 = .ok (.iload_n 1, 1) := by decide +kernel
theorem dX4_finds_5 : decode cX4_finds 5 = .ok (.iconst 3, 1) := by decide +kernel
theorem dX4_finds_6 : decode cX4_finds 6 = .ok (.if_icmp .gt 16, 3) := by decide +kernel
theorem dX4_finds_9 : decode cX4_finds 9 = .ok (.aload_n 0, 1) := by decide +kernel
theorem dX4_finds_10 : decode cX4_finds 10 = .ok (.iconst 0, 1) := by decide +kernel
theorem dX4_finds_11 : decode cX4_finds 11 = .ok (.iload_n 1, 1) := by decide +kernel
theorem dX4_finds_12 : decode cX4_finds 12 = .ok (.invokevirtual 49, 3) := by decide +kernel
theorem dX4_finds_15 : decode cX4_finds 15 = .ok (.ifCond .eq 7, 3) := by decide +kernel
theorem dX4_finds_18 : decode cX4_finds 18 = .ok (.iconst 1, 1) := by decide +kernel
theorem dX4_finds_19 : decode cX4_finds 19 = .ok (.goto 4, 3) := by decide +kernel
theorem dX4_finds_22 : decode cX4_finds 22 = .ok (.iconst 0, 1) := by decide +kernel
theorem dX4_finds_23 : decode cX4_finds 23 = .ok (.ireturn, 1) := by decide +kernel
set_option maxRecDepth 20000 in
theorem ggX4_evensOut_X4_isNear : GoodIn wsX4_evensOut wsX4_isNear := goodIn_r _ [10, 11, 12, 13, 14, 15, 9, 16, 17, 18, 19, 20, 21, 22, 23, 43, 44, 45, 46, 47, 51, 52] (by decide +kernel) (by decide +kernel)
set_option maxRecDepth 20000 in
theorem gX4_evensOut_X4_isNear : GoodIn wsX4_evensOut (wsV RX4 53 RX4 yX4_isNear wsX4_isNear) := goodIn_app (goodIn_of _ (by decide +kernel)) ggX4_evensOut_X4_isNear
set_option maxRecDepth 20000 in
theorem ggX4_evensOut_X4_evensOutOver : GoodIn wsX4_evensOut wsX4_evensOutOver := goodIn_r _ [27, 21, 22, 23, 28, 29, 30, 31, 32, 33, 34, 35, 36, 37, 38, 39, 40, 41, 9, 42, 0, 1, 2, 3, 4, 5, 6, 7, 8, 10, 11, 12, 13, 14, 15, 16, 17, 18, 19, 20, 24, 25, 26, 43, 44, 45, 46, 47, 48, 49, 50, 51, 52] (by decide +kernel) (by decide +kernel)
set_option maxRecDepth 20000 in
theorem gX4_evensOut_X4_evensOutOver : GoodIn wsX4_evensOut (wsV RX4 67 RX4 yX4_evensOutOver wsX4_evensOutOver) := goodIn_app (goodIn_of _ (by decide +kernel)) ggX4_evensOut_X4_evensOutOver
theorem dX4_evensOut_0 : decode cX4_evensOut 0 = .ok (.iload_n 1, 1) := by decide +kernel
theorem dX4_evensOut_1 : decode cX4_evensOut 1 = .ok (.iload_n 2, 1) := by decide +kernel
theorem dX4_evensOut_2 : decode cX4_evensOut 2 = .ok (.if_icmp .ge 8, 3) := by decide +kernel
theorem dX4_evensOut_5 : decode cX4_evensOut 5 = .ok (.iload_n 1, 1) := by decide +kernel
theorem dX4_evensOut_6 : decode cX4_evensOut 6 = .ok (.iconst 3, 1) := by decide +kernel
theorem dX4_evensOut_7 : decode cX4_evensOut 7 = .ok (.if_icmp .lt 9, 3) := by decide +kernel
theorem dX4_evensOut_10 : decode cX4_evensOut 10 = .ok (.aload_n 0, 1) := by decide +kernel
theorem dX4_evensOut_11 : decode cX4_evensOut 11 = .ok (.iconst 0, 1) := by decide +kernel
theorem dX4_evensOut_12 : decode cX4_evensOut 12 = .ok (.invokevirtual 53, 3) := by decide +kernel
theorem dX4_evensOut_15 : decode cX4_evensOut 15 = .ok (.ireturn, 1) := by decide +kernel
theorem dX4_evensOut_16 : decode cX4_evensOut 16 = .ok (.aload_n 0, 1) := by decide +kernel
theorem dX4_evensOut_17 : decode cX4_evensOut 17 = .ok (.getfield 31, 3) := by decide +kernel
theorem dX4_evensOut_20 : decode cX4_evensOut 20 = .ok (.ifnull 13, 3) := by decide +kernel
theorem dX4_evensOut_23 : decode cX4_evensOut 23 = .ok (.aload_n 0, 1) := by decide +kernel
theorem dX4_evensOut_24 : decode cX4_evensOut 24 = .ok (.iload_n 2, 1) := by decide +kernel
theorem dX4_evensOut_25 : decode cX4_evensOut 25 = .ok (.iload_n 1, 1) := by decide +kernel
theorem dX4_evensOut_26 : decode cX4_evensOut 26 = .ok (.isub, 1) := by decide +kernel
theorem dX4_evensOut_27 : decode cX4_evensOut 27 = .ok (.invokevirtual 53, 3) := by decide +kernel
theorem dX4_evensOut_30 : decode cX4_evensOut 30 = .ok (.ifCond .ne 5, 3) := by decide +kernel
theorem dX4_evensOut_33 : decode cX4_evensOut 33 = .ok (.iconst 0, 1) := by decide +kernel
theorem dX4_evensOut_34 : decode cX4_evensOut 34 = .ok (.ireturn, 1) := by decide +kernel
theorem dX4_evensOut_35 : decode cX4_evensOut 35 = .ok (.iconst 0, 1) := by decide +kernel
theorem dX4_evensOut_36 : decode cX4_evensOut 36 = .ok (.istore_n 3, 1) := by decide +kernel
theorem dX4_evensOut_37 : decode cX4_evensOut 37 = .ok (.iload_n 3, 1) := by decide +kernel
theorem dX4_evensOut_38 : decode cX4_evensOut 38 = .ok (.aload_n 0, 1) := by decide +kernel
theorem dX4_evensOut_39 : decode cX4_evensOut 39 = .ok (.getfield 31, 3) := by decide +kernel
theorem dX4_evensOut_42 : decode cX4_evensOut 42 = .ok (.getfield 56, 3) := by decide +kernel
theorem dX4_evensOut_45 : decode cX4_evensOut 45 = .ok (.if_icmp .ge 45, 3) := by decide +kernel
theorem dX4_evensOut_48 : decode cX4_evensOut 48 = .ok (.aload_n 0, 1) := by decide +kernel
theorem dX4_evensOut_49 : decode cX4_evensOut 49 = .ok (.getfield 24, 3) := by decide +kernel
theorem dX4_evensOut_52 : decode cX4_evensOut 52 = .ok (.iload_n 1, 1) := by decide +kernel
theorem dX4_evensOut_53 : decode cX4_evensOut 53 = .ok (.iload_n 3, 1) := by decide +kernel
theorem dX4_evensOut_54 : decode cX4_evensOut 54 = .ok (.iastore, 1) := by decide +kernel
theorem dX4_evensOut_55 : decode cX4_evensOut 55 = .ok (.aload_n 0, 1) := by decide +kernel
theorem dX4_evensOut_56 : decode cX4_evensOut 56 = .ok (.aload_n 0, 1) := by decide +kernel
theorem dX4_evensOut_57 : decode cX4_evensOut 57 = .ok (.getfield 31, 3) := by decide +kernel
theorem dX4_evensOut_60 : decode cX4_evensOut 60 = .ok (.getfield 61, 3) := by decide +kernel
theorem dX4_evensOut_63 : decode cX4_evensOut 63 = .ok (.iload_n 3, 1) := by decide +kernel
theorem dX4_evensOut_64 : decode cX4_evensOut 64 = .ok (.iaload, 1) := by decide +kernel
theorem dX4_evensOut_65 : decode cX4_evensOut 65 = .ok (.aload_n 0, 1) := by decide +kernel
theorem dX4_evensOut_66 : decode cX4_evensOut 66 = .ok (.getfield 31, 3) := by decide +kernel
theorem dX4_evensOut_69 : decode cX4_evensOut 69 = .ok (.getfield 64, 3) := by decide +kernel
theorem dX4_evensOut_72 : decode cX4_evensOut 72 = .ok (.iload_n 3, 1) := by decide +kernel
theorem dX4_evensOut_73 : decode cX4_evensOut 73 = .ok (.iaload, 1) := by decide +kernel
theorem dX4_evensOut_74 : decode cX4_evensOut 74 = .ok (.iload_n 1, 1) := by decide +kernel
theorem dX4_evensOut_75 : decode cX4_evensOut 75 = .ok (.iload_n 2, 1) := by decide +kernel
theorem dX4_evensOut_76 : decode cX4_evensOut 76 = .ok (.invokevirtual 67, 3) := by decide +kernel
theorem dX4_evensOut_79 : decode cX4_evensOut 79 = .ok (.ifCond .eq 5, 3) := by decide +kernel
theorem dX4_evensOut_82 : decode cX4_evensOut 82 = .ok (.iconst 1, 1) := by decide +kernel
theorem dX4_evensOut_83 : decode cX4_evensOut 83 = .ok (.ireturn, 1) := by decide +kernel
theorem dX4_evensOut_84 : decode cX4_evensOut 84 = .ok (.iinc 3 1, 3) := by decide +kernel
theorem dX4_evensOut_87 : decode cX4_evensOut 87 = .ok (.goto (-50), 3) := by decide +kernel
theorem dX4_evensOut_90 : decode cX4_evensOut 90 = .ok (.iconst 0, 1) := by decide +kernel
theorem dX4_evensOut_91 : decode cX4_evensOut 91 = .ok (.ireturn, 1) := by decide +kernel
set_option maxRecDepth 20000 in
theorem ggX4_evensOutOver_X3_even : GoodIn wsX4_evensOutOver wsX3_even := goodIn_r _ [8, 9, 10, 11, 12, 13, 7, 14, 51, 52] (by decide +kernel) (by decide +kernel)
set_option maxRecDepth 20000 in
theorem gX4_evensOutOver_X3_even : GoodIn wsX4_evensOutOver (wsV RX4 78 RX3 yX3_even wsX3_even) := goodIn_app (goodIn_of _ (by decide +kernel)) ggX4_evensOutOver_X3_even
set_option maxRecDepth 20000 in
theorem ggX4_evensOutOver_X4_evensOut : GoodIn wsX4_evensOutOver wsX4_evensOut := goodIn_r _ [20, 21, 22, 23, 24, 25, 26, 27, 28, 18, 29, 30, 31, 32, 33, 34, 35, 36, 37, 38, 39, 1, 2, 3, 40, 41, 42, 0, 4, 5, 6, 7, 8, 9, 10, 11, 12, 13, 14, 15, 16, 17, 19, 43, 44, 45, 46, 47, 48, 49, 50, 51, 52] (by decide +kernel) (by decide +kernel)
set_option maxRecDepth 20000 in
theorem gX4_evensOutOver_X4_evensOut : GoodIn wsX4_evensOutOver (wsV RX4 49 RX4 yX4_evensOut wsX4_evensOut) := goodIn_app (goodIn_of _ (by decide +kernel)) ggX4_evensOutOver_X4_evensOut
set_option maxRecDepth 20000 in
theorem ggX4_evensOutOver_X3_put : GoodIn wsX4_evensOutOver wsX3_put := goodIn_r _ [14, 9, 10, 51, 52] (by decide +kernel) (by decide +kernel)
set_option maxRecDepth 20000 in
theorem gX4_evensOutOver_X3_put : GoodIn wsX4_evensOutOver (wsV RX4 82 RX3 yX3_put wsX3_put) := goodIn_app (goodIn_of _ (by decide +kernel)) ggX4_evensOutOver_X3_put
theorem dX4_evensOutOver_0 : decode cX4_evensOutOver 0 = .ok (.aload_n 0, 1) := by decide +kernel
theorem dX4_evensOutOver_1 : decode cX4_evensOutOver 1 = .ok (.getfield 14, 3) := by decide +kernel
theorem dX4_evensOutOver_4 : decode cX4_evensOutOver 4 = .ok (.getfield 71, 3) := by decide +kernel
theorem dX4_evensOutOver_7 : decode cX4_evensOutOver 7 = .ok (.iload_n 1, 1) := by decide +kernel
theorem dX4_evensOutOver_8 : decode cX4_evensOutOver 8 = .ok (.laload, 1) := by decide +kernel
theorem dX4_evensOutOver_9 : decode cX4_evensOutOver 9 = .ok (.lstore 5, 2) := by decide +kernel
theorem dX4_evensOutOver_11 : decode cX4_evensOutOver 11 = .ok (.aload_n 0, 1) := by decide +kernel
theorem dX4_evensOutOver_12 : decode cX4_evensOutOver 12 = .ok (.getfield 14, 3) := by decide +kernel
theorem dX4_evensOutOver_15 : decode cX4_evensOutOver 15 = .ok (.getfield 75, 3) := by decide +kernel
theorem dX4_evensOutOver_18 : decode cX4_evensOutOver 18 = .ok (.iload_n 1, 1) := by decide +kernel
theorem dX4_evensOutOver_19 : decode cX4_evensOutOver 19 = .ok (.laload, 1) := by decide +kernel
theorem dX4_evensOutOver_20 : decode cX4_evensOutOver 20 = .ok (.lstore 7, 2) := by decide +kernel
theorem dX4_evensOutOver_22 : decode cX4_evensOutOver 22 = .ok (.aload_n 0, 1) := by decide +kernel
theorem dX4_evensOutOver_23 : decode cX4_evensOutOver 23 = .ok (.getfield 14, 3) := by decide +kernel
theorem dX4_evensOutOver_26 : decode cX4_evensOutOver 26 = .ok (.getfield 71, 3) := by decide +kernel
theorem dX4_evensOutOver_29 : decode cX4_evensOutOver 29 = .ok (.iload_n 2, 1) := by decide +kernel
theorem dX4_evensOutOver_30 : decode cX4_evensOutOver 30 = .ok (.laload, 1) := by decide +kernel
theorem dX4_evensOutOver_31 : decode cX4_evensOutOver 31 = .ok (.lstore 9, 2) := by decide +kernel
theorem dX4_evensOutOver_33 : decode cX4_evensOutOver 33 = .ok (.aload_n 0, 1) := by decide +kernel
theorem dX4_evensOutOver_34 : decode cX4_evensOutOver 34 = .ok (.getfield 14, 3) := by decide +kernel
theorem dX4_evensOutOver_37 : decode cX4_evensOutOver 37 = .ok (.getfield 75, 3) := by decide +kernel
theorem dX4_evensOutOver_40 : decode cX4_evensOutOver 40 = .ok (.iload_n 2, 1) := by decide +kernel
theorem dX4_evensOutOver_41 : decode cX4_evensOutOver 41 = .ok (.laload, 1) := by decide +kernel
theorem dX4_evensOutOver_42 : decode cX4_evensOutOver 42 = .ok (.lstore 11, 2) := by decide +kernel
theorem dX4_evensOutOver_44 : decode cX4_evensOutOver 44 = .ok (.aload_n 0, 1) := by decide +kernel
theorem dX4_evensOutOver_45 : decode cX4_evensOutOver 45 = .ok (.getfield 14, 3) := by decide +kernel
theorem dX4_evensOutOver_48 : decode cX4_evensOutOver 48 = .ok (.iload_n 1, 1) := by decide +kernel
theorem dX4_evensOutOver_49 : decode cX4_evensOutOver 49 = .ok (.iload_n 2, 1) := by decide +kernel
theorem dX4_evensOutOver_50 : decode cX4_evensOutOver 50 = .ok (.invokevirtual 78, 3) := by decide +kernel
theorem dX4_evensOutOver_53 : decode cX4_evensOutOver 53 = .ok (.aload_n 0, 1) := by decide +kernel
theorem dX4_evensOutOver_54 : decode cX4_evensOutOver 54 = .ok (.getfield 14, 3) := by decide +kernel
theorem dX4_evensOutOver_57 : decode cX4_evensOutOver 57 = .ok (.getfield 71, 3) := by decide +kernel
theorem dX4_evensOutOver_60 : decode cX4_evensOutOver 60 = .ok (.iload_n 1, 1) := by decide +kernel
theorem dX4_evensOutOver_61 : decode cX4_evensOutOver 61 = .ok (.laload, 1) := by decide +kernel
theorem dX4_evensOutOver_62 : decode cX4_evensOutOver 62 = .ok (.lload 5, 2) := by decide +kernel
theorem dX4_evensOutOver_64 : decode cX4_evensOutOver 64 = .ok (.lcmp, 1) := by decide +kernel
theorem dX4_evensOutOver_65 : decode cX4_evensOutOver 65 = .ok (.ifCond .ne 18, 3) := by decide +kernel
theorem dX4_evensOutOver_68 : decode cX4_evensOutOver 68 = .ok (.aload_n 0, 1) := by decide +kernel
theorem dX4_evensOutOver_69 : decode cX4_evensOutOver 69 = .ok (.getfield 14, 3) := by decide +kernel
theorem dX4_evensOutOver_72 : decode cX4_evensOutOver 72 = .ok (.getfield 75, 3) := by decide +kernel
theorem dX4_evensOutOver_75 : decode cX4_evensOutOver 75 = .ok (.iload_n 1, 1) := by decide +kernel
theorem dX4_evensOutOver_76 : decode cX4_evensOutOver 76 = .ok (.laload, 1) := by decide +kernel
theorem dX4_evensOutOver_77 : decode cX4_evensOutOver 77 = .ok (.lload 7, 2) := by decide +kernel
theorem dX4_evensOutOver_79 : decode cX4_evensOutOver 79 = .ok (.lcmp, 1) := by decide +kernel
theorem dX4_evensOutOver_80 : decode cX4_evensOutOver 80 = .ok (.ifCond .eq 7, 3) := by decide +kernel
theorem dX4_evensOutOver_83 : decode cX4_evensOutOver 83 = .ok (.iconst 1, 1) := by decide +kernel
theorem dX4_evensOutOver_84 : decode cX4_evensOutOver 84 = .ok (.goto 4, 3) := by decide +kernel
theorem dX4_evensOutOver_87 : decode cX4_evensOutOver 87 = .ok (.iconst 0, 1) := by decide +kernel
theorem dX4_evensOutOver_88 : decode cX4_evensOutOver 88 = .ok (.istore 13, 2) := by decide +kernel
theorem dX4_evensOutOver_90 : decode cX4_evensOutOver 90 = .ok (.iload 13, 2) := by decide +kernel
theorem dX4_evensOutOver_92 : decode cX4_evensOutOver 92 = .ok (.ifCond .eq 19, 3) := by decide +kernel
theorem dX4_evensOutOver_95 : decode cX4_evensOutOver 95 = .ok (.aload_n 0, 1) := by decide +kernel
theorem dX4_evensOutOver_96 : decode cX4_evensOutOver 96 = .ok (.iload_n 3, 1) := by decide +kernel
theorem dX4_evensOutOver_97 : decode cX4_evensOutOver 97 = .ok (.iconst 1, 1) := by decide +kernel
theorem dX4_evensOutOver_98 : decode cX4_evensOutOver 98 = .ok (.iadd, 1) := by decide +kernel
theorem dX4_evensOutOver_99 : decode cX4_evensOutOver 99 = .ok (.iload 4, 2) := by decide +kernel
theorem dX4_evensOutOver_101 : decode cX4_evensOutOver 101 = .ok (.invokevirtual 49, 3) := by decide +kernel
theorem dX4_evensOutOver_104 : decode cX4_evensOutOver 104 = .ok (.ifCond .eq 7, 3) := by decide +kernel
theorem dX4_evensOutOver_107 : decode cX4_evensOutOver 107 = .ok (.iconst 1, 1) := by decide +kernel
theorem dX4_evensOutOver_108 : decode cX4_evensOutOver 108 = .ok (.goto 4, 3) := by decide +kernel
theorem dX4_evensOutOver_111 : decode cX4_evensOutOver 111 = .ok (.iconst 0, 1) := by decide +kernel
theorem dX4_evensOutOver_112 : decode cX4_evensOutOver 112 = .ok (.istore 14, 2) := by decide +kernel
theorem dX4_evensOutOver_114 : decode cX4_evensOutOver 114 = .ok (.aload_n 0, 1) := by decide +kernel
theorem dX4_evensOutOver_115 : decode cX4_evensOutOver 115 = .ok (.getfield 14, 3) := by decide +kernel
theorem dX4_evensOutOver_118 : decode cX4_evensOutOver 118 = .ok (.iload_n 1, 1) := by decide +kernel
theorem dX4_evensOutOver_119 : decode cX4_evensOutOver 119 = .ok (.lload 5, 2) := by decide +kernel
theorem dX4_evensOutOver_121 : decode cX4_evensOutOver 121 = .ok (.lload 7, 2) := by decide +kernel
theorem dX4_evensOutOver_123 : decode cX4_evensOutOver 123 = .ok (.invokevirtual 82, 3) := by decide +kernel
theorem dX4_evensOutOver_126 : decode cX4_evensOutOver 126 = .ok (.aload_n 0, 1) := by decide +kernel
theorem dX4_evensOutOver_127 : decode cX4_evensOutOver 127 = .ok (.getfield 14, 3) := by decide +kernel
theorem dX4_evensOutOver_130 : decode cX4_evensOutOver 130 = .ok (.iload_n 2, 1) := by decide +kernel
theorem dX4_evensOutOver_131 : decode cX4_evensOutOver 131 = .ok (.lload 9, 2) := by decide +kernel
theorem dX4_evensOutOver_133 : decode cX4_evensOutOver 133 = .ok (.lload 11, 2) := by decide +kernel
theorem dX4_evensOutOver_135 : decode cX4_evensOutOver 135 = .ok (.invokevirtual 82, 3) := by decide +kernel
theorem dX4_evensOutOver_138 : decode cX4_evensOutOver 138 = .ok (.iload 14, 2) := by decide +kernel
theorem dX4_evensOutOver_140 : decode cX4_evensOutOver 140 = .ok (.ireturn, 1) := by decide +kernel
set_option maxRecDepth 20000 in
theorem ggX4_isNear_X4_hasUnlikeAtMost : GoodIn wsX4_isNear wsX4_hasUnlikeAtMost := goodIn_r _ [7, 1, 2, 8, 9, 10, 6, 11, 12, 13, 14, 15, 16, 17, 18, 19, 20, 21] (by decide +kernel) (by decide +kernel)
set_option maxRecDepth 20000 in
theorem gX4_isNear_X4_hasUnlikeAtMost : GoodIn wsX4_isNear (wsV RX4 86 RX4 yX4_hasUnlikeAtMost wsX4_hasUnlikeAtMost) := goodIn_app (goodIn_of _ (by decide +kernel)) ggX4_isNear_X4_hasUnlikeAtMost
theorem dX4_isNear_0 : decode cX4_isNear 0 = .ok (.iconst 2, 1) := by decide +kernel
theorem dX4_isNear_1 : decode cX4_isNear 1 = .ok (.iload_n 1, 1) := by decide +kernel
theorem dX4_isNear_2 : decode cX4_isNear 2 = .ok (.imul, 1) := by decide +kernel
theorem dX4_isNear_3 : decode cX4_isNear 3 = .ok (.istore_n 2, 1) := by decide +kernel
theorem dX4_isNear_4 : decode cX4_isNear 4 = .ok (.aload_n 0, 1) := by decide +kernel
theorem dX4_isNear_5 : decode cX4_isNear 5 = .ok (.getfield 27, 3) := by decide +kernel
theorem dX4_isNear_8 : decode cX4_isNear 8 = .ok (.iload_n 2, 1) := by decide +kernel
theorem dX4_isNear_9 : decode cX4_isNear 9 = .ok (.if_icmp .gt 5, 3) := by decide +kernel
theorem dX4_isNear_12 : decode cX4_isNear 12 = .ok (.iconst 1, 1) := by decide +kernel
theorem dX4_isNear_13 : decode cX4_isNear 13 = .ok (.ireturn, 1) := by decide +kernel
theorem dX4_isNear_14 : decode cX4_isNear 14 = .ok (.iconst 0, 1) := by decide +kernel
theorem dX4_isNear_15 : decode cX4_isNear 15 = .ok (.istore_n 3, 1) := by decide +kernel
theorem dX4_isNear_16 : decode cX4_isNear 16 = .ok (.iload_n 3, 1) := by decide +kernel
theorem dX4_isNear_17 : decode cX4_isNear 17 = .ok (.iload_n 2, 1) := by decide +kernel
theorem dX4_isNear_18 : decode cX4_isNear 18 = .ok (.if_icmp .gt 33, 3) := by decide +kernel
theorem dX4_isNear_21 : decode cX4_isNear 21 = .ok (.iload_n 3, 1) := by decide +kernel
theorem dX4_isNear_22 : decode cX4_isNear 22 = .ok (.aload_n 0, 1) := by decide +kernel
theorem dX4_isNear_23 : decode cX4_isNear 23 = .ok (.getfield 27, 3) := by decide +kernel
theorem dX4_isNear_26 : decode cX4_isNear 26 = .ok (.if_icmp .ge 25, 3) := by decide +kernel
theorem dX4_isNear_29 : decode cX4_isNear 29 = .ok (.aload_n 0, 1) := by decide +kernel
theorem dX4_isNear_30 : decode cX4_isNear 30 = .ok (.aload_n 0, 1) := by decide +kernel
theorem dX4_isNear_31 : decode cX4_isNear 31 = .ok (.getfield 20, 3) := by decide +kernel
theorem dX4_isNear_34 : decode cX4_isNear 34 = .ok (.iload_n 3, 1) := by decide +kernel
theorem dX4_isNear_35 : decode cX4_isNear 35 = .ok (.iaload, 1) := by decide +kernel
theorem dX4_isNear_36 : decode cX4_isNear 36 = .ok (.iload_n 2, 1) := by decide +kernel
theorem dX4_isNear_37 : decode cX4_isNear 37 = .ok (.invokevirtual 86, 3) := by decide +kernel
theorem dX4_isNear_40 : decode cX4_isNear 40 = .ok (.ifCond .eq 5, 3) := by decide +kernel
theorem dX4_isNear_43 : decode cX4_isNear 43 = .ok (.iconst 1, 1) := by decide +kernel
theorem dX4_isNear_44 : decode cX4_isNear 44 = .ok (.ireturn, 1) := by decide +kernel
theorem dX4_isNear_45 : decode cX4_isNear 45 = .ok (.iinc 3 1, 3) := by decide +kernel
theorem dX4_isNear_48 : decode cX4_isNear 48 = .ok (.goto (-32), 3) := by decide +kernel
theorem dX4_isNear_51 : decode cX4_isNear 51 = .ok (.iconst 0, 1) := by decide +kernel
theorem dX4_isNear_52 : decode cX4_isNear 52 = .ok (.ireturn, 1) := by decide +kernel
set_option maxRecDepth 20000 in
theorem ggX4_hasUnlikeAtMost_X4_isLike : GoodIn wsX4_hasUnlikeAtMost wsX4_isLike := goodIn_r _ [7, 8, 9, 10, 11, 12, 13, 14, 15, 16, 17] (by decide +kernel) (by decide +kernel)
set_option maxRecDepth 20000 in
theorem gX4_hasUnlikeAtMost_X4_isLike : GoodIn wsX4_hasUnlikeAtMost (wsV RX4 89 RX4 yX4_isLike wsX4_isLike) := goodIn_app (goodIn_of _ (by decide +kernel)) ggX4_hasUnlikeAtMost_X4_isLike
theorem dX4_hasUnlikeAtMost_0 : decode cX4_hasUnlikeAtMost 0 = .ok (.iconst 0, 1) := by decide +kernel
theorem dX4_hasUnlikeAtMost_1 : decode cX4_hasUnlikeAtMost 1 = .ok (.istore_n 3, 1) := by decide +kernel
theorem dX4_hasUnlikeAtMost_2 : decode cX4_hasUnlikeAtMost 2 = .ok (.iconst 0, 1) := by decide +kernel
theorem dX4_hasUnlikeAtMost_3 : decode cX4_hasUnlikeAtMost 3 = .ok (.istore 4, 2) := by decide +kernel
theorem dX4_hasUnlikeAtMost_5 : decode cX4_hasUnlikeAtMost 5 = .ok (.iload 4, 2) := by decide +kernel
theorem dX4_hasUnlikeAtMost_7 : decode cX4_hasUnlikeAtMost 7 = .ok (.aload_n 0, 1) := by decide +kernel
theorem dX4_hasUnlikeAtMost_8 : decode cX4_hasUnlikeAtMost 8 = .ok (.getfield 27, 3) := by decide +kernel
theorem dX4_hasUnlikeAtMost_11 : decode cX4_hasUnlikeAtMost 11 = .ok (.if_icmp .ge 37, 3) := by decide +kernel
theorem dX4_hasUnlikeAtMost_14 : decode cX4_hasUnlikeAtMost 14 = .ok (.iload_n 3, 1) := by decide +kernel
theorem dX4_hasUnlikeAtMost_15 : decode cX4_hasUnlikeAtMost 15 = .ok (.iload_n 2, 1) := by decide +kernel
theorem dX4_hasUnlikeAtMost_16 : decode cX4_hasUnlikeAtMost 16 = .ok (.if_icmp .gt 32, 3) := by decide +kernel
theorem dX4_hasUnlikeAtMost_19 : decode cX4_hasUnlikeAtMost 19 = .ok (.iload_n 3, 1) := by decide +kernel
theorem dX4_hasUnlikeAtMost_20 : decode cX4_hasUnlikeAtMost 20 = .ok (.aload_n 0, 1) := by decide +kernel
theorem dX4_hasUnlikeAtMost_21 : decode cX4_hasUnlikeAtMost 21 = .ok (.iload_n 1, 1) := by decide +kernel
theorem dX4_hasUnlikeAtMost_22 : decode cX4_hasUnlikeAtMost 22 = .ok (.aload_n 0, 1) := by decide +kernel
theorem dX4_hasUnlikeAtMost_23 : decode cX4_hasUnlikeAtMost 23 = .ok (.getfield 20, 3) := by decide +kernel
theorem dX4_hasUnlikeAtMost_26 : decode cX4_hasUnlikeAtMost 26 = .ok (.iload 4, 2) := by decide +kernel
theorem dX4_hasUnlikeAtMost_28 : decode cX4_hasUnlikeAtMost 28 = .ok (.iaload, 1) := by decide +kernel
theorem dX4_hasUnlikeAtMost_29 : decode cX4_hasUnlikeAtMost 29 = .ok (.invokevirtual 89, 3) := by decide +kernel
theorem dX4_hasUnlikeAtMost_32 : decode cX4_hasUnlikeAtMost 32 = .ok (.ifCond .eq 7, 3) := by decide +kernel
theorem dX4_hasUnlikeAtMost_35 : decode cX4_hasUnlikeAtMost 35 = .ok (.iconst 0, 1) := by decide +kernel
theorem dX4_hasUnlikeAtMost_36 : decode cX4_hasUnlikeAtMost 36 = .ok (.goto 4, 3) := by decide +kernel
theorem dX4_hasUnlikeAtMost_39 : decode cX4_hasUnlikeAtMost 39 = .ok (.iconst 1, 1) := by decide +kernel
theorem dX4_hasUnlikeAtMost_40 : decode cX4_hasUnlikeAtMost 40 = .ok (.iadd, 1) := by decide +kernel
theorem dX4_hasUnlikeAtMost_41 : decode cX4_hasUnlikeAtMost 41 = .ok (.istore_n 3, 1) := by decide +kernel
theorem dX4_hasUnlikeAtMost_42 : decode cX4_hasUnlikeAtMost 42 = .ok (.iinc 4 1, 3) := by decide +kernel
theorem dX4_hasUnlikeAtMost_45 : decode cX4_hasUnlikeAtMost 45 = .ok (.goto (-40), 3) := by decide +kernel
theorem dX4_hasUnlikeAtMost_48 : decode cX4_hasUnlikeAtMost 48 = .ok (.iload_n 3, 1) := by decide +kernel
theorem dX4_hasUnlikeAtMost_49 : decode cX4_hasUnlikeAtMost 49 = .ok (.iload_n 2, 1) := by decide +kernel
theorem dX4_hasUnlikeAtMost_50 : decode cX4_hasUnlikeAtMost 50 = .ok (.if_icmp .gt 7, 3) := by decide +kernel
theorem dX4_hasUnlikeAtMost_53 : decode cX4_hasUnlikeAtMost 53 = .ok (.iconst 1, 1) := by decide +kernel
theorem dX4_hasUnlikeAtMost_54 : decode cX4_hasUnlikeAtMost 54 = .ok (.goto 4, 3) := by decide +kernel
theorem dX4_hasUnlikeAtMost_57 : decode cX4_hasUnlikeAtMost 57 = .ok (.iconst 0, 1) := by decide +kernel
theorem dX4_hasUnlikeAtMost_58 : decode cX4_hasUnlikeAtMost 58 = .ok (.ireturn, 1) := by decide +kernel
theorem dX4_isLike_0 : decode cX4_isLike 0 = .ok (.aload_n 0, 1) := by decide +kernel
theorem dX4_isLike_1 : decode cX4_isLike 1 = .ok (.getfield 14, 3) := by decide +kernel
theorem dX4_isLike_4 : decode cX4_isLike 4 = .ok (.getfield 71, 3) := by decide +kernel
theorem dX4_isLike_7 : decode cX4_isLike 7 = .ok (.iload_n 1, 1) := by decide +kernel
theorem dX4_isLike_8 : decode cX4_isLike 8 = .ok (.laload, 1) := by decide +kernel
theorem dX4_isLike_9 : decode cX4_isLike 9 = .ok (.aload_n 0, 1) := by decide +kernel
theorem dX4_isLike_10 : decode cX4_isLike 10 = .ok (.getfield 14, 3) := by decide +kernel
theorem dX4_isLike_13 : decode cX4_isLike 13 = .ok (.getfield 71, 3) := by decide +kernel
theorem dX4_isLike_16 : decode cX4_isLike 16 = .ok (.iload_n 2, 1) := by decide +kernel
theorem dX4_isLike_17 : decode cX4_isLike 17 = .ok (.laload, 1) := by decide +kernel
theorem dX4_isLike_18 : decode cX4_isLike 18 = .ok (.lcmp, 1) := by decide +kernel
theorem dX4_isLike_19 : decode cX4_isLike 19 = .ok (.ifCond .ne 29, 3) := by decide +kernel
theorem dX4_isLike_22 : decode cX4_isLike 22 = .ok (.aload_n 0, 1) := by decide +kernel
theorem dX4_isLike_23 : decode cX4_isLike 23 = .ok (.getfield 14, 3) := by decide +kernel
theorem dX4_isLike_26 : decode cX4_isLike 26 = .ok (.getfield 75, 3) := by decide +kernel
theorem dX4_isLike_29 : decode cX4_isLike 29 = .ok (.iload_n 1, 1) := by decide +kernel
theorem dX4_isLike_30 : decode cX4_isLike 30 = .ok (.laload, 1) := by decide +kernel
theorem dX4_isLike_31 : decode cX4_isLike 31 = .ok (.aload_n 0, 1) := by decide +kernel
theorem dX4_isLike_32 : decode cX4_isLike 32 = .ok (.getfield 14, 3) := by decide +kernel
theorem dX4_isLike_35 : decode cX4_isLike 35 = .ok (.getfield 75, 3) := by decide +kernel
theorem dX4_isLike_38 : decode cX4_isLike 38 = .ok (.iload_n 2, 1) := by decide +kernel
theorem dX4_isLike_39 : decode cX4_isLike 39 = .ok (.laload, 1) := by decide +kernel
theorem dX4_isLike_40 : decode cX4_isLike 40 = .ok (.lcmp, 1) := by decide +kernel
theorem dX4_isLike_41 : decode cX4_isLike 41 = .ok (.ifCond .ne 7, 3) := by decide +kernel
theorem dX4_isLike_44 : decode cX4_isLike 44 = .ok (.iconst 1, 1) := by decide +kernel
theorem dX4_isLike_45 : decode cX4_isLike 45 = .ok (.goto 4, 3) := by decide +kernel
theorem dX4_isLike_48 : decode cX4_isLike 48 = .ok (.iconst 0, 1) := by decide +kernel
theorem dX4_isLike_49 : decode cX4_isLike 49 = .ok (.ireturn, 1) := by decide +kernel
set_option maxRecDepth 20000 in
theorem ggX5_init_X6_init : GoodIn wsX5_init wsX6_init := goodIn_r _ [29, 30, 2, 3, 8, 31, 32, 33, 64, 65, 66] (by decide +kernel) (by decide +kernel)
set_option maxRecDepth 20000 in
theorem gX5_init_X6_init_n42 : GoodIn wsX5_init (wsX6_init) := ggX5_init_X6_init
set_option maxRecDepth 20000 in
theorem ggX5_init_X3_init : GoodIn wsX5_init wsX3_init := goodIn_r _ [36, 37, 2, 3, 38, 39, 40, 67, 68] (by decide +kernel) (by decide +kernel)
set_option maxRecDepth 20000 in
theorem gX5_init_X3_init : GoodIn wsX5_init (wsX3_init) := ggX5_init_X3_init
set_option maxRecDepth 20000 in
theorem ggX5_init_X1_init : GoodIn wsX5_init wsX1_init := goodIn_r _ [43, 44, 2, 3, 8, 45, 46, 47, 19, 20, 48, 49, 35, 36, 37, 38, 39, 40, 69, 70, 71, 67, 68] (by decide +kernel) (by decide +kernel)
set_option maxRecDepth 20000 in
theorem gX5_init_X1_init : GoodIn wsX5_init (wsX1_init) := ggX5_init_X1_init
theorem dX5_init_0 : decode cX5_init 0 = .ok (.aload_n 0, 1) := by decide +kernel
theorem dX5_init_1 : decode cX5_init 1 = .ok (.invokespecial 3, 3) := by decide +kernel
theorem dX5_init_4 : decode cX5_init 4 = .ok (.aload_n 0, 1) := by decide +kernel
theorem dX5_init_5 : decode cX5_init 5 = .ok (.iconst 0, 1) := by decide +kernel
theorem dX5_init_6 : decode cX5_init 6 = .ok (.putfield 9, 3) := by decide +kernel
theorem dX5_init_9 : decode cX5_init 9 = .ok (.aload_n 0, 1) := by decide +kernel
theorem dX5_init_10 : decode cX5_init 10 = .ok (.iconst 0, 1) := by decide +kernel
theorem dX5_init_11 : decode cX5_init 11 = .ok (.putfield 15, 3) := by decide +kernel
theorem dX5_init_14 : decode cX5_init 14 = .ok (.aload_n 0, 1) := by decide +kernel
theorem dX5_init_15 : decode cX5_init 15 = .ok (.iconst 1, 1) := by decide +kernel
theorem dX5_init_16 : decode cX5_init 16 = .ok (.putfield 18, 3) := by decide +kernel
theorem dX5_init_19 : decode cX5_init 19 = .ok (.aload_n 0, 1) := by decide +kernel
theorem dX5_init_20 : decode cX5_init 20 = .ok (.iconst 0, 1) := by decide +kernel
theorem dX5_init_21 : decode cX5_init 21 = .ok (.putfield 21, 3) := by decide +kernel
theorem dX5_init_24 : decode cX5_init 24 = .ok (.aload_n 0, 1) := by decide +kernel
theorem dX5_init_25 : decode cX5_init 25 = .ok (.bipush 10, 2) := by decide +kernel
theorem dX5_init_27 : decode cX5_init 27 = .ok (.newarray .int, 2) := by decide +kernel
theorem dX5_init_29 : decode cX5_init 29 = .ok (.putfield 24, 3) := by decide +kernel
theorem dX5_init_32 : decode cX5_init 32 = .ok (.aload_n 0, 1) := by decide +kernel
theorem dX5_init_33 : decode cX5_init 33 = .ok (.bipush 10, 2) := by decide +kernel
theorem dX5_init_35 : decode cX5_init 35 = .ok (.newarray .int, 2) := by decide +kernel
theorem dX5_init_37 : decode cX5_init 37 = .ok (.putfield 28, 3) := by decide +kernel
theorem dX5_init_40 : decode cX5_init 40 = .ok (.aload_n 0, 1) := by decide +kernel
theorem dX5_init_41 : decode cX5_init 41 = .ok (.bipush 10, 2) := by decide +kernel
theorem dX5_init_43 : decode cX5_init 43 = .ok (.newarray .int, 2) := by decide +kernel
theorem dX5_init_45 : decode cX5_init 45 = .ok (.putfield 31, 3) := by decide +kernel
theorem dX5_init_48 : decode cX5_init 48 = .ok (.aload_n 0, 1) := by decide +kernel
theorem dX5_init_49 : decode cX5_init 49 = .ok (.bipush 10, 2) := by decide +kernel
theorem dX5_init_51 : decode cX5_init 51 = .ok (.newarray .int, 2) := by decide +kernel
theorem dX5_init_53 : decode cX5_init 53 = .ok (.putfield 34, 3) := by decide +kernel
theorem dX5_init_56 : decode cX5_init 56 = .ok (.aload_n 0, 1) := by decide +kernel
theorem dX5_init_57 : decode cX5_init 57 = .ok (.bipush 10, 2) := by decide +kernel
theorem dX5_init_59 : decode cX5_init 59 = .ok (.newarray .int, 2) := by decide +kernel
theorem dX5_init_61 : decode cX5_init 61 = .ok (.putfield 37, 3) := by decide +kernel
theorem dX5_init_64 : decode cX5_init 64 = .ok (.aload_n 0, 1) := by decide +kernel
theorem dX5_init_65 : decode cX5_init 65 = .ok (.new 40, 3) := by decide +kernel
theorem dX5_init_68 : decode cX5_init 68 = .ok (.dup, 1) := by decide +kernel
theorem dX5_init_69 : decode cX5_init 69 = .ok (.invokespecial 42, 3) := by decide +kernel
theorem dX5_init_72 : decode cX5_init 72 = .ok (.putfield 43, 3) := by decide +kernel
theorem dX5_init_75 : decode cX5_init 75 = .ok (.aload_n 0, 1) := by decide +kernel
theorem dX5_init_76 : decode cX5_init 76 = .ok (.new 47, 3) := by decide +kernel
theorem dX5_init_79 : decode cX5_init 79 = .ok (.dup, 1) := by decide +kernel
theorem dX5_init_80 : decode cX5_init 80 = .ok (.bipush 10, 2) := by decide +kernel
theorem dX5_init_82 : decode cX5_init 82 = .ok (.invokespecial 49, 3) := by decide +kernel
theorem dX5_init_85 : decode cX5_init 85 = .ok (.putfield 52, 3) := by decide +kernel
theorem dX5_init_88 : decode cX5_init 88 = .ok (.aload_n 0, 1) := by decide +kernel
theorem dX5_init_89 : decode cX5_init 89 = .ok (.new 47, 3) := by decide +kernel
theorem dX5_init_92 : decode cX5_init 92 = .ok (.dup, 1) := by decide +kernel
theorem dX5_init_93 : decode cX5_init 93 = .ok (.bipush 100, 2) := by decide +kernel
theorem dX5_init_95 : decode cX5_init 95 = .ok (.invokespecial 49, 3) := by decide +kernel
theorem dX5_init_98 : decode cX5_init 98 = .ok (.putfield 56, 3) := by decide +kernel
theorem dX5_init_101 : decode cX5_init 101 = .ok (.aload_n 0, 1) := by decide +kernel
theorem dX5_init_102 : decode cX5_init 102 = .ok (.new 47, 3) := by decide +kernel
theorem dX5_init_105 : decode cX5_init 105 = .ok (.dup, 1) := by decide +kernel
theorem dX5_init_106 : decode cX5_init 106 = .ok (.bipush 100, 2) := by decide +kernel
theorem dX5_init_108 : decode cX5_init 108 = .ok (.invokespecial 49, 3) := by decide +kernel
theorem dX5_init_111 : decode cX5_init 111 = .ok (.putfield 59, 3) := by decide +kernel
theorem dX5_init_114 : decode cX5_init 114 = .ok (.aload_n 0, 1) := by decide +kernel
theorem dX5_init_115 : decode cX5_init 115 = .ok (.new 62, 3) := by decide +kernel
theorem dX5_init_118 : decode cX5_init 118 = .ok (.dup, 1) := by decide +kernel
theorem dX5_init_119 : decode cX5_init 119 = .ok (.invokespecial 64, 3) := by decide +kernel
theorem dX5_init_122 : decode cX5_init 122 = .ok (.putfield 65, 3) := by decide +kernel
theorem dX5_init_125 : decode cX5_init 125 = .ok (.return_, 1) := by decide +kernel
set_option maxRecDepth 20000 in
theorem ggX5_copyFrom_X6_copyFrom : GoodIn wsX5_copyFrom wsX6_copyFrom := goodIn_r _ [23, 24, 25, 7, 8, 9, 26, 27, 60, 61, 62] (by decide +kernel) (by decide +kernel)
set_option maxRecDepth 20000 in
theorem gX5_copyFrom_X6_copyFrom : GoodIn wsX5_copyFrom (wsV RX5 75 RX6 yX6_copyFrom wsX6_copyFrom) := goodIn_app (goodIn_of _ (by decide +kernel)) ggX5_copyFrom_X6_copyFrom
set_option maxRecDepth 20000 in
theorem ggX5_copyFrom_X3_copyFrom : GoodIn wsX5_copyFrom wsX3_copyFrom := goodIn_r _ [32, 33, 34, 7, 8, 9, 35, 63, 64] (by decide +kernel) (by decide +kernel)
set_option maxRecDepth 20000 in
theorem gX5_copyFrom_X3_copyFrom : GoodIn wsX5_copyFrom (wsV RX5 79 RX3 yX3_copyFrom wsX3_copyFrom) := goodIn_app (goodIn_of _ (by decide +kernel)) ggX5_copyFrom_X3_copyFrom
set_option maxRecDepth 20000 in
theorem ggX5_copyFrom_X1_copyFrom : GoodIn wsX5_copyFrom wsX1_copyFrom := goodIn_r _ [40, 41, 42, 7, 8, 9, 43, 44, 45, 29, 30, 31, 32, 33, 34, 35, 65, 66, 67, 63, 64] (by decide +kernel) (by decide +kernel)
set_option maxRecDepth 20000 in
theorem gX5_copyFrom_X1_copyFrom : GoodIn wsX5_copyFrom (wsV RX5 82 RX1 yX1_copyFrom wsX1_copyFrom) := goodIn_app (goodIn_of _ (by decide +kernel)) ggX5_copyFrom_X1_copyFrom
theorem dX5_copyFrom_0 : decode cX5_copyFrom 0 = .ok (.aload_n 0, 1) := by decide +kernel
theorem dX5_copyFrom_1 : decode cX5_copyFrom 1 = .ok (.aload_n 1, 1) := by decide +kernel
theorem dX5_copyFrom_2 : decode cX5_copyFrom 2 = .ok (.getfield 9, 3) := by decide +kernel
theorem dX5_copyFrom_5 : decode cX5_copyFrom 5 = .ok (.putfield 9, 3) := by decide +kernel
theorem dX5_copyFrom_8 : decode cX5_copyFrom 8 = .ok (.aload_n 0, 1) := by decide +kernel
theorem dX5_copyFrom_9 : decode cX5_copyFrom 9 = .ok (.aload_n 1, 1) := by decide +kernel
theorem dX5_copyFrom_10 : decode cX5_copyFrom 10 = .ok (.getfield 15, 3) := by decide +kernel
theorem dX5_copyFrom_13 : decode cX5_copyFrom 13 = .ok (.putfield 15, 3) := by decide +kernel
theorem dX5_copyFrom_16 : decode cX5_copyFrom 16 = .ok (.aload_n 0, 1) := by decide +kernel
theorem dX5_copyFrom_17 : decode cX5_copyFrom 17 = .ok (.aload_n 1, 1) := by decide +kernel
theorem dX5_copyFrom_18 : decode cX5_copyFrom 18 = .ok (.getfield 18, 3) := by decide +kernel
theorem dX5_copyFrom_21 : decode cX5_copyFrom 21 = .ok (.putfield 18, 3) := by decide +kernel
theorem dX5_copyFrom_24 : decode cX5_copyFrom 24 = .ok (.aload_n 0, 1) := by decide +kernel
theorem dX5_copyFrom_25 : decode cX5_copyFrom 25 = .ok (.aload_n 1, 1) := by decide +kernel
theorem dX5_copyFrom_26 : decode cX5_copyFrom 26 = .ok (.getfield 21, 3) := by decide +kernel
theorem dX5_copyFrom_29 : decode cX5_copyFrom 29 = .ok (.putfield 21, 3) := by decide +kernel
theorem dX5_copyFrom_32 : decode cX5_copyFrom 32 = .ok (.aload_n 1, 1) := by decide +kernel
theorem dX5_copyFrom_33 : decode cX5_copyFrom 33 = .ok (.getfield 24, 3) := by decide +kernel
theorem dX5_copyFrom_36 : decode cX5_copyFrom 36 = .ok (.iconst 0, 1) := by decide +kernel
theorem dX5_copyFrom_37 : decode cX5_copyFrom 37 = .ok (.aload_n 0, 1) := by decide +kernel
theorem dX5_copyFrom_38 : decode cX5_copyFrom 38 = .ok (.getfield 24, 3) := by decide +kernel
theorem dX5_copyFrom_41 : decode cX5_copyFrom 41 = .ok (.iconst 0, 1) := by decide +kernel
theorem dX5_copyFrom_42 : decode cX5_copyFrom 42 = .ok (.bipush 10, 2) := by decide +kernel
theorem dX5_copyFrom_44 : decode cX5_copyFrom 44 = .ok (.invokestatic 69, 3) := by decide +kernel
theorem dX5_copyFrom_47 : decode cX5_copyFrom 47 = .ok (.aload_n 1, 1) := by decide +kernel
theorem dX5_copyFrom_48 : decode cX5_copyFrom 48 = .ok (.getfield 28, 3) := by decide +kernel
theorem dX5_copyFrom_51 : decode cX5_copyFrom 51 = .ok (.iconst 0, 1) := by decide +kernel
theorem dX5_copyFrom_52 : decode cX5_copyFrom 52 = .ok (.aload_n 0, 1) := by decide +kernel
theorem dX5_copyFrom_53 : decode cX5_copyFrom 53 = .ok (.getfield 28, 3) := by decide +kernel
theorem dX5_copyFrom_56 : decode cX5_copyFrom 56 = .ok (.iconst 0, 1) := by decide +kernel
theorem dX5_copyFrom_57 : decode cX5_copyFrom 57 = .ok (.bipush 10, 2) := by decide +kernel
theorem dX5_copyFrom_59 : decode cX5_copyFrom 59 = .ok (.invokestatic 69, 3) := by decide +kernel
theorem dX5_copyFrom_62 : decode cX5_copyFrom 62 = .ok (.aload_n 1, 1) := by decide +kernel
theorem dX5_copyFrom_63 : decode cX5_copyFrom 63 = .ok (.getfield 31, 3) := by decide +kernel
theorem dX5_copyFrom_66 : decode cX5_copyFrom 66 = .ok (.iconst 0, 1) := by decide +kernel
theorem dX5_copyFrom_67 : decode cX5_copyFrom 67 = .ok (.aload_n 0, 1) := by decide +kernel
theorem dX5_copyFrom_68 : decode cX5_copyFrom 68 = .ok (.getfield 31, 3) := by decide +kernel
theorem dX5_copyFrom_71 : decode cX5_copyFrom 71 = .ok (.iconst 0, 1) := by decide +kernel
theorem dX5_copyFrom_72 : decode cX5_copyFrom 72 = .ok (.bipush 10, 2) := by decide +kernel
theorem dX5_copyFrom_74 : decode cX5_copyFrom 74 = .ok (.invokestatic 69, 3) := by decide +kernel
theorem dX5_copyFrom_77 : decode cX5_copyFrom 77 = .ok (.aload_n 1, 1) := by decide +kernel
theorem dX5_copyFrom_78 : decode cX5_copyFrom 78 = .ok (.getfield 34, 3) := by decide +kernel
theorem dX5_copyFrom_81 : decode cX5_copyFrom 81 = .ok (.iconst 0, 1) := by decide +kernel
theorem dX5_copyFrom_82 : decode cX5_copyFrom 82 = .ok (.aload_n 0, 1) := by decide +kernel
theorem dX5_copyFrom_83 : decode cX5_copyFrom 83 = .ok (.getfield 34, 3) := by decide +kernel
theorem dX5_copyFrom_86 : decode cX5_copyFrom 86 = .ok (.iconst 0, 1) := by decide +kernel
theorem dX5_copyFrom_87 : decode cX5_copyFrom 87 = .ok (.bipush 10, 2) := by decide +kernel
theorem dX5_copyFrom_89 : decode cX5_copyFrom 89 = .ok (.invokestatic 69, 3) := by decide +kernel
theorem dX5_copyFrom_92 : decode cX5_copyFrom 92 = .ok (.aload_n 1, 1) := by decide +kernel
theorem dX5_copyFrom_93 : decode cX5_copyFrom 93 = .ok (.getfield 37, 3) := by decide +kernel
theorem dX5_copyFrom_96 : decode cX5_copyFrom 96 = .ok (.iconst 0, 1) := by decide +kernel
theorem dX5_copyFrom_97 : decode cX5_copyFrom 97 = .ok (.aload_n 0, 1) := by decide +kernel
theorem dX5_copyFrom_98 : decode cX5_copyFrom 98 = .ok (.getfield 37, 3) := by decide +kernel
theorem dX5_copyFrom_101 : decode cX5_copyFrom 101 = .ok (.iconst 0, 1) := by decide +kernel
theorem dX5_copyFrom_102 : decode cX5_copyFrom 102 = .ok (.bipush 10, 2) := by decide +kernel
theorem dX5_copyFrom_104 : decode cX5_copyFrom 104 = .ok (.invokestatic 69, 3) := by decide +kernel
theorem dX5_copyFrom_107 : decode cX5_copyFrom 107 = .ok (.aload_n 0, 1) := by decide +kernel
theorem dX5_copyFrom_108 : decode cX5_copyFrom 108 = .ok (.getfield 43, 3) := by decide +kernel
theorem dX5_copyFrom_111 : decode cX5_copyFrom 111 = .ok (.aload_n 1, 1) := by decide +kernel
theorem dX5_copyFrom_112 : decode cX5_copyFrom 112 = .ok (.getfield 43, 3) := by decide +kernel
theorem dX5_copyFrom_115 : decode cX5_copyFrom 115 = .ok (.invokevirtual 75, 3) := by decide +kernel
theorem dX5_copyFrom_118 : decode cX5_copyFrom 118 = .ok (.aload_n 0, 1) := by decide +kernel
theorem dX5_copyFrom_119 : decode cX5_copyFrom 119 = .ok (.getfield 52, 3) := by decide +kernel
theorem dX5_copyFrom_122 : decode cX5_copyFrom 122 = .ok (.aload_n 1, 1) := by decide +kernel
theorem dX5_copyFrom_123 : decode cX5_copyFrom 123 = .ok (.getfield 52, 3) := by decide +kernel
theorem dX5_copyFrom_126 : decode cX5_copyFrom 126 = .ok (.invokevirtual 79, 3) := by decide +kernel
theorem dX5_copyFrom_129 : decode cX5_copyFrom 129 = .ok (.aload_n 0, 1) := by decide +kernel
theorem dX5_copyFrom_130 : decode cX5_copyFrom 130 = .ok (.getfield 56, 3) := by decide +kernel
theorem dX5_copyFrom_133 : decode cX5_copyFrom 133 = .ok (.aload_n 1, 1) := by decide +kernel
theorem dX5_copyFrom_134 : decode cX5_copyFrom 134 = .ok (.getfield 56, 3) := by decide +kernel
theorem dX5_copyFrom_137 : decode cX5_copyFrom 137 = .ok (.invokevirtual 79, 3) := by decide +kernel
theorem dX5_copyFrom_140 : decode cX5_copyFrom 140 = .ok (.aload_n 0, 1) := by decide +kernel
theorem dX5_copyFrom_141 : decode cX5_copyFrom 141 = .ok (.getfield 59, 3) := by decide +kernel
theorem dX5_copyFrom_144 : decode cX5_copyFrom 144 = .ok (.aload_n 1, 1) := by decide +kernel
theorem dX5_copyFrom_145 : decode cX5_copyFrom 145 = .ok (.getfield 59, 3) := by decide +kernel
theorem dX5_copyFrom_148 : decode cX5_copyFrom 148 = .ok (.invokevirtual 79, 3) := by decide +kernel
theorem dX5_copyFrom_151 : decode cX5_copyFrom 151 = .ok (.aload_n 0, 1) := by decide +kernel
theorem dX5_copyFrom_152 : decode cX5_copyFrom 152 = .ok (.getfield 65, 3) := by decide +kernel
theorem dX5_copyFrom_155 : decode cX5_copyFrom 155 = .ok (.aload_n 1, 1) := by decide +kernel
theorem dX5_copyFrom_156 : decode cX5_copyFrom 156 = .ok (.getfield 65, 3) := by decide +kernel
theorem dX5_copyFrom_159 : decode cX5_copyFrom 159 = .ok (.invokevirtual 82, 3) := by decide +kernel
theorem dX5_copyFrom_162 : decode cX5_copyFrom 162 = .ok (.return_, 1) := by decide +kernel
theorem dX5_isHere_0 : decode cX5_isHere 0 = .ok (.aload_n 0, 1) := by decide +kernel
theorem dX5_isHere_1 : decode cX5_isHere 1 = .ok (.getfield 15, 3) := by decide +kernel
theorem dX5_isHere_4 : decode cX5_isHere 4 = .ok (.iload_n 1, 1) := by decide +kernel
theorem dX5_isHere_5 : decode cX5_isHere 5 = .ok (.ishr, 1) := by decide +kernel
theorem dX5_isHere_6 : decode cX5_isHere 6 = .ok (.iconst 1, 1) := by decide +kernel
theorem dX5_isHere_7 : decode cX5_isHere 7 = .ok (.iand, 1) := by decide +kernel
theorem dX5_isHere_8 : decode cX5_isHere 8 = .ok (.ifCond .eq 7, 3) := by decide +kernel
theorem dX5_isHere_11 : decode cX5_isHere 11 = .ok (.iconst 1, 1) := by decide +kernel
theorem dX5_isHere_12 : decode cX5_isHere 12 = .ok (.goto 4, 3) := by decide +kernel
theorem dX5_isHere_15 : decode cX5_isHere 15 = .ok (.iconst 0, 1) := by decide +kernel
theorem dX5_isHere_16 : decode cX5_isHere 16 = .ok (.ireturn, 1) := by decide +kernel
set_option maxRecDepth 20000 in
theorem ggX5_hereCount_J6_bitCount_0f7a4 : GoodIn wsX5_hereCount wsJ6_bitCount_0f7a4 := goodIn_r _ [5, 6, 7, 8] (by decide +kernel) (by decide +kernel)
set_option maxRecDepth 20000 in
theorem gX5_hereCount_J6_bitCount_0f7a4 : GoodIn wsX5_hereCount (va_wsS RX5 85 yJ6_bitCount_0f7a4 wsJ6_bitCount_0f7a4) := goodIn_app (goodIn_of _ (by decide +kernel)) ggX5_hereCount_J6_bitCount_0f7a4
theorem dX5_hereCount_0 : decode cX5_hereCount 0 = .ok (.aload_n 0, 1) := by decide +kernel
theorem dX5_hereCount_1 : decode cX5_hereCount 1 = .ok (.getfield 15, 3) := by decide +kernel
theorem dX5_hereCount_4 : decode cX5_hereCount 4 = .ok (.invokestatic 85, 3) := by decide +kernel
theorem dX5_hereCount_7 : decode cX5_hereCount 7 = .ok (.ireturn, 1) := by decide +kernel
theorem dX5_isJoined_0 : decode cX5_isJoined 0 = .ok (.aload_n 0, 1) := by decide +kernel
theorem dX5_isJoined_1 : decode cX5_isJoined 1 = .ok (.getfield 37, 3) := by decide +kernel
theorem dX5_isJoined_4 : decode cX5_isJoined 4 = .ok (.iload_n 1, 1) := by decide +kernel
theorem dX5_isJoined_5 : decode cX5_isJoined 5 = .ok (.iaload, 1) := by decide +kernel
theorem dX5_isJoined_6 : decode cX5_isJoined 6 = .ok (.iload_n 2, 1) := by decide +kernel
theorem dX5_isJoined_7 : decode cX5_isJoined 7 = .ok (.ishr, 1) := by decide +kernel
theorem dX5_isJoined_8 : decode cX5_isJoined 8 = .ok (.iconst 1, 1) := by decide +kernel
theorem dX5_isJoined_9 : decode cX5_isJoined 9 = .ok (.iand, 1) := by decide +kernel
theorem dX5_isJoined_10 : decode cX5_isJoined 10 = .ok (.ifCond .eq 7, 3) := by decide +kernel
theorem dX5_isJoined_13 : decode cX5_isJoined 13 = .ok (.iconst 1, 1) := by decide +kernel
theorem dX5_isJoined_14 : decode cX5_isJoined 14 = .ok (.goto 4, 3) := by decide +kernel
theorem dX5_isJoined_17 : decode cX5_isJoined 17 = .ok (.iconst 0, 1) := by decide +kernel
theorem dX5_isJoined_18 : decode cX5_isJoined 18 = .ok (.ireturn, 1) := by decide +kernel
theorem dX5_join_0 : decode cX5_join 0 = .ok (.aload_n 0, 1) := by decide +kernel
theorem dX5_join_1 : decode cX5_join 1 = .ok (.getfield 37, 3) := by decide +kernel
theorem dX5_join_4 : decode cX5_join 4 = .ok (.iload_n 1, 1) := by decide +kernel
theorem dX5_join_5 : decode cX5_join 5 = .ok (.dup2, 1) := by decide +kernel
theorem dX5_join_6 : decode cX5_join 6 = .ok (.iaload, 1) := by decide +kernel
theorem dX5_join_7 : decode cX5_join 7 = .ok (.iconst 1, 1) := by decide +kernel
theorem dX5_join_8 : decode cX5_join 8 = .ok (.iload_n 2, 1) := by decide +kernel
theorem dX5_join_9 : decode cX5_join 9 = .ok (.ishl, 1) := by decide +kernel
theorem dX5_join_10 : decode cX5_join 10 = .ok (.ior, 1) := by decide +kernel
theorem dX5_join_11 : decode cX5_join 11 = .ok (.iastore, 1) := by decide +kernel
theorem dX5_join_12 : decode cX5_join 12 = .ok (.aload_n 0, 1) := by decide +kernel
theorem dX5_join_13 : decode cX5_join 13 = .ok (.getfield 37, 3) := by decide +kernel
theorem dX5_join_16 : decode cX5_join 16 = .ok (.iload_n 2, 1) := by decide +kernel
theorem dX5_join_17 : decode cX5_join 17 = .ok (.dup2, 1) := by decide +kernel
theorem dX5_join_18 : decode cX5_join 18 = .ok (.iaload, 1) := by decide +kernel
theorem dX5_join_19 : decode cX5_join 19 = .ok (.iconst 1, 1) := by decide +kernel
theorem dX5_join_20 : decode cX5_join 20 = .ok (.iload_n 1, 1) := by decide +kernel
theorem dX5_join_21 : decode cX5_join 21 = .ok (.ishl, 1) := by decide +kernel
theorem dX5_join_22 : decode cX5_join 22 = .ok (.ior, 1) := by decide +kernel
theorem dX5_join_23 : decode cX5_join 23 = .ok (.iastore, 1) := by decide +kernel
theorem dX5_join_24 : decode cX5_join 24 = .ok (.return_, 1) := by decide +kernel
theorem dX5_part_0 : decode cX5_part 0 = .ok (.aload_n 0, 1) := by decide +kernel
theorem dX5_part_1 : decode cX5_part 1 = .ok (.getfield 37, 3) := by decide +kernel
theorem dX5_part_4 : decode cX5_part 4 = .ok (.iload_n 1, 1) := by decide +kernel
theorem dX5_part_5 : decode cX5_part 5 = .ok (.dup2, 1) := by decide +kernel
theorem dX5_part_6 : decode cX5_part 6 = .ok (.iaload, 1) := by decide +kernel
theorem dX5_part_7 : decode cX5_part 7 = .ok (.iconst 1, 1) := by decide +kernel
theorem dX5_part_8 : decode cX5_part 8 = .ok (.iload_n 2, 1) := by decide +kernel
theorem dX5_part_9 : decode cX5_part 9 = .ok (.ishl, 1) := by decide +kernel
theorem dX5_part_10 : decode cX5_part 10 = .ok (.iconst (-1), 1) := by decide +kernel
theorem dX5_part_11 : decode cX5_part 11 = .ok (.ixor, 1) := by decide +kernel
theorem dX5_part_12 : decode cX5_part 12 = .ok (.iand, 1) := by decide +kernel
theorem dX5_part_13 : decode cX5_part 13 = .ok (.iastore, 1) := by decide +kernel
theorem dX5_part_14 : decode cX5_part 14 = .ok (.aload_n 0, 1) := by decide +kernel
theorem dX5_part_15 : decode cX5_part 15 = .ok (.getfield 37, 3) := by decide +kernel
theorem dX5_part_18 : decode cX5_part 18 = .ok (.iload_n 2, 1) := by decide +kernel
theorem dX5_part_19 : decode cX5_part 19 = .ok (.dup2, 1) := by decide +kernel
theorem dX5_part_20 : decode cX5_part 20 = .ok (.iaload, 1) := by decide +kernel
theorem dX5_part_21 : decode cX5_part 21 = .ok (.iconst 1, 1) := by decide +kernel
theorem dX5_part_22 : decode cX5_part 22 = .ok (.iload_n 1, 1) := by decide +kernel
theorem dX5_part_23 : decode cX5_part 23 = .ok (.ishl, 1) := by decide +kernel
theorem dX5_part_24 : decode cX5_part 24 = .ok (.iconst (-1), 1) := by decide +kernel
theorem dX5_part_25 : decode cX5_part 25 = .ok (.ixor, 1) := by decide +kernel
theorem dX5_part_26 : decode cX5_part 26 = .ok (.iand, 1) := by decide +kernel
theorem dX5_part_27 : decode cX5_part 27 = .ok (.iastore, 1) := by decide +kernel
theorem dX5_part_28 : decode cX5_part 28 = .ok (.return_, 1) := by decide +kernel
set_option maxRecDepth 20000 in
theorem ggX5_lineCount_J6_bitCount_0f7a4 : GoodIn wsX5_lineCount wsJ6_bitCount_0f7a4 := goodIn_r _ [6, 7, 8, 9] (by decide +kernel) (by decide +kernel)
set_option maxRecDepth 20000 in
theorem gX5_lineCount_J6_bitCount_0f7a4 : GoodIn wsX5_lineCount (va_wsS RX5 85 yJ6_bitCount_0f7a4 wsJ6_bitCount_0f7a4) := goodIn_app (goodIn_of _ (by decide +kernel)) ggX5_lineCount_J6_bitCount_0f7a4
theorem dX5_lineCount_0 : decode cX5_lineCount 0 = .ok (.iconst 0, 1) := by decide +kernel
theorem dX5_lineCount_1 : decode cX5_lineCount 1 = .ok (.istore_n 1, 1) := by decide +kernel
theorem dX5_lineCount_2 : decode cX5_lineCount 2 = .ok (.iconst 0, 1) := by decide +kernel
theorem dX5_lineCount_3 : decode cX5_lineCount 3 = .ok (.istore_n 2, 1) := by decide +kernel
theorem dX5_lineCount_4 : decode cX5_lineCount 4 = .ok (.iload_n 2, 1) := by decide +kernel
theorem dX5_lineCount_5 : decode cX5_lineCount 5 = .ok (.aload_n 0, 1) := by decide +kernel
theorem dX5_lineCount_6 : decode cX5_lineCount 6 = .ok (.getfield 9, 3) := by decide +kernel
theorem dX5_lineCount_9 : decode cX5_lineCount 9 = .ok (.if_icmp .ge 21, 3) := by decide +kernel
theorem dX5_lineCount_12 : decode cX5_lineCount 12 = .ok (.iload_n 1, 1) := by decide +kernel
theorem dX5_lineCount_13 : decode cX5_lineCount 13 = .ok (.aload_n 0, 1) := by decide +kernel
theorem dX5_lineCount_14 : decode cX5_lineCount 14 = .ok (.getfield 37, 3) := by decide +kernel
theorem dX5_lineCount_17 : decode cX5_lineCount 17 = .ok (.iload_n 2, 1) := by decide +kernel
theorem dX5_lineCount_18 : decode cX5_lineCount 18 = .ok (.iaload, 1) := by decide +kernel
theorem dX5_lineCount_19 : decode cX5_lineCount 19 = .ok (.invokestatic 85, 3) := by decide +kernel
theorem dX5_lineCount_22 : decode cX5_lineCount 22 = .ok (.iadd, 1) := by decide +kernel
theorem dX5_lineCount_23 : decode cX5_lineCount 23 = .ok (.istore_n 1, 1) := by decide +kernel
theorem dX5_lineCount_24 : decode cX5_lineCount 24 = .ok (.iinc 2 1, 3) := by decide +kernel
theorem dX5_lineCount_27 : decode cX5_lineCount 27 = .ok (.goto (-23), 3) := by decide +kernel
theorem dX5_lineCount_30 : decode cX5_lineCount 30 = .ok (.iload_n 1, 1) := by decide +kernel
theorem dX5_lineCount_31 : decode cX5_lineCount 31 = .ok (.iconst 2, 1) := by decide +kernel
theorem dX5_lineCount_32 : decode cX5_lineCount 32 = .ok (.idiv, 1) := by decide +kernel
theorem dX5_lineCount_33 : decode cX5_lineCount 33 = .ok (.ireturn, 1) := by decide +kernel
