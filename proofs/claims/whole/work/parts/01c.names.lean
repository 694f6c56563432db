theorem dX5_nextDrawn_0 : decode cX5_nextDrawn 0 = .ok (.aload_n 0, 1) := by decide +kernel
theorem dX5_nextDrawn_1 : decode cX5_nextDrawn 1 = .ok (.aload_n 0, 1) := by decide +kernel
theorem dX5_nextDrawn_2 : decode cX5_nextDrawn 2 = .ok (.getfield 18, 3) := by decide +kernel
theorem dX5_nextDrawn_5 : decode cX5_nextDrawn 5 = .ok (.ldc 91, 2) := by decide +kernel
theorem dX5_nextDrawn_7 : decode cX5_nextDrawn 7 = .ok (.imul, 1) := by decide +kernel
theorem dX5_nextDrawn_8 : decode cX5_nextDrawn 8 = .ok (.sipush 12345, 3) := by decide +kernel
theorem dX5_nextDrawn_11 : decode cX5_nextDrawn 11 = .ok (.iadd, 1) := by decide +kernel
theorem dX5_nextDrawn_12 : decode cX5_nextDrawn 12 = .ok (.ldc 92, 2) := by decide +kernel
theorem dX5_nextDrawn_14 : decode cX5_nextDrawn 14 = .ok (.iand, 1) := by decide +kernel
theorem dX5_nextDrawn_15 : decode cX5_nextDrawn 15 = .ok (.putfield 18, 3) := by decide +kernel
theorem dX5_nextDrawn_18 : decode cX5_nextDrawn 18 = .ok (.aload_n 0, 1) := by decide +kernel
theorem dX5_nextDrawn_19 : decode cX5_nextDrawn 19 = .ok (.getfield 18, 3) := by decide +kernel
theorem dX5_nextDrawn_22 : decode cX5_nextDrawn 22 = .ok (.ireturn, 1) := by decide +kernel
set_option maxRecDepth 20000 in
theorem ggX5_arrive_X3_put : GoodIn wsX5_arrive wsX3_put := goodIn_r _ [10, 11, 12, 63, 64] (by decide +kernel) (by decide +kernel)
set_option maxRecDepth 20000 in
theorem gX5_arrive_X3_put : GoodIn wsX5_arrive (wsV RX5 95 RX3 yX3_put wsX3_put) := goodIn_app (goodIn_of _ (by decide +kernel)) ggX5_arrive_X3_put
set_option maxRecDepth 20000 in
theorem ggX5_arrive_X5_hearNews : GoodIn wsX5_arrive wsX5_hearNews := goodIn_r _ [17, 18, 19, 20, 21, 22, 16, 23, 24, 2, 25, 49, 50, 51, 52, 53, 54, 55, 56, 57, 58, 59, 60, 61, 62] (by decide +kernel) (by decide +kernel)
set_option maxRecDepth 20000 in
theorem gX5_arrive_X5_hearNews : GoodIn wsX5_arrive (wsV RX5 99 RX5 yX5_hearNews wsX5_hearNews) := goodIn_app (goodIn_of _ (by decide +kernel)) ggX5_arrive_X5_hearNews
set_option maxRecDepth 20000 in
theorem ggX5_arrive_X5_nextDrawn : GoodIn wsX5_arrive wsX5_nextDrawn := goodIn_r _ [29, 30, 31, 32, 49, 50, 51, 52, 53, 54, 55, 56, 57, 58, 59, 60, 61, 62] (by decide +kernel) (by decide +kernel)
set_option maxRecDepth 20000 in
theorem gX5_arrive_X5_nextDrawn : GoodIn wsX5_arrive (wsV RX5 102 RX5 yX5_nextDrawn wsX5_nextDrawn) := goodIn_app (goodIn_of _ (by decide +kernel)) ggX5_arrive_X5_nextDrawn
set_option maxRecDepth 20000 in
theorem ggX5_arrive_X6_knowAlone : GoodIn wsX5_arrive wsX6_knowAlone := goodIn_r _ [37, 38, 39, 40, 41, 36, 42, 43, 44, 45, 46, 47, 48, 65, 66, 67] (by decide +kernel) (by decide +kernel)
set_option maxRecDepth 20000 in
theorem gX5_arrive_X6_knowAlone : GoodIn wsX5_arrive (wsV RX5 106 RX6 yX6_knowAlone wsX6_knowAlone) := goodIn_app (goodIn_of _ (by decide +kernel)) ggX5_arrive_X6_knowAlone
theorem dX5_arrive_0 : decode cX5_arrive 0 = .ok (.aload_n 0, 1) := by decide +kernel
theorem dX5_arrive_1 : decode cX5_arrive 1 = .ok (.dup, 1) := by decide +kernel
theorem dX5_arrive_2 : decode cX5_arrive 2 = .ok (.getfield 15, 3) := by decide +kernel
theorem dX5_arrive_5 : decode cX5_arrive 5 = .ok (.iconst 1, 1) := by decide +kernel
theorem dX5_arrive_6 : decode cX5_arrive 6 = .ok (.iload_n 1, 1) := by decide +kernel
theorem dX5_arrive_7 : decode cX5_arrive 7 = .ok (.ishl, 1) := by decide +kernel
theorem dX5_arrive_8 : decode cX5_arrive 8 = .ok (.ior, 1) := by decide +kernel
theorem dX5_arrive_9 : decode cX5_arrive 9 = .ok (.putfield 15, 3) := by decide +kernel
theorem dX5_arrive_12 : decode cX5_arrive 12 = .ok (.aload_n 0, 1) := by decide +kernel
theorem dX5_arrive_13 : decode cX5_arrive 13 = .ok (.getfield 24, 3) := by decide +kernel
theorem dX5_arrive_16 : decode cX5_arrive 16 = .ok (.iload_n 1, 1) := by decide +kernel
theorem dX5_arrive_17 : decode cX5_arrive 17 = .ok (.iload_n 2, 1) := by decide +kernel
theorem dX5_arrive_18 : decode cX5_arrive 18 = .ok (.iastore, 1) := by decide +kernel
theorem dX5_arrive_19 : decode cX5_arrive 19 = .ok (.aload_n 0, 1) := by decide +kernel
theorem dX5_arrive_20 : decode cX5_arrive 20 = .ok (.getfield 52, 3) := by decide +kernel
theorem dX5_arrive_23 : decode cX5_arrive 23 = .ok (.iload_n 1, 1) := by decide +kernel
theorem dX5_arrive_24 : decode cX5_arrive 24 = .ok (.iload_n 2, 1) := by decide +kernel
theorem dX5_arrive_25 : decode cX5_arrive 25 = .ok (.i2l, 1) := by decide +kernel
theorem dX5_arrive_26 : decode cX5_arrive 26 = .ok (.ldc2_w 93, 3) := by decide +kernel
theorem dX5_arrive_29 : decode cX5_arrive 29 = .ok (.lmul, 1) := by decide +kernel
theorem dX5_arrive_30 : decode cX5_arrive 30 = .ok (.ldc2_w 93, 3) := by decide +kernel
theorem dX5_arrive_33 : decode cX5_arrive 33 = .ok (.invokevirtual 95, 3) := by decide +kernel
theorem dX5_arrive_36 : decode cX5_arrive 36 = .ok (.aload_n 0, 1) := by decide +kernel
theorem dX5_arrive_37 : decode cX5_arrive 37 = .ok (.iload_n 1, 1) := by decide +kernel
theorem dX5_arrive_38 : decode cX5_arrive 38 = .ok (.invokevirtual 99, 3) := by decide +kernel
theorem dX5_arrive_41 : decode cX5_arrive 41 = .ok (.aload_n 0, 1) := by decide +kernel
theorem dX5_arrive_42 : decode cX5_arrive 42 = .ok (.getfield 43, 3) := by decide +kernel
theorem dX5_arrive_45 : decode cX5_arrive 45 = .ok (.iload_n 1, 1) := by decide +kernel
theorem dX5_arrive_46 : decode cX5_arrive 46 = .ok (.aload_n 0, 1) := by decide +kernel
theorem dX5_arrive_47 : decode cX5_arrive 47 = .ok (.invokevirtual 102, 3) := by decide +kernel
theorem dX5_arrive_50 : decode cX5_arrive 50 = .ok (.invokevirtual 106, 3) := by decide +kernel
theorem dX5_arrive_53 : decode cX5_arrive 53 = .ok (.return_, 1) := by decide +kernel
set_option maxRecDepth 20000 in
theorem ggX5_revalue_X3_add : GoodIn wsX5_revalue wsX3_add := goodIn_r _ [8, 9, 10, 38, 39] (by decide +kernel) (by decide +kernel)
set_option maxRecDepth 20000 in
theorem gX5_revalue_X3_add : GoodIn wsX5_revalue (wsV RX5 110 RX3 yX3_add wsX3_add) := goodIn_app (goodIn_of _ (by decide +kernel)) ggX5_revalue_X3_add
set_option maxRecDepth 20000 in
theorem ggX5_revalue_X5_hearNews : GoodIn wsX5_revalue wsX5_hearNews := goodIn_r _ [15, 16, 17, 18, 19, 20, 14, 21, 22, 2, 23, 24, 25, 26, 27, 28, 29, 30, 31, 32, 33, 34, 35, 36, 37] (by decide +kernel) (by decide +kernel)
set_option maxRecDepth 20000 in
theorem gX5_revalue_X5_hearNews : GoodIn wsX5_revalue (wsV RX5 99 RX5 yX5_hearNews wsX5_hearNews) := goodIn_app (goodIn_of _ (by decide +kernel)) ggX5_revalue_X5_hearNews
theorem dX5_revalue_0 : decode cX5_revalue 0 = .ok (.aload_n 0, 1) := by decide +kernel
theorem dX5_revalue_1 : decode cX5_revalue 1 = .ok (.getfield 52, 3) := by decide +kernel
theorem dX5_revalue_4 : decode cX5_revalue 4 = .ok (.iload_n 1, 1) := by decide +kernel
theorem dX5_revalue_5 : decode cX5_revalue 5 = .ok (.iload_n 2, 1) := by decide +kernel
theorem dX5_revalue_6 : decode cX5_revalue 6 = .ok (.i2l, 1) := by decide +kernel
theorem dX5_revalue_7 : decode cX5_revalue 7 = .ok (.aload_n 0, 1) := by decide +kernel
theorem dX5_revalue_8 : decode cX5_revalue 8 = .ok (.getfield 24, 3) := by decide +kernel
theorem dX5_revalue_11 : decode cX5_revalue 11 = .ok (.iload_n 1, 1) := by decide +kernel
theorem dX5_revalue_12 : decode cX5_revalue 12 = .ok (.iaload, 1) := by decide +kernel
theorem dX5_revalue_13 : decode cX5_revalue 13 = .ok (.i2l, 1) := by decide +kernel
theorem dX5_revalue_14 : decode cX5_revalue 14 = .ok (.lsub, 1) := by decide +kernel
theorem dX5_revalue_15 : decode cX5_revalue 15 = .ok (.ldc2_w 93, 3) := by decide +kernel
theorem dX5_revalue_18 : decode cX5_revalue 18 = .ok (.lmul, 1) := by decide +kernel
theorem dX5_revalue_19 : decode cX5_revalue 19 = .ok (.lconst 0, 1) := by decide +kernel
theorem dX5_revalue_20 : decode cX5_revalue 20 = .ok (.invokevirtual 110, 3) := by decide +kernel
theorem dX5_revalue_23 : decode cX5_revalue 23 = .ok (.aload_n 0, 1) := by decide +kernel
theorem dX5_revalue_24 : decode cX5_revalue 24 = .ok (.getfield 24, 3) := by decide +kernel
theorem dX5_revalue_27 : decode cX5_revalue 27 = .ok (.iload_n 1, 1) := by decide +kernel
theorem dX5_revalue_28 : decode cX5_revalue 28 = .ok (.iload_n 2, 1) := by decide +kernel
theorem dX5_revalue_29 : decode cX5_revalue 29 = .ok (.iastore, 1) := by decide +kernel
theorem dX5_revalue_30 : decode cX5_revalue 30 = .ok (.aload_n 0, 1) := by decide +kernel
theorem dX5_revalue_31 : decode cX5_revalue 31 = .ok (.iload_n 1, 1) := by decide +kernel
theorem dX5_revalue_32 : decode cX5_revalue 32 = .ok (.invokevirtual 99, 3) := by decide +kernel
theorem dX5_revalue_35 : decode cX5_revalue 35 = .ok (.return_, 1) := by decide +kernel
theorem dX5_knowItselfAlone_0 : decode cX5_knowItselfAlone 0 = .ok (.aload_n 0, 1) := by decide +kernel
theorem dX5_knowItselfAlone_1 : decode cX5_knowItselfAlone 1 = .ok (.getfield 28, 3) := by decide +kernel
theorem dX5_knowItselfAlone_4 : decode cX5_knowItselfAlone 4 = .ok (.iload_n 1, 1) := by decide +kernel
theorem dX5_knowItselfAlone_5 : decode cX5_knowItselfAlone 5 = .ok (.aload_n 0, 1) := by decide +kernel
theorem dX5_knowItselfAlone_6 : decode cX5_knowItselfAlone 6 = .ok (.getfield 24, 3) := by decide +kernel
theorem dX5_knowItselfAlone_9 : decode cX5_knowItselfAlone 9 = .ok (.iload_n 1, 1) := by decide +kernel
theorem dX5_knowItselfAlone_10 : decode cX5_knowItselfAlone 10 = .ok (.iaload, 1) := by decide +kernel
theorem dX5_knowItselfAlone_11 : decode cX5_knowItselfAlone 11 = .ok (.iastore, 1) := by decide +kernel
theorem dX5_knowItselfAlone_12 : decode cX5_knowItselfAlone 12 = .ok (.aload_n 0, 1) := by decide +kernel
theorem dX5_knowItselfAlone_13 : decode cX5_knowItselfAlone 13 = .ok (.getfield 31, 3) := by decide +kernel
theorem dX5_knowItselfAlone_16 : decode cX5_knowItselfAlone 16 = .ok (.iload_n 1, 1) := by decide +kernel
theorem dX5_knowItselfAlone_17 : decode cX5_knowItselfAlone 17 = .ok (.aload_n 0, 1) := by decide +kernel
theorem dX5_knowItselfAlone_18 : decode cX5_knowItselfAlone 18 = .ok (.getfield 24, 3) := by decide +kernel
theorem dX5_knowItselfAlone_21 : decode cX5_knowItselfAlone 21 = .ok (.iload_n 1, 1) := by decide +kernel
theorem dX5_knowItselfAlone_22 : decode cX5_knowItselfAlone 22 = .ok (.iaload, 1) := by decide +kernel
theorem dX5_knowItselfAlone_23 : decode cX5_knowItselfAlone 23 = .ok (.iastore, 1) := by decide +kernel
theorem dX5_knowItselfAlone_24 : decode cX5_knowItselfAlone 24 = .ok (.aload_n 0, 1) := by decide +kernel
theorem dX5_knowItselfAlone_25 : decode cX5_knowItselfAlone 25 = .ok (.getfield 34, 3) := by decide +kernel
theorem dX5_knowItselfAlone_28 : decode cX5_knowItselfAlone 28 = .ok (.iload_n 1, 1) := by decide +kernel
theorem dX5_knowItselfAlone_29 : decode cX5_knowItselfAlone 29 = .ok (.iconst 1, 1) := by decide +kernel
theorem dX5_knowItselfAlone_30 : decode cX5_knowItselfAlone 30 = .ok (.iload_n 1, 1) := by decide +kernel
theorem dX5_knowItselfAlone_31 : decode cX5_knowItselfAlone 31 = .ok (.ishl, 1) := by decide +kernel
theorem dX5_knowItselfAlone_32 : decode cX5_knowItselfAlone 32 = .ok (.iastore, 1) := by decide +kernel
theorem dX5_knowItselfAlone_33 : decode cX5_knowItselfAlone 33 = .ok (.return_, 1) := by decide +kernel
set_option maxRecDepth 20000 in
theorem ggX5_hearNews_X5_knowItselfAlone : GoodIn wsX5_hearNews wsX5_knowItselfAlone := goodIn_r _ [7, 8, 9, 10, 2, 11, 12, 13, 14, 15, 16, 17, 18, 19, 20, 21, 22, 23, 24] (by decide +kernel) (by decide +kernel)
set_option maxRecDepth 20000 in
theorem gX5_hearNews_X5_knowItselfAlone : GoodIn wsX5_hearNews (wsV RX5 113 RX5 yX5_knowItselfAlone wsX5_knowItselfAlone) := goodIn_app (goodIn_of _ (by decide +kernel)) ggX5_hearNews_X5_knowItselfAlone
theorem dX5_hearNews_0 : decode cX5_hearNews 0 = .ok (.iconst 0, 1) := by decide +kernel
theorem dX5_hearNews_1 : decode cX5_hearNews 1 = .ok (.istore_n 2, 1) := by decide +kernel
theorem dX5_hearNews_2 : decode cX5_hearNews 2 = .ok (.iload_n 2, 1) := by decide +kernel
theorem dX5_hearNews_3 : decode cX5_hearNews 3 = .ok (.aload_n 0, 1) := by decide +kernel
theorem dX5_hearNews_4 : decode cX5_hearNews 4 = .ok (.getfield 9, 3) := by decide +kernel
theorem dX5_hearNews_7 : decode cX5_hearNews 7 = .ok (.if_icmp .ge 23, 3) := by decide +kernel
theorem dX5_hearNews_10 : decode cX5_hearNews 10 = .ok (.aload_n 0, 1) := by decide +kernel
theorem dX5_hearNews_11 : decode cX5_hearNews 11 = .ok (.getfield 34, 3) := by decide +kernel
theorem dX5_hearNews_14 : decode cX5_hearNews 14 = .ok (.iload_n 2, 1) := by decide +kernel
theorem dX5_hearNews_15 : decode cX5_hearNews 15 = .ok (.dup2, 1) := by decide +kernel
theorem dX5_hearNews_16 : decode cX5_hearNews 16 = .ok (.iaload, 1) := by decide +kernel
theorem dX5_hearNews_17 : decode cX5_hearNews 17 = .ok (.iconst 1, 1) := by decide +kernel
theorem dX5_hearNews_18 : decode cX5_hearNews 18 = .ok (.iload_n 1, 1) := by decide +kernel
theorem dX5_hearNews_19 : decode cX5_hearNews 19 = .ok (.ishl, 1) := by decide +kernel
theorem dX5_hearNews_20 : decode cX5_hearNews 20 = .ok (.iconst (-1), 1) := by decide +kernel
theorem dX5_hearNews_21 : decode cX5_hearNews 21 = .ok (.ixor, 1) := by decide +kernel
theorem dX5_hearNews_22 : decode cX5_hearNews 22 = .ok (.iand, 1) := by decide +kernel
theorem dX5_hearNews_23 : decode cX5_hearNews 23 = .ok (.iastore, 1) := by decide +kernel
theorem dX5_hearNews_24 : decode cX5_hearNews 24 = .ok (.iinc 2 1, 3) := by decide +kernel
theorem dX5_hearNews_27 : decode cX5_hearNews 27 = .ok (.goto (-25), 3) := by decide +kernel
theorem dX5_hearNews_30 : decode cX5_hearNews 30 = .ok (.aload_n 0, 1) := by decide +kernel
theorem dX5_hearNews_31 : decode cX5_hearNews 31 = .ok (.iload_n 1, 1) := by decide +kernel
theorem dX5_hearNews_32 : decode cX5_hearNews 32 = .ok (.invokevirtual 113, 3) := by decide +kernel
theorem dX5_hearNews_35 : decode cX5_hearNews 35 = .ok (.return_, 1) := by decide +kernel
set_option maxRecDepth 20000 in
theorem ggX5_strike_X1_countOf : GoodIn wsX5_strike wsX1_countOf := goodIn_r _ [10, 11, 12, 13, 9, 14, 15, 16, 17, 18, 19, 20, 81, 82, 83] (by decide +kernel) (by decide +kernel)
set_option maxRecDepth 20000 in
theorem gX5_strike_X1_countOf : GoodIn wsX5_strike (wsV RX5 116 RX1 yX1_countOf wsX1_countOf) := goodIn_app (goodIn_of _ (by decide +kernel)) ggX5_strike_X1_countOf
set_option maxRecDepth 20000 in
theorem ggX5_strike_X1_dropAllOf : GoodIn wsX5_strike wsX1_dropAllOf := goodIn_r _ [24, 11, 12, 13, 9, 14, 15, 16, 17, 18, 19, 20, 25, 26, 27, 28, 29, 30, 31, 32, 33, 34, 35, 36, 37, 38, 39, 40, 81, 82, 83, 84, 85] (by decide +kernel) (by decide +kernel)
set_option maxRecDepth 20000 in
theorem gX5_strike_X1_dropAllOf : GoodIn wsX5_strike (wsV RX5 119 RX1 yX1_dropAllOf wsX1_dropAllOf) := goodIn_app (goodIn_of _ (by decide +kernel)) ggX5_strike_X1_dropAllOf
set_option maxRecDepth 20000 in
theorem ggX5_strike_X5_isHere : GoodIn wsX5_strike wsX5_isHere := goodIn_r _ [45, 46, 67, 68, 69, 70, 71, 72, 73, 74, 75, 76, 77, 78, 79, 80] (by decide +kernel) (by decide +kernel)
set_option maxRecDepth 20000 in
theorem gX5_strike_X5_isHere : GoodIn wsX5_strike (wsV RX5 122 RX5 yX5_isHere wsX5_isHere) := goodIn_app (goodIn_of _ (by decide +kernel)) ggX5_strike_X5_isHere
set_option maxRecDepth 20000 in
theorem ggX5_strike_X7_pair : GoodIn wsX5_strike wsX7_pair := goodIn_r _ [49] (by decide +kernel) (by decide +kernel)
set_option maxRecDepth 20000 in
theorem gX5_strike_X7_pair_n126 : GoodIn wsX5_strike (wsX7_pair) := ggX5_strike_X7_pair
set_option maxRecDepth 20000 in
theorem ggX5_strike_X3_addFrom : GoodIn wsX5_strike wsX3_addFrom := goodIn_r _ [53, 39, 40, 54, 55, 56, 37, 57, 84, 85] (by decide +kernel) (by decide +kernel)
set_option maxRecDepth 20000 in
theorem gX5_strike_X3_addFrom : GoodIn wsX5_strike (wsV RX5 130 RX3 yX3_addFrom wsX3_addFrom) := goodIn_app (goodIn_of _ (by decide +kernel)) ggX5_strike_X3_addFrom
set_option maxRecDepth 20000 in
theorem ggX5_strike_X5_forget : GoodIn wsX5_strike wsX5_forget := goodIn_r _ [61, 2, 47, 48, 49, 62, 35, 36, 37, 38, 39, 40, 67, 68, 69, 70, 71, 72, 73, 74, 75, 76, 77, 78, 79, 80, 84, 85] (by decide +kernel) (by decide +kernel)
set_option maxRecDepth 20000 in
theorem gX5_strike_X5_forget : GoodIn wsX5_strike (wsV RX5 134 RX5 yX5_forget wsX5_forget) := goodIn_app (goodIn_of _ (by decide +kernel)) ggX5_strike_X5_forget
set_option maxRecDepth 20000 in
theorem ggX5_strike_X5_depart : GoodIn wsX5_strike wsX5_depart := goodIn_r _ [66, 46, 3, 62, 35, 36, 37, 38, 39, 40, 67, 68, 69, 70, 71, 72, 73, 74, 75, 76, 77, 78, 79, 80, 84, 85] (by decide +kernel) (by decide +kernel)
set_option maxRecDepth 20000 in
theorem gX5_strike_X5_depart : GoodIn wsX5_strike (wsV RX5 138 RX5 yX5_depart wsX5_depart) := goodIn_app (goodIn_of _ (by decide +kernel)) ggX5_strike_X5_depart
theorem dX5_strike_0 : decode cX5_strike 0 = .ok (.aload_n 0, 1) := by decide +kernel
theorem dX5_strike_1 : decode cX5_strike 1 = .ok (.getfield 65, 3) := by decide +kernel
theorem dX5_strike_4 : decode cX5_strike 4 = .ok (.iload_n 1, 1) := by decide +kernel
theorem dX5_strike_5 : decode cX5_strike 5 = .ok (.invokevirtual 116, 3) := by decide +kernel
theorem dX5_strike_8 : decode cX5_strike 8 = .ok (.istore_n 2, 1) := by decide +kernel
theorem dX5_strike_9 : decode cX5_strike 9 = .ok (.aload_n 0, 1) := by decide +kernel
theorem dX5_strike_10 : decode cX5_strike 10 = .ok (.getfield 65, 3) := by decide +kernel
theorem dX5_strike_13 : decode cX5_strike 13 = .ok (.iload_n 1, 1) := by decide +kernel
theorem dX5_strike_14 : decode cX5_strike 14 = .ok (.invokevirtual 119, 3) := by decide +kernel
theorem dX5_strike_17 : decode cX5_strike 17 = .ok (.iconst 0, 1) := by decide +kernel
theorem dX5_strike_18 : decode cX5_strike 18 = .ok (.istore_n 3, 1) := by decide +kernel
theorem dX5_strike_19 : decode cX5_strike 19 = .ok (.iload_n 3, 1) := by decide +kernel
theorem dX5_strike_20 : decode cX5_strike 20 = .ok (.aload_n 0, 1) := by decide +kernel
theorem dX5_strike_21 : decode cX5_strike 21 = .ok (.getfield 9, 3) := by decide +kernel
theorem dX5_strike_24 : decode cX5_strike 24 = .ok (.if_icmp .ge 39, 3) := by decide +kernel
theorem dX5_strike_27 : decode cX5_strike 27 = .ok (.iload_n 3, 1) := by decide +kernel
theorem dX5_strike_28 : decode cX5_strike 28 = .ok (.iload_n 1, 1) := by decide +kernel
theorem dX5_strike_29 : decode cX5_strike 29 = .ok (.if_icmp .eq 28, 3) := by decide +kernel
theorem dX5_strike_32 : decode cX5_strike 32 = .ok (.aload_n 0, 1) := by decide +kernel
theorem dX5_strike_33 : decode cX5_strike 33 = .ok (.iload_n 3, 1) := by decide +kernel
theorem dX5_strike_34 : decode cX5_strike 34 = .ok (.invokevirtual 122, 3) := by decide +kernel
theorem dX5_strike_37 : decode cX5_strike 37 = .ok (.ifCond .eq 20, 3) := by decide +kernel
theorem dX5_strike_40 : decode cX5_strike 40 = .ok (.aload_n 0, 1) := by decide +kernel
theorem dX5_strike_41 : decode cX5_strike 41 = .ok (.getfield 52, 3) := by decide +kernel
theorem dX5_strike_44 : decode cX5_strike 44 = .ok (.iload_n 3, 1) := by decide +kernel
theorem dX5_strike_45 : decode cX5_strike 45 = .ok (.aload_n 0, 1) := by decide +kernel
theorem dX5_strike_46 : decode cX5_strike 46 = .ok (.getfield 56, 3) := by decide +kernel
theorem dX5_strike_49 : decode cX5_strike 49 = .ok (.iload_n 3, 1) := by decide +kernel
theorem dX5_strike_50 : decode cX5_strike 50 = .ok (.iload_n 1, 1) := by decide +kernel
theorem dX5_strike_51 : decode cX5_strike 51 = .ok (.invokestatic 126, 3) := by decide +kernel
theorem dX5_strike_54 : decode cX5_strike 54 = .ok (.invokevirtual 130, 3) := by decide +kernel
theorem dX5_strike_57 : decode cX5_strike 57 = .ok (.iinc 3 1, 3) := by decide +kernel
theorem dX5_strike_60 : decode cX5_strike 60 = .ok (.goto (-41), 3) := by decide +kernel
theorem dX5_strike_63 : decode cX5_strike 63 = .ok (.aload_n 0, 1) := by decide +kernel
theorem dX5_strike_64 : decode cX5_strike 64 = .ok (.aload_n 0, 1) := by decide +kernel
theorem dX5_strike_65 : decode cX5_strike 65 = .ok (.getfield 56, 3) := by decide +kernel
theorem dX5_strike_68 : decode cX5_strike 68 = .ok (.iload_n 1, 1) := by decide +kernel
theorem dX5_strike_69 : decode cX5_strike 69 = .ok (.invokevirtual 134, 3) := by decide +kernel
theorem dX5_strike_72 : decode cX5_strike 72 = .ok (.aload_n 0, 1) := by decide +kernel
theorem dX5_strike_73 : decode cX5_strike 73 = .ok (.aload_n 0, 1) := by decide +kernel
theorem dX5_strike_74 : decode cX5_strike 74 = .ok (.getfield 59, 3) := by decide +kernel
theorem dX5_strike_77 : decode cX5_strike 77 = .ok (.iload_n 1, 1) := by decide +kernel
theorem dX5_strike_78 : decode cX5_strike 78 = .ok (.invokevirtual 134, 3) := by decide +kernel
theorem dX5_strike_81 : decode cX5_strike 81 = .ok (.aload_n 0, 1) := by decide +kernel
theorem dX5_strike_82 : decode cX5_strike 82 = .ok (.iload_n 1, 1) := by decide +kernel
theorem dX5_strike_83 : decode cX5_strike 83 = .ok (.invokevirtual 138, 3) := by decide +kernel
theorem dX5_strike_86 : decode cX5_strike 86 = .ok (.iload_n 2, 1) := by decide +kernel
theorem dX5_strike_87 : decode cX5_strike 87 = .ok (.ireturn, 1) := by decide +kernel
set_option maxRecDepth 20000 in
theorem ggX5_handOver_X3_addFrom : GoodIn wsX5_handOver wsX3_addFrom := goodIn_r _ [11, 12, 13, 14, 15, 16, 10, 17, 61, 62] (by decide +kernel) (by decide +kernel)
set_option maxRecDepth 20000 in
theorem gX5_handOver_X3_addFrom : GoodIn wsX5_handOver (wsV RX5 130 RX3 yX3_addFrom wsX3_addFrom) := goodIn_app (goodIn_of _ (by decide +kernel)) ggX5_handOver_X3_addFrom
set_option maxRecDepth 20000 in
theorem ggX5_handOver_X3_add : GoodIn wsX5_handOver wsX3_add := goodIn_r _ [17, 12, 13, 61, 62] (by decide +kernel) (by decide +kernel)
set_option maxRecDepth 20000 in
theorem gX5_handOver_X3_add : GoodIn wsX5_handOver (wsV RX5 110 RX3 yX3_add wsX3_add) := goodIn_app (goodIn_of _ (by decide +kernel)) ggX5_handOver_X3_add
set_option maxRecDepth 20000 in
theorem ggX5_handOver_X7_pair : GoodIn wsX5_handOver wsX7_pair := goodIn_r _ [21] (by decide +kernel) (by decide +kernel)
set_option maxRecDepth 20000 in
theorem gX5_handOver_X7_pair_n126 : GoodIn wsX5_handOver (wsX7_pair) := ggX5_handOver_X7_pair
set_option maxRecDepth 20000 in
theorem ggX5_handOver_X5_forget : GoodIn wsX5_handOver wsX5_forget := goodIn_r _ [26, 5, 19, 20, 21, 27, 28, 29, 10, 30, 12, 13, 47, 48, 49, 50, 51, 52, 53, 54, 55, 56, 57, 58, 59, 60, 61, 62] (by decide +kernel) (by decide +kernel)
set_option maxRecDepth 20000 in
theorem gX5_handOver_X5_forget : GoodIn wsX5_handOver (wsV RX5 134 RX5 yX5_forget wsX5_forget) := goodIn_app (goodIn_of _ (by decide +kernel)) ggX5_handOver_X5_forget
set_option maxRecDepth 20000 in
theorem ggX5_handOver_X5_passOnOwed : GoodIn wsX5_handOver wsX5_passOnOwed := goodIn_r _ [34, 5, 35, 19, 20, 21, 36, 37, 38, 10, 39, 40, 8, 9, 11, 12, 13, 14, 15, 16, 17, 41, 28, 29, 30, 47, 48, 49, 50, 51, 52, 53, 54, 55, 56, 57, 58, 59, 60, 61, 62] (by decide +kernel) (by decide +kernel)
set_option maxRecDepth 20000 in
theorem gX5_handOver_X5_passOnOwed : GoodIn wsX5_handOver (wsV RX5 143 RX5 yX5_passOnOwed wsX5_passOnOwed) := goodIn_app (goodIn_of _ (by decide +kernel)) ggX5_handOver_X5_passOnOwed
set_option maxRecDepth 20000 in
theorem ggX5_handOver_X5_depart : GoodIn wsX5_handOver wsX5_depart := goodIn_r _ [45, 46, 1, 27, 28, 29, 10, 30, 12, 13, 47, 48, 49, 50, 51, 52, 53, 54, 55, 56, 57, 58, 59, 60, 61, 62] (by decide +kernel) (by decide +kernel)
set_option maxRecDepth 20000 in
theorem gX5_handOver_X5_depart : GoodIn wsX5_handOver (wsV RX5 138 RX5 yX5_depart wsX5_depart) := goodIn_app (goodIn_of _ (by decide +kernel)) ggX5_handOver_X5_depart
theorem dX5_handOver_0 : decode cX5_handOver 0 = .ok (.aload_n 0, 1) := by decide +kernel
theorem dX5_handOver_1 : decode cX5_handOver 1 = .ok (.getfield 52, 3) := by decide +kernel
theorem dX5_handOver_4 : decode cX5_handOver 4 = .ok (.iload_n 2, 1) := by decide +kernel
theorem dX5_handOver_5 : decode cX5_handOver 5 = .ok (.aload_n 0, 1) := by decide +kernel
theorem dX5_handOver_6 : decode cX5_handOver 6 = .ok (.getfield 52, 3) := by decide +kernel
theorem dX5_handOver_9 : decode cX5_handOver 9 = .ok (.iload_n 1, 1) := by decide +kernel
theorem dX5_handOver_10 : decode cX5_handOver 10 = .ok (.invokevirtual 130, 3) := by decide +kernel
theorem dX5_handOver_13 : decode cX5_handOver 13 = .ok (.aload_n 0, 1) := by decide +kernel
theorem dX5_handOver_14 : decode cX5_handOver 14 = .ok (.getfield 52, 3) := by decide +kernel
theorem dX5_handOver_17 : decode cX5_handOver 17 = .ok (.iload_n 2, 1) := by decide +kernel
theorem dX5_handOver_18 : decode cX5_handOver 18 = .ok (.aload_n 0, 1) := by decide +kernel
theorem dX5_handOver_19 : decode cX5_handOver 19 = .ok (.getfield 24, 3) := by decide +kernel
theorem dX5_handOver_22 : decode cX5_handOver 22 = .ok (.iload_n 1, 1) := by decide +kernel
theorem dX5_handOver_23 : decode cX5_handOver 23 = .ok (.iaload, 1) := by decide +kernel
theorem dX5_handOver_24 : decode cX5_handOver 24 = .ok (.i2l, 1) := by decide +kernel
theorem dX5_handOver_25 : decode cX5_handOver 25 = .ok (.ldc2_w 93, 3) := by decide +kernel
theorem dX5_handOver_28 : decode cX5_handOver 28 = .ok (.lmul, 1) := by decide +kernel
theorem dX5_handOver_29 : decode cX5_handOver 29 = .ok (.lneg, 1) := by decide +kernel
theorem dX5_handOver_30 : decode cX5_handOver 30 = .ok (.ldc2_w 141, 3) := by decide +kernel
theorem dX5_handOver_33 : decode cX5_handOver 33 = .ok (.invokevirtual 110, 3) := by decide +kernel
theorem dX5_handOver_36 : decode cX5_handOver 36 = .ok (.iconst 0, 1) := by decide +kernel
theorem dX5_handOver_37 : decode cX5_handOver 37 = .ok (.istore_n 3, 1) := by decide +kernel
theorem dX5_handOver_38 : decode cX5_handOver 38 = .ok (.iload_n 3, 1) := by decide +kernel
theorem dX5_handOver_39 : decode cX5_handOver 39 = .ok (.aload_n 0, 1) := by decide +kernel
theorem dX5_handOver_40 : decode cX5_handOver 40 = .ok (.getfield 9, 3) := by decide +kernel
theorem dX5_handOver_43 : decode cX5_handOver 43 = .ok (.if_icmp .ge 61, 3) := by decide +kernel
theorem dX5_handOver_46 : decode cX5_handOver 46 = .ok (.iload_n 3, 1) := by decide +kernel
theorem dX5_handOver_47 : decode cX5_handOver 47 = .ok (.iload_n 1, 1) := by decide +kernel
theorem dX5_handOver_48 : decode cX5_handOver 48 = .ok (.if_icmp .eq 50, 3) := by decide +kernel
theorem dX5_handOver_51 : decode cX5_handOver 51 = .ok (.iload_n 3, 1) := by decide +kernel
theorem dX5_handOver_52 : decode cX5_handOver 52 = .ok (.iload_n 2, 1) := by decide +kernel
theorem dX5_handOver_53 : decode cX5_handOver 53 = .ok (.if_icmp .eq 45, 3) := by decide +kernel
theorem dX5_handOver_56 : decode cX5_handOver 56 = .ok (.aload_n 0, 1) := by decide +kernel
theorem dX5_handOver_57 : decode cX5_handOver 57 = .ok (.getfield 56, 3) := by decide +kernel
theorem dX5_handOver_60 : decode cX5_handOver 60 = .ok (.iload_n 3, 1) := by decide +kernel
theorem dX5_handOver_61 : decode cX5_handOver 61 = .ok (.iload_n 2, 1) := by decide +kernel
theorem dX5_handOver_62 : decode cX5_handOver 62 = .ok (.invokestatic 126, 3) := by decide +kernel
theorem dX5_handOver_65 : decode cX5_handOver 65 = .ok (.aload_n 0, 1) := by decide +kernel
theorem dX5_handOver_66 : decode cX5_handOver 66 = .ok (.getfield 56, 3) := by decide +kernel
theorem dX5_handOver_69 : decode cX5_handOver 69 = .ok (.iload_n 3, 1) := by decide +kernel
theorem dX5_handOver_70 : decode cX5_handOver 70 = .ok (.iload_n 1, 1) := by decide +kernel
theorem dX5_handOver_71 : decode cX5_handOver 71 = .ok (.invokestatic 126, 3) := by decide +kernel
theorem dX5_handOver_74 : decode cX5_handOver 74 = .ok (.invokevirtual 130, 3) := by decide +kernel
theorem dX5_handOver_77 : decode cX5_handOver 77 = .ok (.aload_n 0, 1) := by decide +kernel
theorem dX5_handOver_78 : decode cX5_handOver 78 = .ok (.getfield 56, 3) := by decide +kernel
theorem dX5_handOver_81 : decode cX5_handOver 81 = .ok (.iload_n 2, 1) := by decide +kernel
theorem dX5_handOver_82 : decode cX5_handOver 82 = .ok (.iload_n 3, 1) := by decide +kernel
theorem dX5_handOver_83 : decode cX5_handOver 83 = .ok (.invokestatic 126, 3) := by decide +kernel
theorem dX5_handOver_86 : decode cX5_handOver 86 = .ok (.aload_n 0, 1) := by decide +kernel
theorem dX5_handOver_87 : decode cX5_handOver 87 = .ok (.getfield 56, 3) := by decide +kernel
theorem dX5_handOver_90 : decode cX5_handOver 90 = .ok (.iload_n 1, 1) := by decide +kernel
theorem dX5_handOver_91 : decode cX5_handOver 91 = .ok (.iload_n 3, 1) := by decide +kernel
theorem dX5_handOver_92 : decode cX5_handOver 92 = .ok (.invokestatic 126, 3) := by decide +kernel
theorem dX5_handOver_95 : decode cX5_handOver 95 = .ok (.invokevirtual 130, 3) := by decide +kernel
theorem dX5_handOver_98 : decode cX5_handOver 98 = .ok (.iinc 3 1, 3) := by decide +kernel
theorem dX5_handOver_101 : decode cX5_handOver 101 = .ok (.goto (-63), 3) := by decide +kernel
theorem dX5_handOver_104 : decode cX5_handOver 104 = .ok (.aload_n 0, 1) := by decide +kernel
theorem dX5_handOver_105 : decode cX5_handOver 105 = .ok (.aload_n 0, 1) := by decide +kernel
theorem dX5_handOver_106 : decode cX5_handOver 106 = .ok (.getfield 56, 3) := by decide +kernel
theorem dX5_handOver_109 : decode cX5_handOver 109 = .ok (.iload_n 1, 1) := by decide +kernel
theorem dX5_handOver_110 : decode cX5_handOver 110 = .ok (.invokevirtual 134, 3) := by decide +kernel
theorem dX5_handOver_113 : decode cX5_handOver 113 = .ok (.aload_n 0, 1) := by decide +kernel
theorem dX5_handOver_114 : decode cX5_handOver 114 = .ok (.iload_n 1, 1) := by decide +kernel
theorem dX5_handOver_115 : decode cX5_handOver 115 = .ok (.iload_n 2, 1) := by decide +kernel
theorem dX5_handOver_116 : decode cX5_handOver 116 = .ok (.invokevirtual 143, 3) := by decide +kernel
theorem dX5_handOver_119 : decode cX5_handOver 119 = .ok (.aload_n 0, 1) := by decide +kernel
theorem dX5_handOver_120 : decode cX5_handOver 120 = .ok (.iload_n 1, 1) := by decide +kernel
theorem dX5_handOver_121 : decode cX5_handOver 121 = .ok (.invokevirtual 138, 3) := by decide +kernel
theorem dX5_handOver_124 : decode cX5_handOver 124 = .ok (.return_, 1) := by decide +kernel
set_option maxRecDepth 20000 in
theorem ggX5_passOnOwed_X7_pair : GoodIn wsX5_passOnOwed wsX7_pair := goodIn_r _ [5] (by decide +kernel) (by decide +kernel)
set_option maxRecDepth 20000 in
theorem gX5_passOnOwed_X7_pair_n126 : GoodIn wsX5_passOnOwed (wsX7_pair) := ggX5_passOnOwed_X7_pair
set_option maxRecDepth 20000 in
theorem ggX5_passOnOwed_X3_move : GoodIn wsX5_passOnOwed wsX3_move := goodIn_r _ [10, 11, 12, 13, 9, 14, 15, 16, 17, 18, 19, 20, 21, 22, 23, 24, 39, 40] (by decide +kernel) (by decide +kernel)
set_option maxRecDepth 20000 in
theorem gX5_passOnOwed_X3_move : GoodIn wsX5_passOnOwed (wsV RX5 146 RX3 yX3_move wsX3_move) := goodIn_app (goodIn_of _ (by decide +kernel)) ggX5_passOnOwed_X3_move
theorem dX5_passOnOwed_0 : decode cX5_passOnOwed 0 = .ok (.iconst 0, 1) := by decide +kernel
theorem dX5_passOnOwed_1 : decode cX5_passOnOwed 1 = .ok (.istore_n 3, 1) := by decide +kernel
theorem dX5_passOnOwed_2 : decode cX5_passOnOwed 2 = .ok (.iload_n 3, 1) := by decide +kernel
theorem dX5_passOnOwed_3 : decode cX5_passOnOwed 3 = .ok (.aload_n 0, 1) := by decide +kernel
theorem dX5_passOnOwed_4 : decode cX5_passOnOwed 4 = .ok (.getfield 9, 3) := by decide +kernel
theorem dX5_passOnOwed_7 : decode cX5_passOnOwed 7 = .ok (.if_icmp .ge 26, 3) := by decide +kernel
theorem dX5_passOnOwed_10 : decode cX5_passOnOwed 10 = .ok (.aload_n 0, 1) := by decide +kernel
theorem dX5_passOnOwed_11 : decode cX5_passOnOwed 11 = .ok (.getfield 59, 3) := by decide +kernel
theorem dX5_passOnOwed_14 : decode cX5_passOnOwed 14 = .ok (.iload_n 1, 1) := by decide +kernel
theorem dX5_passOnOwed_15 : decode cX5_passOnOwed 15 = .ok (.iload_n 3, 1) := by decide +kernel
theorem dX5_passOnOwed_16 : decode cX5_passOnOwed 16 = .ok (.invokestatic 126, 3) := by decide +kernel
theorem dX5_passOnOwed_19 : decode cX5_passOnOwed 19 = .ok (.iload_n 2, 1) := by decide +kernel
theorem dX5_passOnOwed_20 : decode cX5_passOnOwed 20 = .ok (.iload_n 3, 1) := by decide +kernel
theorem dX5_passOnOwed_21 : decode cX5_passOnOwed 21 = .ok (.invokestatic 126, 3) := by decide +kernel
theorem dX5_passOnOwed_24 : decode cX5_passOnOwed 24 = .ok (.invokevirtual 146, 3) := by decide +kernel
theorem dX5_passOnOwed_27 : decode cX5_passOnOwed 27 = .ok (.iinc 3 1, 3) := by decide +kernel
theorem dX5_passOnOwed_30 : decode cX5_passOnOwed 30 = .ok (.goto (-28), 3) := by decide +kernel
theorem dX5_passOnOwed_33 : decode cX5_passOnOwed 33 = .ok (.iconst 0, 1) := by decide +kernel
theorem dX5_passOnOwed_34 : decode cX5_passOnOwed 34 = .ok (.istore_n 3, 1) := by decide +kernel
theorem dX5_passOnOwed_35 : decode cX5_passOnOwed 35 = .ok (.iload_n 3, 1) := by decide +kernel
theorem dX5_passOnOwed_36 : decode cX5_passOnOwed 36 = .ok (.aload_n 0, 1) := by decide +kernel
theorem dX5_passOnOwed_37 : decode cX5_passOnOwed 37 = .ok (.getfield 9, 3) := by decide +kernel
theorem dX5_passOnOwed_40 : decode cX5_passOnOwed 40 = .ok (.if_icmp .ge 26, 3) := by decide +kernel
theorem dX5_passOnOwed_43 : decode cX5_passOnOwed 43 = .ok (.aload_n 0, 1) := by decide +kernel
theorem dX5_passOnOwed_44 : decode cX5_passOnOwed 44 = .ok (.getfield 59, 3) := by decide +kernel
theorem dX5_passOnOwed_47 : decode cX5_passOnOwed 47 = .ok (.iload_n 3, 1) := by decide +kernel
theorem dX5_passOnOwed_48 : decode cX5_passOnOwed 48 = .ok (.iload_n 1, 1) := by decide +kernel
theorem dX5_passOnOwed_49 : decode cX5_passOnOwed 49 = .ok (.invokestatic 126, 3) := by decide +kernel
theorem dX5_passOnOwed_52 : decode cX5_passOnOwed 52 = .ok (.iload_n 3, 1) := by decide +kernel
theorem dX5_passOnOwed_53 : decode cX5_passOnOwed 53 = .ok (.iload_n 2, 1) := by decide +kernel
theorem dX5_passOnOwed_54 : decode cX5_passOnOwed 54 = .ok (.invokestatic 126, 3) := by decide +kernel
theorem dX5_passOnOwed_57 : decode cX5_passOnOwed 57 = .ok (.invokevirtual 146, 3) := by decide +kernel
theorem dX5_passOnOwed_60 : decode cX5_passOnOwed 60 = .ok (.iinc 3 1, 3) := by decide +kernel
theorem dX5_passOnOwed_63 : decode cX5_passOnOwed 63 = .ok (.goto (-28), 3) := by decide +kernel
theorem dX5_passOnOwed_66 : decode cX5_passOnOwed 66 = .ok (.return_, 1) := by decide +kernel
set_option maxRecDepth 20000 in
theorem ggX5_forget_X7_pair : GoodIn wsX5_forget wsX7_pair := goodIn_r _ [4] (by decide +kernel) (by decide +kernel)
set_option maxRecDepth 20000 in
theorem gX5_forget_X7_pair_n126 : GoodIn wsX5_forget (wsX7_pair) := ggX5_forget_X7_pair
set_option maxRecDepth 20000 in
theorem ggX5_forget_X3_put : GoodIn wsX5_forget wsX3_put := goodIn_r _ [9, 10, 11, 26, 27] (by decide +kernel) (by decide +kernel)
set_option maxRecDepth 20000 in
theorem gX5_forget_X3_put : GoodIn wsX5_forget (wsV RX5 95 RX3 yX3_put wsX3_put) := goodIn_app (goodIn_of _ (by decide +kernel)) ggX5_forget_X3_put
theorem dX5_forget_0 : decode cX5_forget 0 = .ok (.iconst 0, 1) := by decide +kernel
theorem dX5_forget_1 : decode cX5_forget 1 = .ok (.istore_n 3, 1) := by decide +kernel
theorem dX5_forget_2 : decode cX5_forget 2 = .ok (.iload_n 3, 1) := by decide +kernel
theorem dX5_forget_3 : decode cX5_forget 3 = .ok (.aload_n 0, 1) := by decide +kernel
theorem dX5_forget_4 : decode cX5_forget 4 = .ok (.getfield 9, 3) := by decide +kernel
theorem dX5_forget_7 : decode cX5_forget 7 = .ok (.if_icmp .ge 31, 3) := by decide +kernel
theorem dX5_forget_10 : decode cX5_forget 10 = .ok (.aload_n 1, 1) := by decide +kernel
theorem dX5_forget_11 : decode cX5_forget 11 = .ok (.iload_n 2, 1) := by decide +kernel
theorem dX5_forget_12 : decode cX5_forget 12 = .ok (.iload_n 3, 1) := by decide +kernel
theorem dX5_forget_13 : decode cX5_forget 13 = .ok (.invokestatic 126, 3) := by decide +kernel
theorem dX5_forget_16 : decode cX5_forget 16 = .ok (.lconst 0, 1) := by decide +kernel
theorem dX5_forget_17 : decode cX5_forget 17 = .ok (.lconst 0, 1) := by decide +kernel
theorem dX5_forget_18 : decode cX5_forget 18 = .ok (.invokevirtual 95, 3) := by decide +kernel
theorem dX5_forget_21 : decode cX5_forget 21 = .ok (.aload_n 1, 1) := by decide +kernel
theorem dX5_forget_22 : decode cX5_forget 22 = .ok (.iload_n 3, 1) := by decide +kernel
theorem dX5_forget_23 : decode cX5_forget 23 = .ok (.iload_n 2, 1) := by decide +kernel
theorem dX5_forget_24 : decode cX5_forget 24 = .ok (.invokestatic 126, 3) := by decide +kernel
theorem dX5_forget_27 : decode cX5_forget 27 = .ok (.lconst 0, 1) := by decide +kernel
theorem dX5_forget_28 : decode cX5_forget 28 = .ok (.lconst 0, 1) := by decide +kernel
theorem dX5_forget_29 : decode cX5_forget 29 = .ok (.invokevirtual 95, 3) := by decide +kernel
theorem dX5_forget_32 : decode cX5_forget 32 = .ok (.iinc 3 1, 3) := by decide +kernel
theorem dX5_forget_35 : decode cX5_forget 35 = .ok (.goto (-33), 3) := by decide +kernel
theorem dX5_forget_38 : decode cX5_forget 38 = .ok (.return_, 1) := by decide +kernel
set_option maxRecDepth 20000 in
theorem ggX5_depart_X3_put : GoodIn wsX5_depart wsX3_put := goodIn_r _ [7, 8, 9, 24, 25] (by decide +kernel) (by decide +kernel)
set_option maxRecDepth 20000 in
theorem gX5_depart_X3_put : GoodIn wsX5_depart (wsV RX5 95 RX3 yX3_put wsX3_put) := goodIn_app (goodIn_of _ (by decide +kernel)) ggX5_depart_X3_put
theorem dX5_depart_0 : decode cX5_depart 0 = .ok (.aload_n 0, 1) := by decide +kernel
theorem dX5_depart_1 : decode cX5_depart 1 = .ok (.dup, 1) := by decide +kernel
theorem dX5_depart_2 : decode cX5_depart 2 = .ok (.getfield 15, 3) := by decide +kernel
theorem dX5_depart_5 : decode cX5_depart 5 = .ok (.iconst 1, 1) := by decide +kernel
theorem dX5_depart_6 : decode cX5_depart 6 = .ok (.iload_n 1, 1) := by decide +kernel
theorem dX5_depart_7 : decode cX5_depart 7 = .ok (.ishl, 1) := by decide +kernel
theorem dX5_depart_8 : decode cX5_depart 8 = .ok (.iconst (-1), 1) := by decide +kernel
theorem dX5_depart_9 : decode cX5_depart 9 = .ok (.ixor, 1) := by decide +kernel
theorem dX5_depart_10 : decode cX5_depart 10 = .ok (.iand, 1) := by decide +kernel
theorem dX5_depart_11 : decode cX5_depart 11 = .ok (.putfield 15, 3) := by decide +kernel
theorem dX5_depart_14 : decode cX5_depart 14 = .ok (.aload_n 0, 1) := by decide +kernel
theorem dX5_depart_15 : decode cX5_depart 15 = .ok (.getfield 52, 3) := by decide +kernel
theorem dX5_depart_18 : decode cX5_depart 18 = .ok (.iload_n 1, 1) := by decide +kernel
theorem dX5_depart_19 : decode cX5_depart 19 = .ok (.lconst 0, 1) := by decide +kernel
theorem dX5_depart_20 : decode cX5_depart 20 = .ok (.lconst 0, 1) := by decide +kernel
theorem dX5_depart_21 : decode cX5_depart 21 = .ok (.invokevirtual 95, 3) := by decide +kernel
theorem dX5_depart_24 : decode cX5_depart 24 = .ok (.return_, 1) := by decide +kernel
set_option maxRecDepth 20000 in
theorem ggX5_converse_X5_evenByBooks : GoodIn wsX5_converse wsX5_evenByBooks := goodIn_r _ [7, 8, 9, 10, 11, 12, 13, 14, 15, 16, 17, 18, 19, 20, 21, 22, 23, 24, 25, 26, 27, 28, 29, 76, 77, 78, 79, 80, 81, 82, 83, 84, 85, 86, 87, 88, 89, 90, 91] (by decide +kernel) (by decide +kernel)
set_option maxRecDepth 20000 in
theorem gX5_converse_X5_evenByBooks : GoodIn wsX5_converse (wsV RX5 149 RX5 yX5_evenByBooks wsX5_evenByBooks) := goodIn_app (goodIn_of _ (by decide +kernel)) ggX5_converse_X5_evenByBooks
set_option maxRecDepth 20000 in
theorem ggX5_converse_X5_shareGreatest : GoodIn wsX5_converse wsX5_shareGreatest := goodIn_r _ [33, 34, 35, 36, 37, 38, 39, 40, 41, 42, 43, 76, 77, 78, 79, 80, 81, 82, 83, 84, 85, 86, 87, 88, 89] (by decide +kernel) (by decide +kernel)
set_option maxRecDepth 20000 in
theorem gX5_converse_X5_shareGreatest : GoodIn wsX5_converse (wsV RX5 152 RX5 yX5_shareGreatest wsX5_shareGreatest) := goodIn_app (goodIn_of _ (by decide +kernel)) ggX5_converse_X5_shareGreatest
set_option maxRecDepth 20000 in
theorem ggX5_converse_X6_share : GoodIn wsX5_converse wsX6_share := goodIn_r _ [48, 49, 50, 51, 52, 53, 47, 54, 55, 56, 57, 58, 59, 60, 61, 62, 63, 64, 65, 66, 67, 68, 69, 70, 71, 72, 73, 74, 75, 92, 93, 94] (by decide +kernel) (by decide +kernel)
set_option maxRecDepth 20000 in
theorem gX5_converse_X6_share : GoodIn wsX5_converse (wsV RX5 155 RX6 yX6_share wsX6_share) := goodIn_app (goodIn_of _ (by decide +kernel)) ggX5_converse_X6_share
theorem dX5_converse_0 : decode cX5_converse 0 = .ok (.aload_n 0, 1) := by decide +kernel
theorem dX5_converse_1 : decode cX5_converse 1 = .ok (.dup, 1) := by decide +kernel
theorem dX5_converse_2 : decode cX5_converse 2 = .ok (.getfield 21, 3) := by decide +kernel
theorem dX5_converse_5 : decode cX5_converse 5 = .ok (.iconst 1, 1) := by decide +kernel
theorem dX5_converse_6 : decode cX5_converse 6 = .ok (.iadd, 1) := by decide +kernel
theorem dX5_converse_7 : decode cX5_converse 7 = .ok (.putfield 21, 3) := by decide +kernel
theorem dX5_converse_10 : decode cX5_converse 10 = .ok (.iload_n 1, 1) := by decide +kernel
theorem dX5_converse_11 : decode cX5_converse 11 = .ok (.lookupswitch 43 #[(0, 25), (1, 34)], 25) := by decide +kernel
theorem dX5_converse_36 : decode cX5_converse 36 = .ok (.aload_n 0, 1) := by decide +kernel
theorem dX5_converse_37 : decode cX5_converse 37 = .ok (.iload_n 2, 1) := by decide +kernel
theorem dX5_converse_38 : decode cX5_converse 38 = .ok (.iload_n 3, 1) := by decide +kernel
theorem dX5_converse_39 : decode cX5_converse 39 = .ok (.invokevirtual 149, 3) := by decide +kernel
theorem dX5_converse_42 : decode cX5_converse 42 = .ok (.goto 21, 3) := by decide +kernel
theorem dX5_converse_45 : decode cX5_converse 45 = .ok (.aload_n 0, 1) := by decide +kernel
theorem dX5_converse_46 : decode cX5_converse 46 = .ok (.iload_n 2, 1) := by decide +kernel
theorem dX5_converse_47 : decode cX5_converse 47 = .ok (.iload_n 3, 1) := by decide +kernel
theorem dX5_converse_48 : decode cX5_converse 48 = .ok (.invokevirtual 152, 3) := by decide +kernel
theorem dX5_converse_51 : decode cX5_converse 51 = .ok (.goto 12, 3) := by decide +kernel
theorem dX5_converse_54 : decode cX5_converse 54 = .ok (.aload_n 0, 1) := by decide +kernel
theorem dX5_converse_55 : decode cX5_converse 55 = .ok (.getfield 43, 3) := by decide +kernel
theorem dX5_converse_58 : decode cX5_converse 58 = .ok (.iload_n 2, 1) := by decide +kernel
theorem dX5_converse_59 : decode cX5_converse 59 = .ok (.iload_n 3, 1) := by decide +kernel
theorem dX5_converse_60 : decode cX5_converse 60 = .ok (.invokevirtual 155, 3) := by decide +kernel
theorem dX5_converse_63 : decode cX5_converse 63 = .ok (.return_, 1) := by decide +kernel
set_option maxRecDepth 20000 in
theorem ggX5_evenByBooks_X3_even : GoodIn wsX5_evenByBooks wsX3_even := goodIn_r _ [9, 10, 11, 12, 13, 14, 8, 15, 37, 38] (by decide +kernel) (by decide +kernel)
set_option maxRecDepth 20000 in
theorem gX5_evenByBooks_X3_even : GoodIn wsX5_evenByBooks (wsV RX5 165 RX3 yX3_even wsX3_even) := goodIn_app (goodIn_of _ (by decide +kernel)) ggX5_evenByBooks_X3_even
set_option maxRecDepth 20000 in
theorem ggX5_evenByBooks_X7_pair : GoodIn wsX5_evenByBooks wsX7_pair := goodIn_r _ [18] (by decide +kernel) (by decide +kernel)
set_option maxRecDepth 20000 in
theorem gX5_evenByBooks_X7_pair_n126 : GoodIn wsX5_evenByBooks (wsX7_pair) := ggX5_evenByBooks_X7_pair
set_option maxRecDepth 20000 in
theorem ggX5_evenByBooks_X3_add : GoodIn wsX5_evenByBooks wsX3_add := goodIn_r _ [22, 10, 11, 37, 38] (by decide +kernel) (by decide +kernel)
set_option maxRecDepth 20000 in
theorem gX5_evenByBooks_X3_add : GoodIn wsX5_evenByBooks (wsV RX5 110 RX3 yX3_add wsX3_add) := goodIn_app (goodIn_of _ (by decide +kernel)) ggX5_evenByBooks_X3_add
theorem dX5_evenByBooks_0 : decode cX5_evenByBooks 0 = .ok (.aload_n 0, 1) := by decide +kernel
theorem dX5_evenByBooks_1 : decode cX5_evenByBooks 1 = .ok (.getfield 52, 3) := by decide +kernel
theorem dX5_evenByBooks_4 : decode cX5_evenByBooks 4 = .ok (.getfield 158, 3) := by decide +kernel
theorem dX5_evenByBooks_7 : decode cX5_evenByBooks 7 = .ok (.iload_n 1, 1) := by decide +kernel
theorem dX5_evenByBooks_8 : decode cX5_evenByBooks 8 = .ok (.laload, 1) := by decide +kernel
theorem dX5_evenByBooks_9 : decode cX5_evenByBooks 9 = .ok (.lstore_n 3, 1) := by decide +kernel
theorem dX5_evenByBooks_10 : decode cX5_evenByBooks 10 = .ok (.aload_n 0, 1) := by decide +kernel
theorem dX5_evenByBooks_11 : decode cX5_evenByBooks 11 = .ok (.getfield 52, 3) := by decide +kernel
theorem dX5_evenByBooks_14 : decode cX5_evenByBooks 14 = .ok (.getfield 162, 3) := by decide +kernel
theorem dX5_evenByBooks_17 : decode cX5_evenByBooks 17 = .ok (.iload_n 1, 1) := by decide +kernel
theorem dX5_evenByBooks_18 : decode cX5_evenByBooks 18 = .ok (.laload, 1) := by decide +kernel
theorem dX5_evenByBooks_19 : decode cX5_evenByBooks 19 = .ok (.lstore 5, 2) := by decide +kernel
theorem dX5_evenByBooks_21 : decode cX5_evenByBooks 21 = .ok (.aload_n 0, 1) := by decide +kernel
theorem dX5_evenByBooks_22 : decode cX5_evenByBooks 22 = .ok (.getfield 52, 3) := by decide +kernel
theorem dX5_evenByBooks_25 : decode cX5_evenByBooks 25 = .ok (.getfield 158, 3) := by decide +kernel
theorem dX5_evenByBooks_28 : decode cX5_evenByBooks 28 = .ok (.iload_n 2, 1) := by decide +kernel
theorem dX5_evenByBooks_29 : decode cX5_evenByBooks 29 = .ok (.laload, 1) := by decide +kernel
theorem dX5_evenByBooks_30 : decode cX5_evenByBooks 30 = .ok (.lstore 7, 2) := by decide +kernel
theorem dX5_evenByBooks_32 : decode cX5_evenByBooks 32 = .ok (.aload_n 0, 1) := by decide +kernel
theorem dX5_evenByBooks_33 : decode cX5_evenByBooks 33 = .ok (.getfield 52, 3) := by decide +kernel
theorem dX5_evenByBooks_36 : decode cX5_evenByBooks 36 = .ok (.getfield 162, 3) := by decide +kernel
theorem dX5_evenByBooks_39 : decode cX5_evenByBooks 39 = .ok (.iload_n 2, 1) := by decide +kernel
theorem dX5_evenByBooks_40 : decode cX5_evenByBooks 40 = .ok (.laload, 1) := by decide +kernel
theorem dX5_evenByBooks_41 : decode cX5_evenByBooks 41 = .ok (.lstore 9, 2) := by decide +kernel
theorem dX5_evenByBooks_43 : decode cX5_evenByBooks 43 = .ok (.aload_n 0, 1) := by decide +kernel
theorem dX5_evenByBooks_44 : decode cX5_evenByBooks 44 = .ok (.getfield 52, 3) := by decide +kernel
theorem dX5_evenByBooks_47 : decode cX5_evenByBooks 47 = .ok (.iload_n 1, 1) := by decide +kernel
theorem dX5_evenByBooks_48 : decode cX5_evenByBooks 48 = .ok (.iload_n 2, 1) := by decide +kernel
theorem dX5_evenByBooks_49 : decode cX5_evenByBooks 49 = .ok (.invokevirtual 165, 3) := by decide +kernel
theorem dX5_evenByBooks_52 : decode cX5_evenByBooks 52 = .ok (.aload_n 0, 1) := by decide +kernel
theorem dX5_evenByBooks_53 : decode cX5_evenByBooks 53 = .ok (.getfield 56, 3) := by decide +kernel
theorem dX5_evenByBooks_56 : decode cX5_evenByBooks 56 = .ok (.iload_n 1, 1) := by decide +kernel
theorem dX5_evenByBooks_57 : decode cX5_evenByBooks 57 = .ok (.iload_n 2, 1) := by decide +kernel
theorem dX5_evenByBooks_58 : decode cX5_evenByBooks 58 = .ok (.invokestatic 126, 3) := by decide +kernel
theorem dX5_evenByBooks_61 : decode cX5_evenByBooks 61 = .ok (.aload_n 0, 1) := by decide +kernel
theorem dX5_evenByBooks_62 : decode cX5_evenByBooks 62 = .ok (.getfield 52, 3) := by decide +kernel
theorem dX5_evenByBooks_65 : decode cX5_evenByBooks 65 = .ok (.getfield 158, 3) := by decide +kernel
theorem dX5_evenByBooks_68 : decode cX5_evenByBooks 68 = .ok (.iload_n 2, 1) := by decide +kernel
theorem dX5_evenByBooks_69 : decode cX5_evenByBooks 69 = .ok (.laload, 1) := by decide +kernel
theorem dX5_evenByBooks_70 : decode cX5_evenByBooks 70 = .ok (.lload 7, 2) := by decide +kernel
theorem dX5_evenByBooks_72 : decode cX5_evenByBooks 72 = .ok (.lsub, 1) := by decide +kernel
theorem dX5_evenByBooks_73 : decode cX5_evenByBooks 73 = .ok (.aload_n 0, 1) := by decide +kernel
theorem dX5_evenByBooks_74 : decode cX5_evenByBooks 74 = .ok (.getfield 52, 3) := by decide +kernel
theorem dX5_evenByBooks_77 : decode cX5_evenByBooks 77 = .ok (.getfield 162, 3) := by decide +kernel
theorem dX5_evenByBooks_80 : decode cX5_evenByBooks 80 = .ok (.iload_n 2, 1) := by decide +kernel
theorem dX5_evenByBooks_81 : decode cX5_evenByBooks 81 = .ok (.laload, 1) := by decide +kernel
theorem dX5_evenByBooks_82 : decode cX5_evenByBooks 82 = .ok (.lload 9, 2) := by decide +kernel
theorem dX5_evenByBooks_84 : decode cX5_evenByBooks 84 = .ok (.lsub, 1) := by decide +kernel
theorem dX5_evenByBooks_85 : decode cX5_evenByBooks 85 = .ok (.invokevirtual 110, 3) := by decide +kernel
theorem dX5_evenByBooks_88 : decode cX5_evenByBooks 88 = .ok (.aload_n 0, 1) := by decide +kernel
theorem dX5_evenByBooks_89 : decode cX5_evenByBooks 89 = .ok (.getfield 56, 3) := by decide +kernel
theorem dX5_evenByBooks_92 : decode cX5_evenByBooks 92 = .ok (.iload_n 2, 1) := by decide +kernel
theorem dX5_evenByBooks_93 : decode cX5_evenByBooks 93 = .ok (.iload_n 1, 1) := by decide +kernel
theorem dX5_evenByBooks_94 : decode cX5_evenByBooks 94 = .ok (.invokestatic 126, 3) := by decide +kernel
theorem dX5_evenByBooks_97 : decode cX5_evenByBooks 97 = .ok (.aload_n 0, 1) := by decide +kernel
theorem dX5_evenByBooks_98 : decode cX5_evenByBooks 98 = .ok (.getfield 52, 3) := by decide +kernel
theorem dX5_evenByBooks_101 : decode cX5_evenByBooks 101 = .ok (.getfield 158, 3) := by decide +kernel
theorem dX5_evenByBooks_104 : decode cX5_evenByBooks 104 = .ok (.iload_n 1, 1) := by decide +kernel
theorem dX5_evenByBooks_105 : decode cX5_evenByBooks 105 = .ok (.laload, 1) := by decide +kernel
theorem dX5_evenByBooks_106 : decode cX5_evenByBooks 106 = .ok (.lload_n 3, 1) := by decide +kernel
theorem dX5_evenByBooks_107 : decode cX5_evenByBooks 107 = .ok (.lsub, 1) := by decide +kernel
theorem dX5_evenByBooks_108 : decode cX5_evenByBooks 108 = .ok (.aload_n 0, 1) := by decide +kernel
theorem dX5_evenByBooks_109 : decode cX5_evenByBooks 109 = .ok (.getfield 52, 3) := by decide +kernel
theorem dX5_evenByBooks_112 : decode cX5_evenByBooks 112 = .ok (.getfield 162, 3) := by decide +kernel
theorem dX5_evenByBooks_115 : decode cX5_evenByBooks 115 = .ok (.iload_n 1, 1) := by decide +kernel
theorem dX5_evenByBooks_116 : decode cX5_evenByBooks 116 = .ok (.laload, 1) := by decide +kernel
theorem dX5_evenByBooks_117 : decode cX5_evenByBooks 117 = .ok (.lload 5, 2) := by decide +kernel
theorem dX5_evenByBooks_119 : decode cX5_evenByBooks 119 = .ok (.lsub, 1) := by decide +kernel
theorem dX5_evenByBooks_120 : decode cX5_evenByBooks 120 = .ok (.invokevirtual 110, 3) := by decide +kernel
theorem dX5_evenByBooks_123 : decode cX5_evenByBooks 123 = .ok (.return_, 1) := by decide +kernel
theorem dX5_shareGreatest_0 : decode cX5_shareGreatest 0 = .ok (.aload_n 0, 1) := by decide +kernel
theorem dX5_shareGreatest_1 : decode cX5_shareGreatest 1 = .ok (.getfield 28, 3) := by decide +kernel
theorem dX5_shareGreatest_4 : decode cX5_shareGreatest 4 = .ok (.iload_n 1, 1) := by decide +kernel
theorem dX5_shareGreatest_5 : decode cX5_shareGreatest 5 = .ok (.iaload, 1) := by decide +kernel
theorem dX5_shareGreatest_6 : decode cX5_shareGreatest 6 = .ok (.aload_n 0, 1) := by decide +kernel
theorem dX5_shareGreatest_7 : decode cX5_shareGreatest 7 = .ok (.getfield 28, 3) := by decide +kernel
theorem dX5_shareGreatest_10 : decode cX5_shareGreatest 10 = .ok (.iload_n 2, 1) := by decide +kernel
theorem dX5_shareGreatest_11 : decode cX5_shareGreatest 11 = .ok (.iaload, 1) := by decide +kernel
theorem dX5_shareGreatest_12 : decode cX5_shareGreatest 12 = .ok (.invokestatic 168, 3) := by decide +kernel
theorem dX5_shareGreatest_15 : decode cX5_shareGreatest 15 = .ok (.istore_n 3, 1) := by decide +kernel
theorem dX5_shareGreatest_16 : decode cX5_shareGreatest 16 = .ok (.aload_n 0, 1) := by decide +kernel
theorem dX5_shareGreatest_17 : decode cX5_shareGreatest 17 = .ok (.getfield 31, 3) := by decide +kernel
theorem dX5_shareGreatest_20 : decode cX5_shareGreatest 20 = .ok (.iload_n 1, 1) := by decide +kernel
theorem dX5_shareGreatest_21 : decode cX5_shareGreatest 21 = .ok (.iaload, 1) := by decide +kernel
theorem dX5_shareGreatest_22 : decode cX5_shareGreatest 22 = .ok (.aload_n 0, 1) := by decide +kernel
theorem dX5_shareGreatest_23 : decode cX5_shareGreatest 23 = .ok (.getfield 31, 3) := by decide +kernel
theorem dX5_shareGreatest_26 : decode cX5_shareGreatest 26 = .ok (.iload_n 2, 1) := by decide +kernel
theorem dX5_shareGreatest_27 : decode cX5_shareGreatest 27 = .ok (.iaload, 1) := by decide +kernel
theorem dX5_shareGreatest_28 : decode cX5_shareGreatest 28 = .ok (.invokestatic 173, 3) := by decide +kernel
theorem dX5_shareGreatest_31 : decode cX5_shareGreatest 31 = .ok (.istore 4, 2) := by decide +kernel
theorem dX5_shareGreatest_33 : decode cX5_shareGreatest 33 = .ok (.aload_n 0, 1) := by decide +kernel
theorem dX5_shareGreatest_34 : decode cX5_shareGreatest 34 = .ok (.getfield 34, 3) := by decide +kernel
theorem dX5_shareGreatest_37 : decode cX5_shareGreatest 37 = .ok (.iload_n 1, 1) := by decide +kernel
theorem dX5_shareGreatest_38 : decode cX5_shareGreatest 38 = .ok (.iaload, 1) := by decide +kernel
theorem dX5_shareGreatest_39 : decode cX5_shareGreatest 39 = .ok (.aload_n 0, 1) := by decide +kernel
theorem dX5_shareGreatest_40 : decode cX5_shareGreatest 40 = .ok (.getfield 34, 3) := by decide +kernel
theorem dX5_shareGreatest_43 : decode cX5_shareGreatest 43 = .ok (.iload_n 2, 1) := by decide +kernel
theorem dX5_shareGreatest_44 : decode cX5_shareGreatest 44 = .ok (.iaload, 1) := by decide +kernel
theorem dX5_shareGreatest_45 : decode cX5_shareGreatest 45 = .ok (.ior, 1) := by decide +kernel
theorem dX5_shareGreatest_46 : decode cX5_shareGreatest 46 = .ok (.istore 5, 2) := by decide +kernel
theorem dX5_shareGreatest_48 : decode cX5_shareGreatest 48 = .ok (.aload_n 0, 1) := by decide +kernel
theorem dX5_shareGreatest_49 : decode cX5_shareGreatest 49 = .ok (.getfield 28, 3) := by decide +kernel
theorem dX5_shareGreatest_52 : decode cX5_shareGreatest 52 = .ok (.iload_n 1, 1) := by decide +kernel
theorem dX5_shareGreatest_53 : decode cX5_shareGreatest 53 = .ok (.iload_n 3, 1) := by decide +kernel
theorem dX5_shareGreatest_54 : decode cX5_shareGreatest 54 = .ok (.iastore, 1) := by decide +kernel
theorem dX5_shareGreatest_55 : decode cX5_shareGreatest 55 = .ok (.aload_n 0, 1) := by decide +kernel
theorem dX5_shareGreatest_56 : decode cX5_shareGreatest 56 = .ok (.getfield 28, 3) := by decide +kernel
theorem dX5_shareGreatest_59 : decode cX5_shareGreatest 59 = .ok (.iload_n 2, 1) := by decide +kernel
theorem dX5_shareGreatest_60 : decode cX5_shareGreatest 60 = .ok (.iload_n 3, 1) := by decide +kernel
theorem dX5_shareGreatest_61 : decode cX5_shareGreatest 61 = .ok (.iastore, 1) := by decide +kernel
theorem dX5_shareGreatest_62 : decode cX5_shareGreatest 62 = .ok (.aload_n 0, 1) := by decide +kernel
theorem dX5_shareGreatest_63 : decode cX5_shareGreatest 63 = .ok (.getfield 31, 3) := by decide +kernel
theorem dX5_shareGreatest_66 : decode cX5_shareGreatest 66 = .ok (.iload_n 1, 1) := by decide +kernel
theorem dX5_shareGreatest_67 : decode cX5_shareGreatest 67 = .ok (.iload 4, 2) := by decide +kernel
theorem dX5_shareGreatest_69 : decode cX5_shareGreatest 69 = .ok (.iastore, 1) := by decide +kernel
theorem dX5_shareGreatest_70 : decode cX5_shareGreatest 70 = .ok (.aload_n 0, 1) := by decide +kernel
theorem dX5_shareGreatest_71 : decode cX5_shareGreatest 71 = .ok (.getfield 31, 3) := by decide +kernel
theorem dX5_shareGreatest_74 : decode cX5_shareGreatest 74 = .ok (.iload_n 2, 1) := by decide +kernel
theorem dX5_shareGreatest_75 : decode cX5_shareGreatest 75 = .ok (.iload 4, 2) := by decide +kernel
theorem dX5_shareGreatest_77 : decode cX5_shareGreatest 77 = .ok (.iastore, 1) := by decide +kernel
theorem dX5_shareGreatest_78 : decode cX5_shareGreatest 78 = .ok (.aload_n 0, 1) := by decide +kernel
theorem dX5_shareGreatest_79 : decode cX5_shareGreatest 79 = .ok (.getfield 34, 3) := by decide +kernel
theorem dX5_shareGreatest_82 : decode cX5_shareGreatest 82 = .ok (.iload_n 1, 1) := by decide +kernel
theorem dX5_shareGreatest_83 : decode cX5_shareGreatest 83 = .ok (.iload 5, 2) := by decide +kernel
theorem dX5_shareGreatest_85 : decode cX5_shareGreatest 85 = .ok (.iastore, 1) := by decide +kernel
theorem dX5_shareGreatest_86 : decode cX5_shareGreatest 86 = .ok (.aload_n 0, 1) := by decide +kernel
theorem dX5_shareGreatest_87 : decode cX5_shareGreatest 87 = .ok (.getfield 34, 3) := by decide +kernel
theorem dX5_shareGreatest_90 : decode cX5_shareGreatest 90 = .ok (.iload_n 2, 1) := by decide +kernel
theorem dX5_shareGreatest_91 : decode cX5_shareGreatest 91 = .ok (.iload 5, 2) := by decide +kernel
theorem dX5_shareGreatest_93 : decode cX5_shareGreatest 93 = .ok (.iastore, 1) := by decide +kernel
theorem dX5_shareGreatest_94 : decode cX5_shareGreatest 94 = .ok (.return_, 1) := by decide +kernel
set_option maxRecDepth 20000 in
theorem ggX5_post_X3_add : GoodIn wsX5_post wsX3_add := goodIn_r _ [10, 11, 12, 42, 43] (by decide +kernel) (by decide +kernel)
set_option maxRecDepth 20000 in
theorem gX5_post_X3_add : GoodIn wsX5_post (wsV RX5 110 RX3 yX3_add wsX3_add) := goodIn_app (goodIn_of _ (by decide +kernel)) ggX5_post_X3_add
set_option maxRecDepth 20000 in
theorem ggX5_post_X7_pair : GoodIn wsX5_post wsX7_pair := goodIn_r _ [15] (by decide +kernel) (by decide +kernel)
set_option maxRecDepth 20000 in
theorem gX5_post_X7_pair_n126 : GoodIn wsX5_post (wsX7_pair) := ggX5_post_X7_pair
set_option maxRecDepth 20000 in
theorem ggX5_post_X1_write : GoodIn wsX5_post wsX1_write := goodIn_r _ [20, 21, 22, 23, 24, 25, 26, 9, 27, 11, 12, 44, 45, 46, 42, 43] (by decide +kernel) (by decide +kernel)
set_option maxRecDepth 20000 in
theorem gX5_post_X1_write : GoodIn wsX5_post (wsV RX5 176 RX1 yX1_write wsX1_write) := goodIn_app (goodIn_of _ (by decide +kernel)) ggX5_post_X1_write
theorem dX5_post_0 : decode cX5_post 0 = .ok (.aload_n 0, 1) := by decide +kernel
theorem dX5_post_1 : decode cX5_post 1 = .ok (.getfield 52, 3) := by decide +kernel
theorem dX5_post_4 : decode cX5_post 4 = .ok (.getfield 158, 3) := by decide +kernel
theorem dX5_post_7 : decode cX5_post 7 = .ok (.iload_n 2, 1) := by decide +kernel
theorem dX5_post_8 : decode cX5_post 8 = .ok (.laload, 1) := by decide +kernel
theorem dX5_post_9 : decode cX5_post 9 = .ok (.iconst 1, 1) := by decide +kernel
theorem dX5_post_10 : decode cX5_post 10 = .ok (.lshr, 1) := by decide +kernel
theorem dX5_post_11 : decode cX5_post 11 = .ok (.lstore 4, 2) := by decide +kernel
theorem dX5_post_13 : decode cX5_post 13 = .ok (.aload_n 0, 1) := by decide +kernel
theorem dX5_post_14 : decode cX5_post 14 = .ok (.getfield 52, 3) := by decide +kernel
theorem dX5_post_17 : decode cX5_post 17 = .ok (.getfield 162, 3) := by decide +kernel
theorem dX5_post_20 : decode cX5_post 20 = .ok (.iload_n 2, 1) := by decide +kernel
theorem dX5_post_21 : decode cX5_post 21 = .ok (.laload, 1) := by decide +kernel
theorem dX5_post_22 : decode cX5_post 22 = .ok (.iconst 1, 1) := by decide +kernel
theorem dX5_post_23 : decode cX5_post 23 = .ok (.lshr, 1) := by decide +kernel
theorem dX5_post_24 : decode cX5_post 24 = .ok (.lstore 6, 2) := by decide +kernel
theorem dX5_post_26 : decode cX5_post 26 = .ok (.aload_n 0, 1) := by decide +kernel
theorem dX5_post_27 : decode cX5_post 27 = .ok (.getfield 52, 3) := by decide +kernel
theorem dX5_post_30 : decode cX5_post 30 = .ok (.iload_n 2, 1) := by decide +kernel
theorem dX5_post_31 : decode cX5_post 31 = .ok (.lload 4, 2) := by decide +kernel
theorem dX5_post_33 : decode cX5_post 33 = .ok (.lneg, 1) := by decide +kernel
theorem dX5_post_34 : decode cX5_post 34 = .ok (.lload 6, 2) := by decide +kernel
theorem dX5_post_36 : decode cX5_post 36 = .ok (.lneg, 1) := by decide +kernel
theorem dX5_post_37 : decode cX5_post 37 = .ok (.invokevirtual 110, 3) := by decide +kernel
theorem dX5_post_40 : decode cX5_post 40 = .ok (.aload_n 0, 1) := by decide +kernel
theorem dX5_post_41 : decode cX5_post 41 = .ok (.getfield 56, 3) := by decide +kernel
theorem dX5_post_44 : decode cX5_post 44 = .ok (.iload_n 2, 1) := by decide +kernel
theorem dX5_post_45 : decode cX5_post 45 = .ok (.iload_n 3, 1) := by decide +kernel
theorem dX5_post_46 : decode cX5_post 46 = .ok (.invokestatic 126, 3) := by decide +kernel
theorem dX5_post_49 : decode cX5_post 49 = .ok (.lload 4, 2) := by decide +kernel
theorem dX5_post_51 : decode cX5_post 51 = .ok (.lload 6, 2) := by decide +kernel
theorem dX5_post_53 : decode cX5_post 53 = .ok (.invokevirtual 110, 3) := by decide +kernel
theorem dX5_post_56 : decode cX5_post 56 = .ok (.aload_n 0, 1) := by decide +kernel
theorem dX5_post_57 : decode cX5_post 57 = .ok (.getfield 65, 3) := by decide +kernel
theorem dX5_post_60 : decode cX5_post 60 = .ok (.iload_n 1, 1) := by decide +kernel
theorem dX5_post_61 : decode cX5_post 61 = .ok (.iload_n 2, 1) := by decide +kernel
theorem dX5_post_62 : decode cX5_post 62 = .ok (.iload_n 3, 1) := by decide +kernel
theorem dX5_post_63 : decode cX5_post 63 = .ok (.lload 4, 2) := by decide +kernel
theorem dX5_post_65 : decode cX5_post 65 = .ok (.lload 6, 2) := by decide +kernel
theorem dX5_post_67 : decode cX5_post 67 = .ok (.invokevirtual 176, 3) := by decide +kernel
theorem dX5_post_70 : decode cX5_post 70 = .ok (.return_, 1) := by decide +kernel
set_option maxRecDepth 20000 in
theorem ggX5_deliver_X3_at : GoodIn wsX5_deliver wsX3_at := goodIn_r _ [11, 12, 13, 54, 55] (by decide +kernel) (by decide +kernel)
set_option maxRecDepth 20000 in
theorem gX5_deliver_X3_at : GoodIn wsX5_deliver (wsV RX5 189 RX3 yX3_at wsX3_at) := goodIn_app (goodIn_of _ (by decide +kernel)) ggX5_deliver_X3_at
set_option maxRecDepth 20000 in
theorem ggX5_deliver_X3_add : GoodIn wsX5_deliver wsX3_add := goodIn_r _ [17, 13, 12, 54, 55] (by decide +kernel) (by decide +kernel)
set_option maxRecDepth 20000 in
theorem gX5_deliver_X3_add : GoodIn wsX5_deliver (wsV RX5 110 RX3 yX3_add wsX3_add) := goodIn_app (goodIn_of _ (by decide +kernel)) ggX5_deliver_X3_add
set_option maxRecDepth 20000 in
theorem ggX5_deliver_X7_pair : GoodIn wsX5_deliver wsX7_pair := goodIn_r _ [20] (by decide +kernel) (by decide +kernel)
set_option maxRecDepth 20000 in
theorem gX5_deliver_X7_pair_n126 : GoodIn wsX5_deliver (wsX7_pair) := ggX5_deliver_X7_pair
set_option maxRecDepth 20000 in
theorem ggX5_deliver_X1_drop : GoodIn wsX5_deliver wsX1_drop := goodIn_r _ [25, 26, 27, 28, 24, 29, 30, 31, 32, 33, 34, 35, 10, 36, 13, 12, 51, 52, 53, 54, 55] (by decide +kernel) (by decide +kernel)
set_option maxRecDepth 20000 in
theorem gX5_deliver_X1_drop : GoodIn wsX5_deliver (wsV RX5 193 RX1 yX1_drop wsX1_drop) := goodIn_app (goodIn_of _ (by decide +kernel)) ggX5_deliver_X1_drop
theorem dX5_deliver_0 : decode cX5_deliver 0 = .ok (.aload_n 0, 1) := by decide +kernel
theorem dX5_deliver_1 : decode cX5_deliver 1 = .ok (.getfield 65, 3) := by decide +kernel
theorem dX5_deliver_4 : decode cX5_deliver 4 = .ok (.getfield 180, 3) := by decide +kernel
theorem dX5_deliver_7 : decode cX5_deliver 7 = .ok (.iload_n 1, 1) := by decide +kernel
theorem dX5_deliver_8 : decode cX5_deliver 8 = .ok (.iaload, 1) := by decide +kernel
theorem dX5_deliver_9 : decode cX5_deliver 9 = .ok (.istore_n 2, 1) := by decide +kernel
theorem dX5_deliver_10 : decode cX5_deliver 10 = .ok (.aload_n 0, 1) := by decide +kernel
theorem dX5_deliver_11 : decode cX5_deliver 11 = .ok (.getfield 65, 3) := by decide +kernel
theorem dX5_deliver_14 : decode cX5_deliver 14 = .ok (.getfield 183, 3) := by decide +kernel
theorem dX5_deliver_17 : decode cX5_deliver 17 = .ok (.iload_n 1, 1) := by decide +kernel
theorem dX5_deliver_18 : decode cX5_deliver 18 = .ok (.iaload, 1) := by decide +kernel
theorem dX5_deliver_19 : decode cX5_deliver 19 = .ok (.istore_n 3, 1) := by decide +kernel
theorem dX5_deliver_20 : decode cX5_deliver 20 = .ok (.aload_n 0, 1) := by decide +kernel
theorem dX5_deliver_21 : decode cX5_deliver 21 = .ok (.getfield 65, 3) := by decide +kernel
theorem dX5_deliver_24 : decode cX5_deliver 24 = .ok (.getfield 186, 3) := by decide +kernel
theorem dX5_deliver_27 : decode cX5_deliver 27 = .ok (.iload_n 1, 1) := by decide +kernel
theorem dX5_deliver_28 : decode cX5_deliver 28 = .ok (.iconst 0, 1) := by decide +kernel
theorem dX5_deliver_29 : decode cX5_deliver 29 = .ok (.invokevirtual 189, 3) := by decide +kernel
theorem dX5_deliver_32 : decode cX5_deliver 32 = .ok (.lstore 4, 2) := by decide +kernel
theorem dX5_deliver_34 : decode cX5_deliver 34 = .ok (.aload_n 0, 1) := by decide +kernel
theorem dX5_deliver_35 : decode cX5_deliver 35 = .ok (.getfield 65, 3) := by decide +kernel
theorem dX5_deliver_38 : decode cX5_deliver 38 = .ok (.getfield 186, 3) := by decide +kernel
theorem dX5_deliver_41 : decode cX5_deliver 41 = .ok (.iload_n 1, 1) := by decide +kernel
theorem dX5_deliver_42 : decode cX5_deliver 42 = .ok (.iconst 1, 1) := by decide +kernel
theorem dX5_deliver_43 : decode cX5_deliver 43 = .ok (.invokevirtual 189, 3) := by decide +kernel
theorem dX5_deliver_46 : decode cX5_deliver 46 = .ok (.lstore 6, 2) := by decide +kernel
theorem dX5_deliver_48 : decode cX5_deliver 48 = .ok (.aload_n 0, 1) := by decide +kernel
theorem dX5_deliver_49 : decode cX5_deliver 49 = .ok (.getfield 52, 3) := by decide +kernel
theorem dX5_deliver_52 : decode cX5_deliver 52 = .ok (.iload_n 3, 1) := by decide +kernel
theorem dX5_deliver_53 : decode cX5_deliver 53 = .ok (.lload 4, 2) := by decide +kernel
theorem dX5_deliver_55 : decode cX5_deliver 55 = .ok (.lload 6, 2) := by decide +kernel
theorem dX5_deliver_57 : decode cX5_deliver 57 = .ok (.invokevirtual 110, 3) := by decide +kernel
theorem dX5_deliver_60 : decode cX5_deliver 60 = .ok (.aload_n 0, 1) := by decide +kernel
theorem dX5_deliver_61 : decode cX5_deliver 61 = .ok (.getfield 56, 3) := by decide +kernel
theorem dX5_deliver_64 : decode cX5_deliver 64 = .ok (.iload_n 3, 1) := by decide +kernel
theorem dX5_deliver_65 : decode cX5_deliver 65 = .ok (.iload_n 2, 1) := by decide +kernel
theorem dX5_deliver_66 : decode cX5_deliver 66 = .ok (.invokestatic 126, 3) := by decide +kernel
theorem dX5_deliver_69 : decode cX5_deliver 69 = .ok (.lload 4, 2) := by decide +kernel
theorem dX5_deliver_71 : decode cX5_deliver 71 = .ok (.lneg, 1) := by decide +kernel
theorem dX5_deliver_72 : decode cX5_deliver 72 = .ok (.lload 6, 2) := by decide +kernel
theorem dX5_deliver_74 : decode cX5_deliver 74 = .ok (.lneg, 1) := by decide +kernel
theorem dX5_deliver_75 : decode cX5_deliver 75 = .ok (.invokevirtual 110, 3) := by decide +kernel
theorem dX5_deliver_78 : decode cX5_deliver 78 = .ok (.aload_n 0, 1) := by decide +kernel
theorem dX5_deliver_79 : decode cX5_deliver 79 = .ok (.getfield 65, 3) := by decide +kernel
theorem dX5_deliver_82 : decode cX5_deliver 82 = .ok (.iload_n 1, 1) := by decide +kernel
theorem dX5_deliver_83 : decode cX5_deliver 83 = .ok (.invokevirtual 193, 3) := by decide +kernel
theorem dX5_deliver_86 : decode cX5_deliver 86 = .ok (.return_, 1) := by decide +kernel
set_option maxRecDepth 20000 in
theorem ggX5_mislay_X7_pair : GoodIn wsX5_mislay wsX7_pair := goodIn_r _ [8] (by decide +kernel) (by decide +kernel)
set_option maxRecDepth 20000 in
theorem gX5_mislay_X7_pair_n126 : GoodIn wsX5_mislay (wsX7_pair) := ggX5_mislay_X7_pair
set_option maxRecDepth 20000 in
theorem ggX5_mislay_X3_addFrom : GoodIn wsX5_mislay wsX3_addFrom := goodIn_r _ [13, 14, 15, 16, 17, 18, 12, 19, 53, 54] (by decide +kernel) (by decide +kernel)
set_option maxRecDepth 20000 in
theorem gX5_mislay_X3_addFrom : GoodIn wsX5_mislay (wsV RX5 130 RX3 yX3_addFrom wsX3_addFrom) := goodIn_app (goodIn_of _ (by decide +kernel)) ggX5_mislay_X3_addFrom
set_option maxRecDepth 20000 in
theorem ggX5_mislay_X1_drop : GoodIn wsX5_mislay wsX1_drop := goodIn_r _ [24, 25, 26, 27, 23, 28, 29, 30, 31, 32, 33, 34, 12, 35, 14, 15, 50, 51, 52, 53, 54] (by decide +kernel) (by decide +kernel)
set_option maxRecDepth 20000 in
theorem gX5_mislay_X1_drop : GoodIn wsX5_mislay (wsV RX5 193 RX1 yX1_drop wsX1_drop) := goodIn_app (goodIn_of _ (by decide +kernel)) ggX5_mislay_X1_drop
theorem dX5_mislay_0 : decode cX5_mislay 0 = .ok (.aload_n 0, 1) := by decide +kernel
theorem dX5_mislay_1 : decode cX5_mislay 1 = .ok (.getfield 65, 3) := by decide +kernel
theorem dX5_mislay_4 : decode cX5_mislay 4 = .ok (.getfield 180, 3) := by decide +kernel
theorem dX5_mislay_7 : decode cX5_mislay 7 = .ok (.iload_n 1, 1) := by decide +kernel
theorem dX5_mislay_8 : decode cX5_mislay 8 = .ok (.iaload, 1) := by decide +kernel
theorem dX5_mislay_9 : decode cX5_mislay 9 = .ok (.aload_n 0, 1) := by decide +kernel
theorem dX5_mislay_10 : decode cX5_mislay 10 = .ok (.getfield 65, 3) := by decide +kernel
theorem dX5_mislay_13 : decode cX5_mislay 13 = .ok (.getfield 183, 3) := by decide +kernel
theorem dX5_mislay_16 : decode cX5_mislay 16 = .ok (.iload_n 1, 1) := by decide +kernel
theorem dX5_mislay_17 : decode cX5_mislay 17 = .ok (.iaload, 1) := by decide +kernel
theorem dX5_mislay_18 : decode cX5_mislay 18 = .ok (.invokestatic 126, 3) := by decide +kernel
theorem dX5_mislay_21 : decode cX5_mislay 21 = .ok (.istore_n 2, 1) := by decide +kernel
theorem dX5_mislay_22 : decode cX5_mislay 22 = .ok (.aload_n 0, 1) := by decide +kernel
theorem dX5_mislay_23 : decode cX5_mislay 23 = .ok (.getfield 59, 3) := by decide +kernel
theorem dX5_mislay_26 : decode cX5_mislay 26 = .ok (.iload_n 2, 1) := by decide +kernel
theorem dX5_mislay_27 : decode cX5_mislay 27 = .ok (.aload_n 0, 1) := by decide +kernel
theorem dX5_mislay_28 : decode cX5_mislay 28 = .ok (.getfield 65, 3) := by decide +kernel
theorem dX5_mislay_31 : decode cX5_mislay 31 = .ok (.getfield 186, 3) := by decide +kernel
theorem dX5_mislay_34 : decode cX5_mislay 34 = .ok (.iload_n 1, 1) := by decide +kernel
theorem dX5_mislay_35 : decode cX5_mislay 35 = .ok (.invokevirtual 130, 3) := by decide +kernel
theorem dX5_mislay_38 : decode cX5_mislay 38 = .ok (.aload_n 0, 1) := by decide +kernel
theorem dX5_mislay_39 : decode cX5_mislay 39 = .ok (.getfield 65, 3) := by decide +kernel
theorem dX5_mislay_42 : decode cX5_mislay 42 = .ok (.iload_n 1, 1) := by decide +kernel
theorem dX5_mislay_43 : decode cX5_mislay 43 = .ok (.invokevirtual 193, 3) := by decide +kernel
theorem dX5_mislay_46 : decode cX5_mislay 46 = .ok (.return_, 1) := by decide +kernel
theorem dX6_init_0 : decode cX6_init 0 = .ok (.aload_n 0, 1) := by decide +kernel
theorem dX6_init_1 : decode cX6_init 1 = .ok (.invokespecial 3, 3) := by decide +kernel
theorem dX6_init_4 : decode cX6_init 4 = .ok (.aload_n 0, 1) := by decide +kernel
theorem dX6_init_5 : decode cX6_init 5 = .ok (.bipush 11, 2) := by decide +kernel
theorem dX6_init_7 : decode cX6_init 7 = .ok (.newarray .int, 2) := by decide +kernel
theorem dX6_init_9 : decode cX6_init 9 = .ok (.putfield 9, 3) := by decide +kernel
theorem dX6_init_12 : decode cX6_init 12 = .ok (.aload_n 0, 1) := by decide +kernel
theorem dX6_init_13 : decode cX6_init 13 = .ok (.bipush 44, 2) := by decide +kernel
theorem dX6_init_15 : decode cX6_init 15 = .ok (.newarray .int, 2) := by decide +kernel
theorem dX6_init_17 : decode cX6_init 17 = .ok (.putfield 15, 3) := by decide +kernel
theorem dX6_init_20 : decode cX6_init 20 = .ok (.aload_n 0, 1) := by decide +kernel
theorem dX6_init_21 : decode cX6_init 21 = .ok (.bipush 44, 2) := by decide +kernel
theorem dX6_init_23 : decode cX6_init 23 = .ok (.newarray .int, 2) := by decide +kernel
theorem dX6_init_25 : decode cX6_init 25 = .ok (.putfield 18, 3) := by decide +kernel
theorem dX6_init_28 : decode cX6_init 28 = .ok (.return_, 1) := by decide +kernel
theorem dX6_numberAt_0 : decode cX6_numberAt 0 = .ok (.aload_n 0, 1) := by decide +kernel
theorem dX6_numberAt_1 : decode cX6_numberAt 1 = .ok (.getfield 15, 3) := by decide +kernel
theorem dX6_numberAt_4 : decode cX6_numberAt 4 = .ok (.iload_n 1, 1) := by decide +kernel
theorem dX6_numberAt_5 : decode cX6_numberAt 5 = .ok (.iconst 4, 1) := by decide +kernel
theorem dX6_numberAt_6 : decode cX6_numberAt 6 = .ok (.imul, 1) := by decide +kernel
theorem dX6_numberAt_7 : decode cX6_numberAt 7 = .ok (.iload_n 2, 1) := by decide +kernel
theorem dX6_numberAt_8 : decode cX6_numberAt 8 = .ok (.iadd, 1) := by decide +kernel
theorem dX6_numberAt_9 : decode cX6_numberAt 9 = .ok (.iaload, 1) := by decide +kernel
theorem dX6_numberAt_10 : decode cX6_numberAt 10 = .ok (.ireturn, 1) := by decide +kernel
set_option maxRecDepth 20000 in
theorem ggX6_knowAlone_X6_insert : GoodIn wsX6_knowAlone wsX6_insert := goodIn_r _ [6, 1, 7, 8, 9, 10, 11, 5, 12, 13, 14, 15] (by decide +kernel) (by decide +kernel)
set_option maxRecDepth 20000 in
theorem gX6_knowAlone_X6_insert : GoodIn wsX6_knowAlone (wsV RX6 21 RX6 yX6_insert wsX6_insert) := goodIn_app (goodIn_of _ (by decide +kernel)) ggX6_knowAlone_X6_insert
theorem dX6_knowAlone_0 : decode cX6_knowAlone 0 = .ok (.aload_n 0, 1) := by decide +kernel
theorem dX6_knowAlone_1 : decode cX6_knowAlone 1 = .ok (.getfield 9, 3) := by decide +kernel
theorem dX6_knowAlone_4 : decode cX6_knowAlone 4 = .ok (.iload_n 1, 1) := by decide +kernel
theorem dX6_knowAlone_5 : decode cX6_knowAlone 5 = .ok (.iconst 0, 1) := by decide +kernel
theorem dX6_knowAlone_6 : decode cX6_knowAlone 6 = .ok (.iastore, 1) := by decide +kernel
theorem dX6_knowAlone_7 : decode cX6_knowAlone 7 = .ok (.aload_n 0, 1) := by decide +kernel
theorem dX6_knowAlone_8 : decode cX6_knowAlone 8 = .ok (.iload_n 1, 1) := by decide +kernel
theorem dX6_knowAlone_9 : decode cX6_knowAlone 9 = .ok (.iload_n 2, 1) := by decide +kernel
theorem dX6_knowAlone_10 : decode cX6_knowAlone 10 = .ok (.iload_n 1, 1) := by decide +kernel
theorem dX6_knowAlone_11 : decode cX6_knowAlone 11 = .ok (.invokevirtual 21, 3) := by decide +kernel
theorem dX6_knowAlone_14 : decode cX6_knowAlone 14 = .ok (.return_, 1) := by decide +kernel
set_option maxRecDepth 20000 in
theorem ggX6_share_X6_insertFrom : GoodIn wsX6_share wsX6_insertFrom := goodIn_r _ [7, 8, 2, 9, 10, 11, 6, 12, 1, 13, 14, 15, 16, 29, 30, 31] (by decide +kernel) (by decide +kernel)
set_option maxRecDepth 20000 in
theorem gX6_share_X6_insertFrom : GoodIn wsX6_share (wsV RX6 25 RX6 yX6_insertFrom wsX6_insertFrom) := goodIn_app (goodIn_of _ (by decide +kernel)) ggX6_share_X6_insertFrom
set_option maxRecDepth 20000 in
theorem ggX6_share_X6_knowsOneOf : GoodIn wsX6_share wsX6_knowsOneOf := goodIn_r _ [20, 1, 2, 29, 30, 31] (by decide +kernel) (by decide +kernel)
set_option maxRecDepth 20000 in
theorem gX6_share_X6_knowsOneOf : GoodIn wsX6_share (wsV RX6 29 RX6 yX6_knowsOneOf wsX6_knowsOneOf) := goodIn_app (goodIn_of _ (by decide +kernel)) ggX6_share_X6_knowsOneOf
set_option maxRecDepth 20000 in
theorem ggX6_share_X6_take : GoodIn wsX6_share wsX6_take := goodIn_r _ [24, 1, 8, 25, 26, 27, 28, 2, 29, 30, 31] (by decide +kernel) (by decide +kernel)
set_option maxRecDepth 20000 in
theorem gX6_share_X6_take : GoodIn wsX6_share (wsV RX6 33 RX6 yX6_take wsX6_take) := goodIn_app (goodIn_of _ (by decide +kernel)) ggX6_share_X6_take
theorem dX6_share_0 : decode cX6_share 0 = .ok (.aload_n 0, 1) := by decide +kernel
theorem dX6_share_1 : decode cX6_share 1 = .ok (.getfield 9, 3) := by decide +kernel
theorem dX6_share_4 : decode cX6_share 4 = .ok (.bipush 10, 2) := by decide +kernel
theorem dX6_share_6 : decode cX6_share 6 = .ok (.iconst 0, 1) := by decide +kernel
theorem dX6_share_7 : decode cX6_share 7 = .ok (.iastore, 1) := by decide +kernel
theorem dX6_share_8 : decode cX6_share 8 = .ok (.iconst 0, 1) := by decide +kernel
theorem dX6_share_9 : decode cX6_share 9 = .ok (.istore_n 3, 1) := by decide +kernel
theorem dX6_share_10 : decode cX6_share 10 = .ok (.iload_n 3, 1) := by decide +kernel
theorem dX6_share_11 : decode cX6_share 11 = .ok (.aload_n 0, 1) := by decide +kernel
theorem dX6_share_12 : decode cX6_share 12 = .ok (.getfield 9, 3) := by decide +kernel
theorem dX6_share_15 : decode cX6_share 15 = .ok (.iload_n 1, 1) := by decide +kernel
theorem dX6_share_16 : decode cX6_share 16 = .ok (.iaload, 1) := by decide +kernel
theorem dX6_share_17 : decode cX6_share 17 = .ok (.if_icmp .ge 15, 3) := by decide +kernel
theorem dX6_share_20 : decode cX6_share 20 = .ok (.aload_n 0, 1) := by decide +kernel
theorem dX6_share_21 : decode cX6_share 21 = .ok (.iload_n 1, 1) := by decide +kernel
theorem dX6_share_22 : decode cX6_share 22 = .ok (.iload_n 3, 1) := by decide +kernel
theorem dX6_share_23 : decode cX6_share 23 = .ok (.invokevirtual 25, 3) := by decide +kernel
theorem dX6_share_26 : decode cX6_share 26 = .ok (.iinc 3 1, 3) := by decide +kernel
theorem dX6_share_29 : decode cX6_share 29 = .ok (.goto (-19), 3) := by decide +kernel
theorem dX6_share_32 : decode cX6_share 32 = .ok (.iconst 0, 1) := by decide +kernel
theorem dX6_share_33 : decode cX6_share 33 = .ok (.istore_n 3, 1) := by decide +kernel
theorem dX6_share_34 : decode cX6_share 34 = .ok (.iload_n 3, 1) := by decide +kernel
theorem dX6_share_35 : decode cX6_share 35 = .ok (.aload_n 0, 1) := by decide +kernel
theorem dX6_share_36 : decode cX6_share 36 = .ok (.getfield 9, 3) := by decide +kernel
theorem dX6_share_39 : decode cX6_share 39 = .ok (.iload_n 2, 1) := by decide +kernel
theorem dX6_share_40 : decode cX6_share 40 = .ok (.iaload, 1) := by decide +kernel
theorem dX6_share_41 : decode cX6_share 41 = .ok (.if_icmp .ge 33, 3) := by decide +kernel
theorem dX6_share_44 : decode cX6_share 44 = .ok (.aload_n 0, 1) := by decide +kernel
theorem dX6_share_45 : decode cX6_share 45 = .ok (.iload_n 1, 1) := by decide +kernel
theorem dX6_share_46 : decode cX6_share 46 = .ok (.aload_n 0, 1) := by decide +kernel
theorem dX6_share_47 : decode cX6_share 47 = .ok (.getfield 18, 3) := by decide +kernel
theorem dX6_share_50 : decode cX6_share 50 = .ok (.iload_n 2, 1) := by decide +kernel
theorem dX6_share_51 : decode cX6_share 51 = .ok (.iconst 4, 1) := by decide +kernel
theorem dX6_share_52 : decode cX6_share 52 = .ok (.imul, 1) := by decide +kernel
theorem dX6_share_53 : decode cX6_share 53 = .ok (.iload_n 3, 1) := by decide +kernel
theorem dX6_share_54 : decode cX6_share 54 = .ok (.iadd, 1) := by decide +kernel
theorem dX6_share_55 : decode cX6_share 55 = .ok (.iaload, 1) := by decide +kernel
theorem dX6_share_56 : decode cX6_share 56 = .ok (.invokevirtual 29, 3) := by decide +kernel
theorem dX6_share_59 : decode cX6_share 59 = .ok (.ifCond .ne 9, 3) := by decide +kernel
theorem dX6_share_62 : decode cX6_share 62 = .ok (.aload_n 0, 1) := by decide +kernel
theorem dX6_share_63 : decode cX6_share 63 = .ok (.iload_n 2, 1) := by decide +kernel
theorem dX6_share_64 : decode cX6_share 64 = .ok (.iload_n 3, 1) := by decide +kernel
theorem dX6_share_65 : decode cX6_share 65 = .ok (.invokevirtual 25, 3) := by decide +kernel
theorem dX6_share_68 : decode cX6_share 68 = .ok (.iinc 3 1, 3) := by decide +kernel
theorem dX6_share_71 : decode cX6_share 71 = .ok (.goto (-37), 3) := by decide +kernel
theorem dX6_share_74 : decode cX6_share 74 = .ok (.aload_n 0, 1) := by decide +kernel
theorem dX6_share_75 : decode cX6_share 75 = .ok (.iload_n 1, 1) := by decide +kernel
theorem dX6_share_76 : decode cX6_share 76 = .ok (.invokevirtual 33, 3) := by decide +kernel
theorem dX6_share_79 : decode cX6_share 79 = .ok (.aload_n 0, 1) := by decide +kernel
theorem dX6_share_80 : decode cX6_share 80 = .ok (.iload_n 2, 1) := by decide +kernel
theorem dX6_share_81 : decode cX6_share 81 = .ok (.invokevirtual 33, 3) := by decide +kernel
theorem dX6_share_84 : decode cX6_share 84 = .ok (.return_, 1) := by decide +kernel
theorem dX6_copyFrom_0 : decode cX6_copyFrom 0 = .ok (.aload_n 1, 1) := by decide +kernel
theorem dX6_copyFrom_1 : decode cX6_copyFrom 1 = .ok (.getfield 9, 3) := by decide +kernel
theorem dX6_copyFrom_4 : decode cX6_copyFrom 4 = .ok (.iconst 0, 1) := by decide +kernel
theorem dX6_copyFrom_5 : decode cX6_copyFrom 5 = .ok (.aload_n 0, 1) := by decide +kernel
theorem dX6_copyFrom_6 : decode cX6_copyFrom 6 = .ok (.getfield 9, 3) := by decide +kernel
theorem dX6_copyFrom_9 : decode cX6_copyFrom 9 = .ok (.iconst 0, 1) := by decide +kernel
theorem dX6_copyFrom_10 : decode cX6_copyFrom 10 = .ok (.aload_n 0, 1) := by decide +kernel
theorem dX6_copyFrom_11 : decode cX6_copyFrom 11 = .ok (.getfield 9, 3) := by decide +kernel
theorem dX6_copyFrom_14 : decode cX6_copyFrom 14 = .ok (.arraylength, 1) := by decide +kernel
theorem dX6_copyFrom_15 : decode cX6_copyFrom 15 = .ok (.invokestatic 37, 3) := by decide +kernel
theorem dX6_copyFrom_18 : decode cX6_copyFrom 18 = .ok (.aload_n 1, 1) := by decide +kernel
theorem dX6_copyFrom_19 : decode cX6_copyFrom 19 = .ok (.getfield 15, 3) := by decide +kernel
theorem dX6_copyFrom_22 : decode cX6_copyFrom 22 = .ok (.iconst 0, 1) := by decide +kernel
theorem dX6_copyFrom_23 : decode cX6_copyFrom 23 = .ok (.aload_n 0, 1) := by decide +kernel
theorem dX6_copyFrom_24 : decode cX6_copyFrom 24 = .ok (.getfield 15, 3) := by decide +kernel
theorem dX6_copyFrom_27 : decode cX6_copyFrom 27 = .ok (.iconst 0, 1) := by decide +kernel
theorem dX6_copyFrom_28 : decode cX6_copyFrom 28 = .ok (.aload_n 0, 1) := by decide +kernel
theorem dX6_copyFrom_29 : decode cX6_copyFrom 29 = .ok (.getfield 15, 3) := by decide +kernel
theorem dX6_copyFrom_32 : decode cX6_copyFrom 32 = .ok (.arraylength, 1) := by decide +kernel
theorem dX6_copyFrom_33 : decode cX6_copyFrom 33 = .ok (.invokestatic 37, 3) := by decide +kernel
theorem dX6_copyFrom_36 : decode cX6_copyFrom 36 = .ok (.aload_n 1, 1) := by decide +kernel
theorem dX6_copyFrom_37 : decode cX6_copyFrom 37 = .ok (.getfield 18, 3) := by decide +kernel
theorem dX6_copyFrom_40 : decode cX6_copyFrom 40 = .ok (.iconst 0, 1) := by decide +kernel
theorem dX6_copyFrom_41 : decode cX6_copyFrom 41 = .ok (.aload_n 0, 1) := by decide +kernel
theorem dX6_copyFrom_42 : decode cX6_copyFrom 42 = .ok (.getfield 18, 3) := by decide +kernel
theorem dX6_copyFrom_45 : decode cX6_copyFrom 45 = .ok (.iconst 0, 1) := by decide +kernel
theorem dX6_copyFrom_46 : decode cX6_copyFrom 46 = .ok (.aload_n 0, 1) := by decide +kernel
theorem dX6_copyFrom_47 : decode cX6_copyFrom 47 = .ok (.getfield 18, 3) := by decide +kernel
theorem dX6_copyFrom_50 : decode cX6_copyFrom 50 = .ok (.arraylength, 1) := by decide +kernel
theorem dX6_copyFrom_51 : decode cX6_copyFrom 51 = .ok (.invokestatic 37, 3) := by decide +kernel
theorem dX6_copyFrom_54 : decode cX6_copyFrom 54 = .ok (.return_, 1) := by decide +kernel
theorem dX6_knowsOneOf_0 : decode cX6_knowsOneOf 0 = .ok (.iconst 0, 1) := by decide +kernel
theorem dX6_knowsOneOf_1 : decode cX6_knowsOneOf 1 = .ok (.istore_n 3, 1) := by decide +kernel
theorem dX6_knowsOneOf_2 : decode cX6_knowsOneOf 2 = .ok (.iload_n 3, 1) := by decide +kernel
theorem dX6_knowsOneOf_3 : decode cX6_knowsOneOf 3 = .ok (.aload_n 0, 1) := by decide +kernel
theorem dX6_knowsOneOf_4 : decode cX6_knowsOneOf 4 = .ok (.getfield 9, 3) := by decide +kernel
theorem dX6_knowsOneOf_7 : decode cX6_knowsOneOf 7 = .ok (.iload_n 1, 1) := by decide +kernel
theorem dX6_knowsOneOf_8 : decode cX6_knowsOneOf 8 = .ok (.iaload, 1) := by decide +kernel
theorem dX6_knowsOneOf_9 : decode cX6_knowsOneOf 9 = .ok (.if_icmp .ge 25, 3) := by decide +kernel
theorem dX6_knowsOneOf_12 : decode cX6_knowsOneOf 12 = .ok (.aload_n 0, 1) := by decide +kernel
theorem dX6_knowsOneOf_13 : decode cX6_knowsOneOf 13 = .ok (.getfield 18, 3) := by decide +kernel
theorem dX6_knowsOneOf_16 : decode cX6_knowsOneOf 16 = .ok (.iload_n 1, 1) := by decide +kernel
theorem dX6_knowsOneOf_17 : decode cX6_knowsOneOf 17 = .ok (.iconst 4, 1) := by decide +kernel
theorem dX6_knowsOneOf_18 : decode cX6_knowsOneOf 18 = .ok (.imul, 1) := by decide +kernel
theorem dX6_knowsOneOf_19 : decode cX6_knowsOneOf 19 = .ok (.iload_n 3, 1) := by decide +kernel
theorem dX6_knowsOneOf_20 : decode cX6_knowsOneOf 20 = .ok (.iadd, 1) := by decide +kernel
theorem dX6_knowsOneOf_21 : decode cX6_knowsOneOf 21 = .ok (.iaload, 1) := by decide +kernel
theorem dX6_knowsOneOf_22 : decode cX6_knowsOneOf 22 = .ok (.iload_n 2, 1) := by decide +kernel
theorem dX6_knowsOneOf_23 : decode cX6_knowsOneOf 23 = .ok (.if_icmp .ne 5, 3) := by decide +kernel
theorem dX6_knowsOneOf_26 : decode cX6_knowsOneOf 26 = .ok (.iconst 1, 1) := by decide +kernel
theorem dX6_knowsOneOf_27 : decode cX6_knowsOneOf 27 = .ok (.ireturn, 1) := by decide +kernel
theorem dX6_knowsOneOf_28 : decode cX6_knowsOneOf 28 = .ok (.iinc 3 1, 3) := by decide +kernel
theorem dX6_knowsOneOf_31 : decode cX6_knowsOneOf 31 = .ok (.goto (-29), 3) := by decide +kernel
theorem dX6_knowsOneOf_34 : decode cX6_knowsOneOf 34 = .ok (.iconst 0, 1) := by decide +kernel
theorem dX6_knowsOneOf_35 : decode cX6_knowsOneOf 35 = .ok (.ireturn, 1) := by decide +kernel
set_option maxRecDepth 20000 in
theorem ggX6_insertFrom_X6_insert : GoodIn wsX6_insertFrom wsX6_insert := goodIn_r _ [7, 8, 1, 2, 9, 10, 11, 6, 12, 13, 14, 15] (by decide +kernel) (by decide +kernel)
set_option maxRecDepth 20000 in
theorem gX6_insertFrom_X6_insert : GoodIn wsX6_insertFrom (wsV RX6 21 RX6 yX6_insert wsX6_insert) := goodIn_app (goodIn_of _ (by decide +kernel)) ggX6_insertFrom_X6_insert
theorem dX6_insertFrom_0 : decode cX6_insertFrom 0 = .ok (.iload_n 1, 1) := by decide +kernel
theorem dX6_insertFrom_1 : decode cX6_insertFrom 1 = .ok (.iconst 4, 1) := by decide +kernel
theorem dX6_insertFrom_2 : decode cX6_insertFrom 2 = .ok (.imul, 1) := by decide +kernel
theorem dX6_insertFrom_3 : decode cX6_insertFrom 3 = .ok (.iload_n 2, 1) := by decide +kernel
theorem dX6_insertFrom_4 : decode cX6_insertFrom 4 = .ok (.iadd, 1) := by decide +kernel
theorem dX6_insertFrom_5 : decode cX6_insertFrom 5 = .ok (.istore_n 3, 1) := by decide +kernel
theorem dX6_insertFrom_6 : decode cX6_insertFrom 6 = .ok (.aload_n 0, 1) := by decide +kernel
theorem dX6_insertFrom_7 : decode cX6_insertFrom 7 = .ok (.bipush 10, 2) := by decide +kernel
theorem dX6_insertFrom_9 : decode cX6_insertFrom 9 = .ok (.aload_n 0, 1) := by decide +kernel
theorem dX6_insertFrom_10 : decode cX6_insertFrom 10 = .ok (.getfield 15, 3) := by decide +kernel
theorem dX6_insertFrom_13 : decode cX6_insertFrom 13 = .ok (.iload_n 3, 1) := by decide +kernel
theorem dX6_insertFrom_14 : decode cX6_insertFrom 14 = .ok (.iaload, 1) := by decide +kernel
theorem dX6_insertFrom_15 : decode cX6_insertFrom 15 = .ok (.aload_n 0, 1) := by decide +kernel
theorem dX6_insertFrom_16 : decode cX6_insertFrom 16 = .ok (.getfield 18, 3) := by decide +kernel
theorem dX6_insertFrom_19 : decode cX6_insertFrom 19 = .ok (.iload_n 3, 1) := by decide +kernel
theorem dX6_insertFrom_20 : decode cX6_insertFrom 20 = .ok (.iaload, 1) := by decide +kernel
theorem dX6_insertFrom_21 : decode cX6_insertFrom 21 = .ok (.invokevirtual 21, 3) := by decide +kernel
theorem dX6_insertFrom_24 : decode cX6_insertFrom 24 = .ok (.return_, 1) := by decide +kernel
set_option maxRecDepth 20000 in
theorem ggX6_insert_X6_isBefore : GoodIn wsX6_insert wsX6_isBefore := goodIn_r _ [8, 2, 3, 9, 10, 11] (by decide +kernel) (by decide +kernel)
set_option maxRecDepth 20000 in
theorem gX6_insert_X6_isBefore : GoodIn wsX6_insert (wsV RX6 43 RX6 yX6_isBefore wsX6_isBefore) := goodIn_app (goodIn_of _ (by decide +kernel)) ggX6_insert_X6_isBefore
theorem dX6_insert_0 : decode cX6_insert 0 = .ok (.iload_n 1, 1) := by decide +kernel
theorem dX6_insert_1 : decode cX6_insert 1 = .ok (.iconst 4, 1) := by decide +kernel
theorem dX6_insert_2 : decode cX6_insert 2 = .ok (.imul, 1) := by decide +kernel
theorem dX6_insert_3 : decode cX6_insert 3 = .ok (.istore 4, 2) := by decide +kernel
theorem dX6_insert_5 : decode cX6_insert 5 = .ok (.aload_n 0, 1) := by decide +kernel
theorem dX6_insert_6 : decode cX6_insert 6 = .ok (.getfield 9, 3) := by decide +kernel
theorem dX6_insert_9 : decode cX6_insert 9 = .ok (.iload_n 1, 1) := by decide +kernel
theorem dX6_insert_10 : decode cX6_insert 10 = .ok (.iaload, 1) := by decide +kernel
theorem dX6_insert_11 : decode cX6_insert 11 = .ok (.istore 5, 2) := by decide +kernel
theorem dX6_insert_13 : decode cX6_insert 13 = .ok (.iload 5, 2) := by decide +kernel
theorem dX6_insert_15 : decode cX6_insert 15 = .ok (.iconst 4, 1) := by decide +kernel
theorem dX6_insert_16 : decode cX6_insert 16 = .ok (.if_icmp .ge 16, 3) := by decide +kernel
theorem dX6_insert_19 : decode cX6_insert 19 = .ok (.aload_n 0, 1) := by decide +kernel
theorem dX6_insert_20 : decode cX6_insert 20 = .ok (.getfield 9, 3) := by decide +kernel
theorem dX6_insert_23 : decode cX6_insert 23 = .ok (.iload_n 1, 1) := by decide +kernel
theorem dX6_insert_24 : decode cX6_insert 24 = .ok (.iload 5, 2) := by decide +kernel
theorem dX6_insert_26 : decode cX6_insert 26 = .ok (.iconst 1, 1) := by decide +kernel
theorem dX6_insert_27 : decode cX6_insert 27 = .ok (.iadd, 1) := by decide +kernel
theorem dX6_insert_28 : decode cX6_insert 28 = .ok (.iastore, 1) := by decide +kernel
theorem dX6_insert_29 : decode cX6_insert 29 = .ok (.goto 25, 3) := by decide +kernel
theorem dX6_insert_32 : decode cX6_insert 32 = .ok (.aload_n 0, 1) := by decide +kernel
theorem dX6_insert_33 : decode cX6_insert 33 = .ok (.iload_n 2, 1) := by decide +kernel
theorem dX6_insert_34 : decode cX6_insert 34 = .ok (.iload_n 3, 1) := by decide +kernel
theorem dX6_insert_35 : decode cX6_insert 35 = .ok (.iload 4, 2) := by decide +kernel
theorem dX6_insert_37 : decode cX6_insert 37 = .ok (.iconst 4, 1) := by decide +kernel
theorem dX6_insert_38 : decode cX6_insert 38 = .ok (.iadd, 1) := by decide +kernel
theorem dX6_insert_39 : decode cX6_insert 39 = .ok (.iconst 1, 1) := by decide +kernel
theorem dX6_insert_40 : decode cX6_insert 40 = .ok (.isub, 1) := by decide +kernel
theorem dX6_insert_41 : decode cX6_insert 41 = .ok (.invokevirtual 43, 3) := by decide +kernel
theorem dX6_insert_44 : decode cX6_insert 44 = .ok (.ifCond .eq 9, 3) := by decide +kernel
theorem dX6_insert_47 : decode cX6_insert 47 = .ok (.iconst 3, 1) := by decide +kernel
theorem dX6_insert_48 : decode cX6_insert 48 = .ok (.istore 5, 2) := by decide +kernel
theorem dX6_insert_50 : decode cX6_insert 50 = .ok (.goto 4, 3) := by decide +kernel
theorem dX6_insert_53 : decode cX6_insert 53 = .ok (.return_, 1) := by decide +kernel
theorem dX6_insert_54 : decode cX6_insert 54 = .ok (.iload 5, 2) := by decide +kernel
theorem dX6_insert_56 : decode cX6_insert 56 = .ok (.ifCond .le 69, 3) := by decide +kernel
theorem dX6_insert_59 : decode cX6_insert 59 = .ok (.aload_n 0, 1) := by decide +kernel
theorem dX6_insert_60 : decode cX6_insert 60 = .ok (.iload_n 2, 1) := by decide +kernel
theorem dX6_insert_61 : decode cX6_insert 61 = .ok (.iload_n 3, 1) := by decide +kernel
theorem dX6_insert_62 : decode cX6_insert 62 = .ok (.iload 4, 2) := by decide +kernel
theorem dX6_insert_64 : decode cX6_insert 64 = .ok (.iload 5, 2) := by decide +kernel
theorem dX6_insert_66 : decode cX6_insert 66 = .ok (.iadd, 1) := by decide +kernel
theorem dX6_insert_67 : decode cX6_insert 67 = .ok (.iconst 1, 1) := by decide +kernel
theorem dX6_insert_68 : decode cX6_insert 68 = .ok (.isub, 1) := by decide +kernel
theorem dX6_insert_69 : decode cX6_insert 69 = .ok (.invokevirtual 43, 3) := by decide +kernel
theorem dX6_insert_72 : decode cX6_insert 72 = .ok (.ifCond .eq 53, 3) := by decide +kernel
theorem dX6_insert_75 : decode cX6_insert 75 = .ok (.aload_n 0, 1) := by decide +kernel
theorem dX6_insert_76 : decode cX6_insert 76 = .ok (.getfield 15, 3) := by decide +kernel
theorem dX6_insert_79 : decode cX6_insert 79 = .ok (.iload 4, 2) := by decide +kernel
theorem dX6_insert_81 : decode cX6_insert 81 = .ok (.iload 5, 2) := by decide +kernel
theorem dX6_insert_83 : decode cX6_insert 83 = .ok (.iadd, 1) := by decide +kernel
theorem dX6_insert_84 : decode cX6_insert 84 = .ok (.aload_n 0, 1) := by decide +kernel
theorem dX6_insert_85 : decode cX6_insert 85 = .ok (.getfield 15, 3) := by decide +kernel
theorem dX6_insert_88 : decode cX6_insert 88 = .ok (.iload 4, 2) := by decide +kernel
theorem dX6_insert_90 : decode cX6_insert 90 = .ok (.iload 5, 2) := by decide +kernel
theorem dX6_insert_92 : decode cX6_insert 92 = .ok (.iadd, 1) := by decide +kernel
theorem dX6_insert_93 : decode cX6_insert 93 = .ok (.iconst 1, 1) := by decide +kernel
theorem dX6_insert_94 : decode cX6_insert 94 = .ok (.isub, 1) := by decide +kernel
theorem dX6_insert_95 : decode cX6_insert 95 = .ok (.iaload, 1) := by decide +kernel
theorem dX6_insert_96 : decode cX6_insert 96 = .ok (.iastore, 1) := by decide +kernel
theorem dX6_insert_97 : decode cX6_insert 97 = .ok (.aload_n 0, 1) := by decide +kernel
theorem dX6_insert_98 : decode cX6_insert 98 = .ok (.getfield 18, 3) := by decide +kernel
theorem dX6_insert_101 : decode cX6_insert 101 = .ok (.iload 4, 2) := by decide +kernel
theorem dX6_insert_103 : decode cX6_insert 103 = .ok (.iload 5, 2) := by decide +kernel
theorem dX6_insert_105 : decode cX6_insert 105 = .ok (.iadd, 1) := by decide +kernel
theorem dX6_insert_106 : decode cX6_insert 106 = .ok (.aload_n 0, 1) := by decide +kernel
theorem dX6_insert_107 : decode cX6_insert 107 = .ok (.getfield 18, 3) := by decide +kernel
theorem dX6_insert_110 : decode cX6_insert 110 = .ok (.iload 4, 2) := by decide +kernel
theorem dX6_insert_112 : decode cX6_insert 112 = .ok (.iload 5, 2) := by decide +kernel
theorem dX6_insert_114 : decode cX6_insert 114 = .ok (.iadd, 1) := by decide +kernel
theorem dX6_insert_115 : decode cX6_insert 115 = .ok (.iconst 1, 1) := by decide +kernel
theorem dX6_insert_116 : decode cX6_insert 116 = .ok (.isub, 1) := by decide +kernel
theorem dX6_insert_117 : decode cX6_insert 117 = .ok (.iaload, 1) := by decide +kernel
theorem dX6_insert_118 : decode cX6_insert 118 = .ok (.iastore, 1) := by decide +kernel
theorem dX6_insert_119 : decode cX6_insert 119 = .ok (.iinc 5 (-1), 3) := by decide +kernel
theorem dX6_insert_122 : decode cX6_insert 122 = .ok (.goto (-68), 3) := by decide +kernel
theorem dX6_insert_125 : decode cX6_insert 125 = .ok (.aload_n 0, 1) := by decide +kernel
theorem dX6_insert_126 : decode cX6_insert 126 = .ok (.getfield 15, 3) := by decide +kernel
theorem dX6_insert_129 : decode cX6_insert 129 = .ok (.iload 4, 2) := by decide +kernel
theorem dX6_insert_131 : decode cX6_insert 131 = .ok (.iload 5, 2) := by decide +kernel
theorem dX6_insert_133 : decode cX6_insert 133 = .ok (.iadd, 1) := by decide +kernel
theorem dX6_insert_134 : decode cX6_insert 134 = .ok (.iload_n 2, 1) := by decide +kernel
theorem dX6_insert_135 : decode cX6_insert 135 = .ok (.iastore, 1) := by decide +kernel
theorem dX6_insert_136 : decode cX6_insert 136 = .ok (.aload_n 0, 1) := by decide +kernel
theorem dX6_insert_137 : decode cX6_insert 137 = .ok (.getfield 18, 3) := by decide +kernel
theorem dX6_insert_140 : decode cX6_insert 140 = .ok (.iload 4, 2) := by decide +kernel
theorem dX6_insert_142 : decode cX6_insert 142 = .ok (.iload 5, 2) := by decide +kernel
theorem dX6_insert_144 : decode cX6_insert 144 = .ok (.iadd, 1) := by decide +kernel
theorem dX6_insert_145 : decode cX6_insert 145 = .ok (.iload_n 3, 1) := by decide +kernel
theorem dX6_insert_146 : decode cX6_insert 146 = .ok (.iastore, 1) := by decide +kernel
theorem dX6_insert_147 : decode cX6_insert 147 = .ok (.return_, 1) := by decide +kernel
theorem dX6_isBefore_0 : decode cX6_isBefore 0 = .ok (.iload_n 1, 1) := by decide +kernel
theorem dX6_isBefore_1 : decode cX6_isBefore 1 = .ok (.aload_n 0, 1) := by decide +kernel
theorem dX6_isBefore_2 : decode cX6_isBefore 2 = .ok (.getfield 15, 3) := by decide +kernel
theorem dX6_isBefore_5 : decode cX6_isBefore 5 = .ok (.iload_n 3, 1) := by decide +kernel
theorem dX6_isBefore_6 : decode cX6_isBefore 6 = .ok (.iaload, 1) := by decide +kernel
theorem dX6_isBefore_7 : decode cX6_isBefore 7 = .ok (.if_icmp .lt 23, 3) := by decide +kernel
theorem dX6_isBefore_10 : decode cX6_isBefore 10 = .ok (.iload_n 1, 1) := by decide +kernel
theorem dX6_isBefore_11 : decode cX6_isBefore 11 = .ok (.aload_n 0, 1) := by decide +kernel
theorem dX6_isBefore_12 : decode cX6_isBefore 12 = .ok (.getfield 15, 3) := by decide +kernel
theorem dX6_isBefore_15 : decode cX6_isBefore 15 = .ok (.iload_n 3, 1) := by decide +kernel
theorem dX6_isBefore_16 : decode cX6_isBefore 16 = .ok (.iaload, 1) := by decide +kernel
theorem dX6_isBefore_17 : decode cX6_isBefore 17 = .ok (.if_icmp .ne 17, 3) := by decide +kernel
theorem dX6_isBefore_20 : decode cX6_isBefore 20 = .ok (.iload_n 2, 1) := by decide +kernel
theorem dX6_isBefore_21 : decode cX6_isBefore 21 = .ok (.aload_n 0, 1) := by decide +kernel
theorem dX6_isBefore_22 : decode cX6_isBefore 22 = .ok (.getfield 18, 3) := by decide +kernel
theorem dX6_isBefore_25 : decode cX6_isBefore 25 = .ok (.iload_n 3, 1) := by decide +kernel
theorem dX6_isBefore_26 : decode cX6_isBefore 26 = .ok (.iaload, 1) := by decide +kernel
theorem dX6_isBefore_27 : decode cX6_isBefore 27 = .ok (.if_icmp .ge 7, 3) := by decide +kernel
theorem dX6_isBefore_30 : decode cX6_isBefore 30 = .ok (.iconst 1, 1) := by decide +kernel
theorem dX6_isBefore_31 : decode cX6_isBefore 31 = .ok (.goto 4, 3) := by decide +kernel
theorem dX6_isBefore_34 : decode cX6_isBefore 34 = .ok (.iconst 0, 1) := by decide +kernel
theorem dX6_isBefore_35 : decode cX6_isBefore 35 = .ok (.ireturn, 1) := by decide +kernel
theorem dX6_take_0 : decode cX6_take 0 = .ok (.aload_n 0, 1) := by decide +kernel
theorem dX6_take_1 : decode cX6_take 1 = .ok (.getfield 9, 3) := by decide +kernel
theorem dX6_take_4 : decode cX6_take 4 = .ok (.iload_n 1, 1) := by decide +kernel
theorem dX6_take_5 : decode cX6_take 5 = .ok (.aload_n 0, 1) := by decide +kernel
theorem dX6_take_6 : decode cX6_take 6 = .ok (.getfield 9, 3) := by decide +kernel
theorem dX6_take_9 : decode cX6_take 9 = .ok (.bipush 10, 2) := by decide +kernel
theorem dX6_take_11 : decode cX6_take 11 = .ok (.iaload, 1) := by decide +kernel
theorem dX6_take_12 : decode cX6_take 12 = .ok (.iastore, 1) := by decide +kernel
theorem dX6_take_13 : decode cX6_take 13 = .ok (.bipush 40, 2) := by decide +kernel
theorem dX6_take_15 : decode cX6_take 15 = .ok (.istore_n 2, 1) := by decide +kernel
theorem dX6_take_16 : decode cX6_take 16 = .ok (.aload_n 0, 1) := by decide +kernel
theorem dX6_take_17 : decode cX6_take 17 = .ok (.getfield 15, 3) := by decide +kernel
theorem dX6_take_20 : decode cX6_take 20 = .ok (.iload_n 2, 1) := by decide +kernel
theorem dX6_take_21 : decode cX6_take 21 = .ok (.aload_n 0, 1) := by decide +kernel
theorem dX6_take_22 : decode cX6_take 22 = .ok (.getfield 15, 3) := by decide +kernel
theorem dX6_take_25 : decode cX6_take 25 = .ok (.iload_n 1, 1) := by decide +kernel
theorem dX6_take_26 : decode cX6_take 26 = .ok (.iconst 4, 1) := by decide +kernel
theorem dX6_take_27 : decode cX6_take 27 = .ok (.imul, 1) := by decide +kernel
theorem dX6_take_28 : decode cX6_take 28 = .ok (.iconst 4, 1) := by decide +kernel
theorem dX6_take_29 : decode cX6_take 29 = .ok (.invokestatic 37, 3) := by decide +kernel
theorem dX6_take_32 : decode cX6_take 32 = .ok (.aload_n 0, 1) := by decide +kernel
theorem dX6_take_33 : decode cX6_take 33 = .ok (.getfield 18, 3) := by decide +kernel
theorem dX6_take_36 : decode cX6_take 36 = .ok (.iload_n 2, 1) := by decide +kernel
theorem dX6_take_37 : decode cX6_take 37 = .ok (.aload_n 0, 1) := by decide +kernel
theorem dX6_take_38 : decode cX6_take 38 = .ok (.getfield 18, 3) := by decide +kernel
theorem dX6_take_41 : decode cX6_take 41 = .ok (.iload_n 1, 1) := by decide +kernel
theorem dX6_take_42 : decode cX6_take 42 = .ok (.iconst 4, 1) := by decide +kernel
theorem dX6_take_43 : decode cX6_take 43 = .ok (.imul, 1) := by decide +kernel
theorem dX6_take_44 : decode cX6_take 44 = .ok (.iconst 4, 1) := by decide +kernel
theorem dX6_take_45 : decode cX6_take 45 = .ok (.invokestatic 37, 3) := by decide +kernel
theorem dX6_take_48 : decode cX6_take 48 = .ok (.return_, 1) := by decide +kernel
set_option maxRecDepth 20000 in
theorem ggX7_init_X5_init : GoodIn wsX7_init wsX5_init := goodIn_r _ [24, 25, 2, 3, 26, 27, 28, 29, 20, 30, 31, 32, 33, 34, 35, 36, 37, 38, 39, 40, 41, 42, 43, 44, 45, 46, 47, 48, 49, 50, 51, 52, 53, 54, 55, 56, 57, 58, 59, 60, 61, 62, 63, 64, 65, 66, 67, 68, 69, 70, 94, 95, 96, 97, 98, 99, 100, 101, 102, 103, 104, 105, 106, 107, 125, 126, 127, 128, 129, 130, 131, 132] (by decide +kernel) (by decide +kernel)
set_option maxRecDepth 20000 in
theorem gX7_init_X5_init_n11 : GoodIn wsX7_init (wsX5_init) := ggX7_init_X5_init
set_option maxRecDepth 20000 in
theorem ggX7_init_X0_init : GoodIn wsX7_init wsX0_init := goodIn_r _ [72, 73, 2, 3, 74, 75, 76, 77, 114, 115, 116] (by decide +kernel) (by decide +kernel)
set_option maxRecDepth 20000 in
theorem gX7_init_X0_init_n18 : GoodIn wsX7_init (wsX0_init) := ggX7_init_X0_init
set_option maxRecDepth 20000 in
theorem ggX7_init_X2_init : GoodIn wsX7_init wsX2_init := goodIn_r _ [79, 80, 2, 3, 20, 81, 82, 83, 117, 118, 119] (by decide +kernel) (by decide +kernel)
set_option maxRecDepth 20000 in
theorem gX7_init_X2_init_n25 : GoodIn wsX7_init (wsX2_init) := ggX7_init_X2_init
set_option maxRecDepth 20000 in
theorem ggX7_init_X4_init : GoodIn wsX7_init wsX4_init := goodIn_r _ [85, 86, 2, 3, 87, 40, 41, 88, 20, 89, 90, 91, 92, 93, 56, 57, 58, 59, 60, 61, 128, 129, 120, 121, 122, 123, 124] (by decide +kernel) (by decide +kernel)
set_option maxRecDepth 20000 in
theorem gX7_init_X4_init_n32 : GoodIn wsX7_init (wsX4_init) := ggX7_init_X4_init
theorem dX7_init_0 : decode cX7_init 0 = .ok (.aload_n 0, 1) := by decide +kernel
theorem dX7_init_1 : decode cX7_init 1 = .ok (.invokespecial 3, 3) := by decide +kernel
theorem dX7_init_4 : decode cX7_init 4 = .ok (.aload_n 0, 1) := by decide +kernel
theorem dX7_init_5 : decode cX7_init 5 = .ok (.new 9, 3) := by decide +kernel
theorem dX7_init_8 : decode cX7_init 8 = .ok (.dup, 1) := by decide +kernel
theorem dX7_init_9 : decode cX7_init 9 = .ok (.invokespecial 11, 3) := by decide +kernel
theorem dX7_init_12 : decode cX7_init 12 = .ok (.putfield 12, 3) := by decide +kernel
theorem dX7_init_15 : decode cX7_init 15 = .ok (.aload_n 0, 1) := by decide +kernel
theorem dX7_init_16 : decode cX7_init 16 = .ok (.new 16, 3) := by decide +kernel
theorem dX7_init_19 : decode cX7_init 19 = .ok (.dup, 1) := by decide +kernel
theorem dX7_init_20 : decode cX7_init 20 = .ok (.invokespecial 18, 3) := by decide +kernel
theorem dX7_init_23 : decode cX7_init 23 = .ok (.putfield 19, 3) := by decide +kernel
theorem dX7_init_26 : decode cX7_init 26 = .ok (.aload_n 0, 1) := by decide +kernel
theorem dX7_init_27 : decode cX7_init 27 = .ok (.new 23, 3) := by decide +kernel
theorem dX7_init_30 : decode cX7_init 30 = .ok (.dup, 1) := by decide +kernel
theorem dX7_init_31 : decode cX7_init 31 = .ok (.invokespecial 25, 3) := by decide +kernel
theorem dX7_init_34 : decode cX7_init 34 = .ok (.putfield 26, 3) := by decide +kernel
theorem dX7_init_37 : decode cX7_init 37 = .ok (.aload_n 0, 1) := by decide +kernel
theorem dX7_init_38 : decode cX7_init 38 = .ok (.new 30, 3) := by decide +kernel
theorem dX7_init_41 : decode cX7_init 41 = .ok (.dup, 1) := by decide +kernel
theorem dX7_init_42 : decode cX7_init 42 = .ok (.invokespecial 32, 3) := by decide +kernel
theorem dX7_init_45 : decode cX7_init 45 = .ok (.putfield 33, 3) := by decide +kernel
theorem dX7_init_48 : decode cX7_init 48 = .ok (.aload_n 0, 1) := by decide +kernel
theorem dX7_init_49 : decode cX7_init 49 = .ok (.iconst 3, 1) := by decide +kernel
theorem dX7_init_50 : decode cX7_init 50 = .ok (.newarray .int, 2) := by decide +kernel
theorem dX7_init_52 : decode cX7_init 52 = .ok (.putfield 37, 3) := by decide +kernel
theorem dX7_init_55 : decode cX7_init 55 = .ok (.aload_n 0, 1) := by decide +kernel
theorem dX7_init_56 : decode cX7_init 56 = .ok (.iconst 0, 1) := by decide +kernel
theorem dX7_init_57 : decode cX7_init 57 = .ok (.putfield 41, 3) := by decide +kernel
theorem dX7_init_60 : decode cX7_init 60 = .ok (.return_, 1) := by decide +kernel
set_option maxRecDepth 20000 in
theorem ggX7_come_X7_isValue : GoodIn wsX7_come wsX7_isValue := goodIn_r _ [7, 8, 9] (by decide +kernel) (by decide +kernel)
set_option maxRecDepth 20000 in
theorem gX7_come_X7_isValue : GoodIn wsX7_come (va_wsS RX7 45 yX7_isValue wsX7_isValue) := goodIn_app (goodIn_of _ (by decide +kernel)) ggX7_come_X7_isValue
set_option maxRecDepth 20000 in
theorem ggX7_come_X0_keep : GoodIn wsX7_come wsX0_keep := goodIn_r _ [14, 15, 16, 17, 18, 19, 20, 21, 22, 23, 24, 25, 26, 27, 28, 29, 30, 31, 32, 33, 34, 35, 36, 37, 38, 39, 40, 41, 42, 43, 44, 45, 46, 47, 48, 49, 50, 51, 52, 53, 54, 55, 56, 57, 58, 59, 60, 61, 62, 63, 64, 65, 66, 67, 68, 69, 70, 71, 72, 73, 74, 75, 76, 77, 78, 79, 80, 81, 82, 83, 84, 85, 86, 87, 88, 89, 90, 91, 92, 93, 94, 95, 151, 152, 153, 137, 138, 139, 140, 141, 142, 143, 144, 145, 146, 147, 148, 149, 150, 154, 155, 156, 157, 158, 159, 160, 161] (by decide +kernel) (by decide +kernel)
set_option maxRecDepth 20000 in
theorem gX7_come_X0_keep : GoodIn wsX7_come (wsV RX7 52 RX0 yX0_keep wsX0_keep) := goodIn_app (goodIn_of _ (by decide +kernel)) ggX7_come_X0_keep
set_option maxRecDepth 20000 in
theorem ggX7_come_X5_arrive : GoodIn wsX7_come wsX5_arrive := goodIn_r _ [99, 27, 31, 43, 100, 39, 101, 102, 103, 42, 104, 61, 62, 105, 106, 107, 19, 108, 26, 34, 109, 110, 111, 112, 32, 33, 113, 114, 115, 116, 28, 117, 118, 119, 120, 121, 38, 122, 53, 123, 124, 125, 126, 54, 55, 127, 128, 129, 130, 137, 138, 139, 140, 141, 142, 143, 144, 145, 146, 147, 148, 149, 150, 157, 158, 154, 155, 156] (by decide +kernel) (by decide +kernel)
set_option maxRecDepth 20000 in
theorem gX7_come_X5_arrive : GoodIn wsX7_come (wsV RX7 56 RX5 yX5_arrive wsX5_arrive) := goodIn_app (goodIn_of _ (by decide +kernel)) ggX7_come_X5_arrive
theorem dX7_come_0 : decode cX7_come 0 = .ok (.iload_n 1, 1) := by decide +kernel
theorem dX7_come_1 : decode cX7_come 1 = .ok (.invokestatic 45, 3) := by decide +kernel
theorem dX7_come_4 : decode cX7_come 4 = .ok (.ifCond .ne 5, 3) := by decide +kernel
theorem dX7_come_7 : decode cX7_come 7 = .ok (.iconst (-1), 1) := by decide +kernel
theorem dX7_come_8 : decode cX7_come 8 = .ok (.ireturn, 1) := by decide +kernel
theorem dX7_come_9 : decode cX7_come 9 = .ok (.aload_n 0, 1) := by decide +kernel
theorem dX7_come_10 : decode cX7_come 10 = .ok (.getfield 12, 3) := by decide +kernel
theorem dX7_come_13 : decode cX7_come 13 = .ok (.getfield 49, 3) := by decide +kernel
theorem dX7_come_16 : decode cX7_come 16 = .ok (.bipush 10, 2) := by decide +kernel
theorem dX7_come_18 : decode cX7_come 18 = .ok (.if_icmp .lt 6, 3) := by decide +kernel
theorem dX7_come_21 : decode cX7_come 21 = .ok (.bipush (-3), 2) := by decide +kernel
theorem dX7_come_23 : decode cX7_come 23 = .ok (.ireturn, 1) := by decide +kernel
theorem dX7_come_24 : decode cX7_come 24 = .ok (.aload_n 0, 1) := by decide +kernel
theorem dX7_come_25 : decode cX7_come 25 = .ok (.getfield 19, 3) := by decide +kernel
theorem dX7_come_28 : decode cX7_come 28 = .ok (.aload_n 0, 1) := by decide +kernel
theorem dX7_come_29 : decode cX7_come 29 = .ok (.getfield 12, 3) := by decide +kernel
theorem dX7_come_32 : decode cX7_come 32 = .ok (.invokevirtual 52, 3) := by decide +kernel
theorem dX7_come_35 : decode cX7_come 35 = .ok (.aload_n 0, 1) := by decide +kernel
theorem dX7_come_36 : decode cX7_come 36 = .ok (.getfield 12, 3) := by decide +kernel
theorem dX7_come_39 : decode cX7_come 39 = .ok (.getfield 49, 3) := by decide +kernel
theorem dX7_come_42 : decode cX7_come 42 = .ok (.istore_n 2, 1) := by decide +kernel
theorem dX7_come_43 : decode cX7_come 43 = .ok (.aload_n 0, 1) := by decide +kernel
theorem dX7_come_44 : decode cX7_come 44 = .ok (.getfield 12, 3) := by decide +kernel
theorem dX7_come_47 : decode cX7_come 47 = .ok (.iload_n 2, 1) := by decide +kernel
theorem dX7_come_48 : decode cX7_come 48 = .ok (.iconst 1, 1) := by decide +kernel
theorem dX7_come_49 : decode cX7_come 49 = .ok (.iadd, 1) := by decide +kernel
theorem dX7_come_50 : decode cX7_come 50 = .ok (.putfield 49, 3) := by decide +kernel
theorem dX7_come_53 : decode cX7_come 53 = .ok (.aload_n 0, 1) := by decide +kernel
theorem dX7_come_54 : decode cX7_come 54 = .ok (.getfield 12, 3) := by decide +kernel
theorem dX7_come_57 : decode cX7_come 57 = .ok (.iload_n 2, 1) := by decide +kernel
theorem dX7_come_58 : decode cX7_come 58 = .ok (.iload_n 1, 1) := by decide +kernel
theorem dX7_come_59 : decode cX7_come 59 = .ok (.invokevirtual 56, 3) := by decide +kernel
theorem dX7_come_62 : decode cX7_come 62 = .ok (.iload_n 2, 1) := by decide +kernel
theorem dX7_come_63 : decode cX7_come 63 = .ok (.ireturn, 1) := by decide +kernel
set_option maxRecDepth 20000 in
theorem ggX7_line_X7_areTwo : GoodIn wsX7_line wsX7_areTwo := goodIn_r _ [7, 8, 9, 10, 6, 11, 1, 12, 118, 119, 120, 121, 122, 123, 124, 125, 126, 127, 128, 129, 130, 131, 132, 133, 134, 135, 136, 137] (by decide +kernel) (by decide +kernel)
set_option maxRecDepth 20000 in
theorem gX7_line_X7_areTwo : GoodIn wsX7_line (wsV RX7 60 RX7 yX7_areTwo wsX7_areTwo) := goodIn_app (goodIn_of _ (by decide +kernel)) ggX7_line_X7_areTwo
set_option maxRecDepth 20000 in
theorem ggX7_line_X5_isJoined : GoodIn wsX7_line wsX5_isJoined := goodIn_r _ [17, 18, 124, 125, 126, 127, 128, 129, 130, 131, 132, 133, 134, 135, 136, 137] (by decide +kernel) (by decide +kernel)
set_option maxRecDepth 20000 in
theorem gX7_line_X5_isJoined : GoodIn wsX7_line (wsV RX7 64 RX5 yX5_isJoined wsX5_isJoined) := goodIn_app (goodIn_of _ (by decide +kernel)) ggX7_line_X5_isJoined
set_option maxRecDepth 20000 in
theorem ggX7_line_X0_keep : GoodIn wsX7_line wsX0_keep := goodIn_r _ [23, 24, 25, 26, 27, 16, 28, 29, 30, 31, 32, 33, 34, 35, 36, 37, 38, 39, 40, 41, 42, 18, 43, 44, 45, 46, 47, 48, 49, 50, 51, 52, 53, 54, 55, 56, 57, 58, 59, 60, 61, 62, 63, 64, 65, 66, 67, 68, 69, 70, 71, 72, 73, 74, 75, 76, 77, 78, 79, 80, 81, 82, 83, 84, 85, 86, 87, 88, 89, 90, 91, 92, 93, 94, 95, 96, 97, 98, 99, 100, 101, 102, 138, 139, 140, 124, 125, 126, 127, 128, 129, 130, 131, 132, 133, 134, 135, 136, 137, 141, 142, 143, 144, 145, 146, 147, 148] (by decide +kernel) (by decide +kernel)
set_option maxRecDepth 20000 in
theorem gX7_line_X0_keep : GoodIn wsX7_line (wsV RX7 52 RX0 yX0_keep wsX0_keep) := goodIn_app (goodIn_of _ (by decide +kernel)) ggX7_line_X0_keep
set_option maxRecDepth 20000 in
theorem ggX7_line_X5_join : GoodIn wsX7_line wsX5_join := goodIn_r _ [106, 18, 124, 125, 126, 127, 128, 129, 130, 131, 132, 133, 134, 135, 136, 137] (by decide +kernel) (by decide +kernel)
set_option maxRecDepth 20000 in
theorem gX7_line_X5_join : GoodIn wsX7_line (wsV RX7 67 RX5 yX5_join wsX5_join) := goodIn_app (goodIn_of _ (by decide +kernel)) ggX7_line_X5_join
set_option maxRecDepth 20000 in
theorem ggX7_line_X5_lineCount : GoodIn wsX7_line wsX5_lineCount := goodIn_r _ [110, 34, 18, 111, 112, 113, 114, 115, 116, 117, 124, 125, 126, 127, 128, 129, 130, 131, 132, 133, 134, 135, 136, 137] (by decide +kernel) (by decide +kernel)
set_option maxRecDepth 20000 in
theorem gX7_line_X5_lineCount : GoodIn wsX7_line (wsV RX7 70 RX5 yX5_lineCount wsX5_lineCount) := goodIn_app (goodIn_of _ (by decide +kernel)) ggX7_line_X5_lineCount
theorem dX7_line_0 : decode cX7_line 0 = .ok (.aload_n 0, 1) := by decide +kernel
theorem dX7_line_1 : decode cX7_line 1 = .ok (.iload_n 1, 1) := by decide +kernel
theorem dX7_line_2 : decode cX7_line 2 = .ok (.iload_n 2, 1) := by decide +kernel
theorem dX7_line_3 : decode cX7_line 3 = .ok (.invokevirtual 60, 3) := by decide +kernel
theorem dX7_line_6 : decode cX7_line 6 = .ok (.ifCond .ne 5, 3) := by decide +kernel
theorem dX7_line_9 : decode cX7_line 9 = .ok (.iconst (-1), 1) := by decide +kernel
theorem dX7_line_10 : decode cX7_line 10 = .ok (.ireturn, 1) := by decide +kernel
theorem dX7_line_11 : decode cX7_line 11 = .ok (.aload_n 0, 1) := by decide +kernel
theorem dX7_line_12 : decode cX7_line 12 = .ok (.getfield 12, 3) := by decide +kernel
theorem dX7_line_15 : decode cX7_line 15 = .ok (.iload_n 1, 1) := by decide +kernel
theorem dX7_line_16 : decode cX7_line 16 = .ok (.iload_n 2, 1) := by decide +kernel
theorem dX7_line_17 : decode cX7_line 17 = .ok (.invokevirtual 64, 3) := by decide +kernel
theorem dX7_line_20 : decode cX7_line 20 = .ok (.ifCond .eq 6, 3) := by decide +kernel
theorem dX7_line_23 : decode cX7_line 23 = .ok (.bipush (-2), 2) := by decide +kernel
theorem dX7_line_25 : decode cX7_line 25 = .ok (.ireturn, 1) := by decide +kernel
theorem dX7_line_26 : decode cX7_line 26 = .ok (.aload_n 0, 1) := by decide +kernel
theorem dX7_line_27 : decode cX7_line 27 = .ok (.getfield 19, 3) := by decide +kernel
theorem dX7_line_30 : decode cX7_line 30 = .ok (.aload_n 0, 1) := by decide +kernel
theorem dX7_line_31 : decode cX7_line 31 = .ok (.getfield 12, 3) := by decide +kernel
theorem dX7_line_34 : decode cX7_line 34 = .ok (.invokevirtual 52, 3) := by decide +kernel
theorem dX7_line_37 : decode cX7_line 37 = .ok (.aload_n 0, 1) := by decide +kernel
theorem dX7_line_38 : decode cX7_line 38 = .ok (.getfield 12, 3) := by decide +kernel
theorem dX7_line_41 : decode cX7_line 41 = .ok (.iload_n 1, 1) := by decide +kernel
theorem dX7_line_42 : decode cX7_line 42 = .ok (.iload_n 2, 1) := by decide +kernel
theorem dX7_line_43 : decode cX7_line 43 = .ok (.invokevirtual 67, 3) := by decide +kernel
theorem dX7_line_46 : decode cX7_line 46 = .ok (.aload_n 0, 1) := by decide +kernel
theorem dX7_line_47 : decode cX7_line 47 = .ok (.getfield 12, 3) := by decide +kernel
theorem dX7_line_50 : decode cX7_line 50 = .ok (.invokevirtual 70, 3) := by decide +kernel
theorem dX7_line_53 : decode cX7_line 53 = .ok (.ireturn, 1) := by decide +kernel
set_option maxRecDepth 20000 in
theorem ggX7_cut_X7_areTwo : GoodIn wsX7_cut wsX7_areTwo := goodIn_r _ [8, 9, 10, 11, 7, 12, 1, 13, 131, 132, 133, 134, 135, 136, 137, 138, 139, 140, 141, 142, 143, 144, 145, 146, 147, 148, 149, 150] (by decide +kernel) (by decide +kernel)
set_option maxRecDepth 20000 in
theorem gX7_cut_X7_areTwo : GoodIn wsX7_cut (wsV RX7 60 RX7 yX7_areTwo wsX7_areTwo) := goodIn_app (goodIn_of _ (by decide +kernel)) ggX7_cut_X7_areTwo
set_option maxRecDepth 20000 in
theorem ggX7_cut_X5_isJoined : GoodIn wsX7_cut wsX5_isJoined := goodIn_r _ [18, 19, 137, 138, 139, 140, 141, 142, 143, 144, 145, 146, 147, 148, 149, 150] (by decide +kernel) (by decide +kernel)
set_option maxRecDepth 20000 in
theorem gX7_cut_X5_isJoined : GoodIn wsX7_cut (wsV RX7 64 RX5 yX5_isJoined wsX5_isJoined) := goodIn_app (goodIn_of _ (by decide +kernel)) ggX7_cut_X5_isJoined
set_option maxRecDepth 20000 in
theorem ggX7_cut_X1_anyOver : GoodIn wsX7_cut wsX1_anyOver := goodIn_r _ [24, 25, 26, 27, 23, 28, 29, 30, 31, 32, 33, 34, 151, 152, 153] (by decide +kernel) (by decide +kernel)
set_option maxRecDepth 20000 in
theorem gX7_cut_X1_anyOver : GoodIn wsX7_cut (wsV RX7 78 RX1 yX1_anyOver wsX1_anyOver) := goodIn_app (goodIn_of _ (by decide +kernel)) ggX7_cut_X1_anyOver
set_option maxRecDepth 20000 in
theorem ggX7_cut_X0_keep : GoodIn wsX7_cut wsX0_keep := goodIn_r _ [39, 40, 41, 42, 43, 17, 44, 45, 46, 47, 48, 49, 50, 51, 52, 53, 54, 55, 56, 57, 58, 19, 59, 60, 61, 62, 63, 64, 65, 66, 67, 68, 69, 70, 23, 71, 72, 73, 74, 75, 76, 77, 78, 79, 80, 81, 82, 83, 84, 85, 86, 87, 88, 29, 30, 89, 90, 91, 92, 93, 94, 95, 96, 97, 98, 99, 100, 101, 102, 103, 104, 105, 106, 107, 108, 109, 110, 111, 112, 113, 114, 115, 154, 155, 156, 137, 138, 139, 140, 141, 142, 143, 144, 145, 146, 147, 148, 149, 150, 157, 158, 159, 160, 161, 151, 152, 153] (by decide +kernel) (by decide +kernel)
set_option maxRecDepth 20000 in
theorem gX7_cut_X0_keep : GoodIn wsX7_cut (wsV RX7 52 RX0 yX0_keep wsX0_keep) := goodIn_app (goodIn_of _ (by decide +kernel)) ggX7_cut_X0_keep
set_option maxRecDepth 20000 in
theorem ggX7_cut_X5_part : GoodIn wsX7_cut wsX5_part := goodIn_r _ [119, 19, 137, 138, 139, 140, 141, 142, 143, 144, 145, 146, 147, 148, 149, 150] (by decide +kernel) (by decide +kernel)
set_option maxRecDepth 20000 in
theorem gX7_cut_X5_part : GoodIn wsX7_cut (wsV RX7 83 RX5 yX5_part wsX5_part) := goodIn_app (goodIn_of _ (by decide +kernel)) ggX7_cut_X5_part
set_option maxRecDepth 20000 in
theorem ggX7_cut_X5_lineCount : GoodIn wsX7_cut wsX5_lineCount := goodIn_r _ [123, 50, 19, 124, 125, 126, 127, 128, 129, 130, 137, 138, 139, 140, 141, 142, 143, 144, 145, 146, 147, 148, 149, 150] (by decide +kernel) (by decide +kernel)
set_option maxRecDepth 20000 in
theorem gX7_cut_X5_lineCount : GoodIn wsX7_cut (wsV RX7 70 RX5 yX5_lineCount wsX5_lineCount) := goodIn_app (goodIn_of _ (by decide +kernel)) ggX7_cut_X5_lineCount
theorem dX7_cut_0 : decode cX7_cut 0 = .ok (.aload_n 0, 1) := by decide +kernel
theorem dX7_cut_1 : decode cX7_cut 1 = .ok (.iload_n 1, 1) := by decide +kernel
theorem dX7_cut_2 : decode cX7_cut 2 = .ok (.iload_n 2, 1) := by decide +kernel
theorem dX7_cut_3 : decode cX7_cut 3 = .ok (.invokevirtual 60, 3) := by decide +kernel
theorem dX7_cut_6 : decode cX7_cut 6 = .ok (.ifCond .ne 5, 3) := by decide +kernel
theorem dX7_cut_9 : decode cX7_cut 9 = .ok (.iconst (-1), 1) := by decide +kernel
theorem dX7_cut_10 : decode cX7_cut 10 = .ok (.ireturn, 1) := by decide +kernel
theorem dX7_cut_11 : decode cX7_cut 11 = .ok (.aload_n 0, 1) := by decide +kernel
theorem dX7_cut_12 : decode cX7_cut 12 = .ok (.getfield 12, 3) := by decide +kernel
theorem dX7_cut_15 : decode cX7_cut 15 = .ok (.iload_n 1, 1) := by decide +kernel
theorem dX7_cut_16 : decode cX7_cut 16 = .ok (.iload_n 2, 1) := by decide +kernel
theorem dX7_cut_17 : decode cX7_cut 17 = .ok (.invokevirtual 64, 3) := by decide +kernel
theorem dX7_cut_20 : decode cX7_cut 20 = .ok (.ifCond .eq 18, 3) := by decide +kernel
theorem dX7_cut_23 : decode cX7_cut 23 = .ok (.aload_n 0, 1) := by decide +kernel
theorem dX7_cut_24 : decode cX7_cut 24 = .ok (.getfield 12, 3) := by decide +kernel
theorem dX7_cut_27 : decode cX7_cut 27 = .ok (.getfield 74, 3) := by decide +kernel
theorem dX7_cut_30 : decode cX7_cut 30 = .ok (.iload_n 1, 1) := by decide +kernel
theorem dX7_cut_31 : decode cX7_cut 31 = .ok (.iload_n 2, 1) := by decide +kernel
theorem dX7_cut_32 : decode cX7_cut 32 = .ok (.invokevirtual 78, 3) := by decide +kernel
theorem dX7_cut_35 : decode cX7_cut 35 = .ok (.ifCond .eq 6, 3) := by decide +kernel
theorem dX7_cut_38 : decode cX7_cut 38 = .ok (.bipush (-2), 2) := by decide +kernel
theorem dX7_cut_40 : decode cX7_cut 40 = .ok (.ireturn, 1) := by decide +kernel
theorem dX7_cut_41 : decode cX7_cut 41 = .ok (.aload_n 0, 1) := by decide +kernel
theorem dX7_cut_42 : decode cX7_cut 42 = .ok (.getfield 19, 3) := by decide +kernel
theorem dX7_cut_45 : decode cX7_cut 45 = .ok (.aload_n 0, 1) := by decide +kernel
theorem dX7_cut_46 : decode cX7_cut 46 = .ok (.getfield 12, 3) := by decide +kernel
theorem dX7_cut_49 : decode cX7_cut 49 = .ok (.invokevirtual 52, 3) := by decide +kernel
theorem dX7_cut_52 : decode cX7_cut 52 = .ok (.aload_n 0, 1) := by decide +kernel
theorem dX7_cut_53 : decode cX7_cut 53 = .ok (.getfield 12, 3) := by decide +kernel
theorem dX7_cut_56 : decode cX7_cut 56 = .ok (.iload_n 1, 1) := by decide +kernel
theorem dX7_cut_57 : decode cX7_cut 57 = .ok (.iload_n 2, 1) := by decide +kernel
theorem dX7_cut_58 : decode cX7_cut 58 = .ok (.invokevirtual 83, 3) := by decide +kernel
theorem dX7_cut_61 : decode cX7_cut 61 = .ok (.aload_n 0, 1) := by decide +kernel
theorem dX7_cut_62 : decode cX7_cut 62 = .ok (.getfield 12, 3) := by decide +kernel
theorem dX7_cut_65 : decode cX7_cut 65 = .ok (.invokevirtual 70, 3) := by decide +kernel
theorem dX7_cut_68 : decode cX7_cut 68 = .ok (.ireturn, 1) := by decide +kernel
set_option maxRecDepth 20000 in
theorem ggX7_set_X7_isHere : GoodIn wsX7_set wsX7_isHere := goodIn_r _ [7, 2, 8, 9, 10, 6, 11, 12, 13, 14, 15, 16, 17, 18, 125, 126, 127, 128, 129, 130, 131, 132, 133, 134, 135, 136, 137, 138, 139, 140, 141, 142, 143, 144] (by decide +kernel) (by decide +kernel)
set_option maxRecDepth 20000 in
theorem gX7_set_X7_isHere : GoodIn wsX7_set (wsV RX7 86 RX7 yX7_isHere wsX7_isHere) := goodIn_app (goodIn_of _ (by decide +kernel)) ggX7_set_X7_isHere
set_option maxRecDepth 20000 in
theorem ggX7_set_X7_isValue : GoodIn wsX7_set wsX7_isValue := goodIn_r _ [21, 22, 23] (by decide +kernel) (by decide +kernel)
set_option maxRecDepth 20000 in
theorem gX7_set_X7_isValue : GoodIn wsX7_set (va_wsS RX7 45 yX7_isValue wsX7_isValue) := goodIn_app (goodIn_of _ (by decide +kernel)) ggX7_set_X7_isValue
set_option maxRecDepth 20000 in
theorem ggX7_set_X0_keep : GoodIn wsX7_set wsX0_keep := goodIn_r _ [28, 29, 30, 31, 32, 16, 33, 34, 35, 36, 37, 38, 39, 18, 40, 41, 42, 43, 44, 45, 46, 47, 48, 49, 50, 51, 52, 53, 54, 55, 56, 57, 58, 59, 60, 61, 62, 63, 64, 65, 66, 67, 68, 69, 70, 71, 72, 73, 74, 75, 76, 77, 78, 79, 80, 81, 82, 83, 84, 85, 86, 87, 88, 89, 90, 91, 92, 93, 94, 95, 96, 97, 98, 99, 100, 101, 102, 103, 104, 105, 106, 107, 145, 146, 147, 131, 132, 133, 134, 135, 136, 137, 138, 139, 140, 141, 142, 143, 144, 148, 149, 150, 151, 152, 153, 154, 155] (by decide +kernel) (by decide +kernel)
set_option maxRecDepth 20000 in
theorem gX7_set_X0_keep : GoodIn wsX7_set (wsV RX7 52 RX0 yX0_keep wsX0_keep) := goodIn_app (goodIn_of _ (by decide +kernel)) ggX7_set_X0_keep
set_option maxRecDepth 20000 in
theorem ggX7_set_X5_revalue : GoodIn wsX7_set wsX5_revalue := goodIn_r _ [111, 55, 43, 112, 113, 114, 115, 54, 116, 73, 74, 117, 118, 119, 16, 120, 39, 46, 121, 122, 123, 124, 44, 45, 131, 132, 133, 134, 135, 136, 137, 138, 139, 140, 141, 142, 143, 144, 151, 152] (by decide +kernel) (by decide +kernel)
set_option maxRecDepth 20000 in
theorem gX7_set_X5_revalue : GoodIn wsX7_set (wsV RX7 89 RX5 yX5_revalue wsX5_revalue) := goodIn_app (goodIn_of _ (by decide +kernel)) ggX7_set_X5_revalue
theorem dX7_set_0 : decode cX7_set 0 = .ok (.aload_n 0, 1) := by decide +kernel
theorem dX7_set_1 : decode cX7_set 1 = .ok (.iload_n 1, 1) := by decide +kernel
theorem dX7_set_2 : decode cX7_set 2 = .ok (.invokevirtual 86, 3) := by decide +kernel
theorem dX7_set_5 : decode cX7_set 5 = .ok (.ifCond .eq 10, 3) := by decide +kernel
theorem dX7_set_8 : decode cX7_set 8 = .ok (.iload_n 2, 1) := by decide +kernel
theorem dX7_set_9 : decode cX7_set 9 = .ok (.invokestatic 45, 3) := by decide +kernel
theorem dX7_set_12 : decode cX7_set 12 = .ok (.ifCond .ne 5, 3) := by decide +kernel
theorem dX7_set_15 : decode cX7_set 15 = .ok (.iconst (-1), 1) := by decide +kernel
theorem dX7_set_16 : decode cX7_set 16 = .ok (.ireturn, 1) := by decide +kernel
theorem dX7_set_17 : decode cX7_set 17 = .ok (.aload_n 0, 1) := by decide +kernel
theorem dX7_set_18 : decode cX7_set 18 = .ok (.getfield 19, 3) := by decide +kernel
theorem dX7_set_21 : decode cX7_set 21 = .ok (.aload_n 0, 1) := by decide +kernel
theorem dX7_set_22 : decode cX7_set 22 = .ok (.getfield 12, 3) := by decide +kernel
theorem dX7_set_25 : decode cX7_set 25 = .ok (.invokevirtual 52, 3) := by decide +kernel
theorem dX7_set_28 : decode cX7_set 28 = .ok (.aload_n 0, 1) := by decide +kernel
theorem dX7_set_29 : decode cX7_set 29 = .ok (.getfield 12, 3) := by decide +kernel
theorem dX7_set_32 : decode cX7_set 32 = .ok (.iload_n 1, 1) := by decide +kernel
theorem dX7_set_33 : decode cX7_set 33 = .ok (.iload_n 2, 1) := by decide +kernel
theorem dX7_set_34 : decode cX7_set 34 = .ok (.invokevirtual 89, 3) := by decide +kernel
theorem dX7_set_37 : decode cX7_set 37 = .ok (.iconst 1, 1) := by decide +kernel
theorem dX7_set_38 : decode cX7_set 38 = .ok (.ireturn, 1) := by decide +kernel
set_option maxRecDepth 20000 in
theorem ggX7_back_X7_isMember : GoodIn wsX7_back wsX7_isMember := goodIn_r _ [7, 1, 8, 139, 140, 141, 142, 143, 144, 145, 146, 147, 148, 149, 150, 151, 152, 153, 154, 155, 156, 157, 158] (by decide +kernel) (by decide +kernel)
set_option maxRecDepth 20000 in
theorem gX7_back_X7_isMember : GoodIn wsX7_back (wsV RX7 92 RX7 yX7_isMember wsX7_isMember) := goodIn_app (goodIn_of _ (by decide +kernel)) ggX7_back_X7_isMember
set_option maxRecDepth 20000 in
theorem ggX7_back_X5_isHere : GoodIn wsX7_back wsX5_isHere := goodIn_r _ [13, 14, 145, 146, 147, 148, 149, 150, 151, 152, 153, 154, 155, 156, 157, 158] (by decide +kernel) (by decide +kernel)
set_option maxRecDepth 20000 in
theorem gX7_back_X5_isHere : GoodIn wsX7_back (wsV RX7 95 RX5 yX5_isHere wsX5_isHere) := goodIn_app (goodIn_of _ (by decide +kernel)) ggX7_back_X5_isHere
set_option maxRecDepth 20000 in
theorem ggX7_back_X7_isValue : GoodIn wsX7_back wsX7_isValue := goodIn_r _ [17, 18, 19] (by decide +kernel) (by decide +kernel)
set_option maxRecDepth 20000 in
theorem gX7_back_X7_isValue : GoodIn wsX7_back (va_wsS RX7 45 yX7_isValue wsX7_isValue) := goodIn_app (goodIn_of _ (by decide +kernel)) ggX7_back_X7_isValue
set_option maxRecDepth 20000 in
theorem ggX7_back_X0_keep : GoodIn wsX7_back wsX0_keep := goodIn_r _ [24, 25, 26, 27, 28, 12, 29, 30, 31, 32, 33, 34, 35, 14, 36, 37, 38, 39, 40, 41, 42, 43, 44, 45, 46, 47, 48, 49, 50, 51, 52, 53, 54, 55, 56, 57, 58, 59, 60, 61, 62, 63, 64, 65, 66, 67, 68, 69, 70, 71, 72, 73, 74, 75, 76, 77, 78, 79, 80, 81, 82, 83, 84, 85, 86, 87, 88, 89, 90, 91, 92, 93, 94, 95, 96, 97, 98, 99, 100, 101, 102, 103, 159, 160, 161, 145, 146, 147, 148, 149, 150, 151, 152, 153, 154, 155, 156, 157, 158, 162, 163, 164, 165, 166, 167, 168, 169] (by decide +kernel) (by decide +kernel)
set_option maxRecDepth 20000 in
theorem gX7_back_X0_keep : GoodIn wsX7_back (wsV RX7 52 RX0 yX0_keep wsX0_keep) := goodIn_app (goodIn_of _ (by decide +kernel)) ggX7_back_X0_keep
set_option maxRecDepth 20000 in
theorem ggX7_back_X5_arrive : GoodIn wsX7_back wsX5_arrive := goodIn_r _ [107, 14, 39, 51, 108, 47, 109, 110, 111, 50, 112, 69, 70, 113, 114, 115, 12, 116, 35, 42, 117, 118, 119, 120, 40, 41, 121, 122, 123, 124, 36, 125, 126, 127, 128, 129, 46, 130, 61, 131, 132, 133, 134, 62, 63, 135, 136, 137, 138, 145, 146, 147, 148, 149, 150, 151, 152, 153, 154, 155, 156, 157, 158, 165, 166, 162, 163, 164] (by decide +kernel) (by decide +kernel)
set_option maxRecDepth 20000 in
theorem gX7_back_X5_arrive : GoodIn wsX7_back (wsV RX7 56 RX5 yX5_arrive wsX5_arrive) := goodIn_app (goodIn_of _ (by decide +kernel)) ggX7_back_X5_arrive
theorem dX7_back_0 : decode cX7_back 0 = .ok (.aload_n 0, 1) := by decide +kernel
theorem dX7_back_1 : decode cX7_back 1 = .ok (.iload_n 1, 1) := by decide +kernel
theorem dX7_back_2 : decode cX7_back 2 = .ok (.invokevirtual 92, 3) := by decide +kernel
theorem dX7_back_5 : decode cX7_back 5 = .ok (.ifCond .eq 21, 3) := by decide +kernel
theorem dX7_back_8 : decode cX7_back 8 = .ok (.aload_n 0, 1) := by decide +kernel
theorem dX7_back_9 : decode cX7_back 9 = .ok (.getfield 12, 3) := by decide +kernel
theorem dX7_back_12 : decode cX7_back 12 = .ok (.iload_n 1, 1) := by decide +kernel
theorem dX7_back_13 : decode cX7_back 13 = .ok (.invokevirtual 95, 3) := by decide +kernel
theorem dX7_back_16 : decode cX7_back 16 = .ok (.ifCond .ne 10, 3) := by decide +kernel
theorem dX7_back_19 : decode cX7_back 19 = .ok (.iload_n 2, 1) := by decide +kernel
theorem dX7_back_20 : decode cX7_back 20 = .ok (.invokestatic 45, 3) := by decide +kernel
theorem dX7_back_23 : decode cX7_back 23 = .ok (.ifCond .ne 5, 3) := by decide +kernel
theorem dX7_back_26 : decode cX7_back 26 = .ok (.iconst (-1), 1) := by decide +kernel
theorem dX7_back_27 : decode cX7_back 27 = .ok (.ireturn, 1) := by decide +kernel
theorem dX7_back_28 : decode cX7_back 28 = .ok (.aload_n 0, 1) := by decide +kernel
theorem dX7_back_29 : decode cX7_back 29 = .ok (.getfield 19, 3) := by decide +kernel
theorem dX7_back_32 : decode cX7_back 32 = .ok (.aload_n 0, 1) := by decide +kernel
theorem dX7_back_33 : decode cX7_back 33 = .ok (.getfield 12, 3) := by decide +kernel
theorem dX7_back_36 : decode cX7_back 36 = .ok (.invokevirtual 52, 3) := by decide +kernel
theorem dX7_back_39 : decode cX7_back 39 = .ok (.aload_n 0, 1) := by decide +kernel
theorem dX7_back_40 : decode cX7_back 40 = .ok (.getfield 12, 3) := by decide +kernel
theorem dX7_back_43 : decode cX7_back 43 = .ok (.iload_n 1, 1) := by decide +kernel
theorem dX7_back_44 : decode cX7_back 44 = .ok (.iload_n 2, 1) := by decide +kernel
theorem dX7_back_45 : decode cX7_back 45 = .ok (.invokevirtual 56, 3) := by decide +kernel
theorem dX7_back_48 : decode cX7_back 48 = .ok (.iconst 1, 1) := by decide +kernel
theorem dX7_back_49 : decode cX7_back 49 = .ok (.ireturn, 1) := by decide +kernel
set_option maxRecDepth 20000 in
theorem ggX7_fall_X7_isHere : GoodIn wsX7_fall wsX7_isHere := goodIn_r _ [7, 2, 8, 9, 10, 6, 11, 12, 13, 14, 15, 16, 17, 18, 155, 156, 157, 158, 159, 160, 161, 162, 163, 164, 165, 166, 167, 168, 169, 170, 171, 172, 173, 174] (by decide +kernel) (by decide +kernel)
set_option maxRecDepth 20000 in
theorem gX7_fall_X7_isHere : GoodIn wsX7_fall (wsV RX7 86 RX7 yX7_isHere wsX7_isHere) := goodIn_app (goodIn_of _ (by decide +kernel)) ggX7_fall_X7_isHere
set_option maxRecDepth 20000 in
theorem ggX7_fall_X0_keep : GoodIn wsX7_fall wsX0_keep := goodIn_r _ [23, 24, 25, 26, 27, 16, 28, 29, 30, 31, 32, 33, 34, 18, 35, 36, 37, 38, 39, 40, 41, 42, 43, 44, 45, 46, 47, 48, 49, 50, 51, 52, 53, 54, 55, 56, 57, 58, 59, 60, 61, 62, 63, 64, 65, 66, 67, 68, 69, 70, 71, 72, 73, 74, 75, 76, 77, 78, 79, 80, 81, 82, 83, 84, 85, 86, 87, 88, 89, 90, 91, 92, 93, 94, 95, 96, 97, 98, 99, 100, 101, 102, 175, 176, 177, 161, 162, 163, 164, 165, 166, 167, 168, 169, 170, 171, 172, 173, 174, 178, 179, 180, 181, 182, 183, 184, 185] (by decide +kernel) (by decide +kernel)
set_option maxRecDepth 20000 in
theorem gX7_fall_X0_keep : GoodIn wsX7_fall (wsV RX7 52 RX0 yX0_keep wsX0_keep) := goodIn_app (goodIn_of _ (by decide +kernel)) ggX7_fall_X0_keep
set_option maxRecDepth 20000 in
theorem ggX7_fall_X5_strike : GoodIn wsX7_fall wsX5_strike := goodIn_r _ [106, 56, 34, 50, 51, 52, 107, 108, 109, 55, 110, 111, 112, 113, 114, 74, 75, 115, 116, 117, 118, 119, 120, 121, 122, 123, 124, 125, 126, 127, 128, 129, 130, 77, 131, 132, 133, 49, 134, 68, 69, 135, 14, 15, 16, 17, 18, 136, 6, 137, 138, 139, 140, 141, 142, 143, 144, 145, 146, 147, 148, 149, 150, 151, 152, 153, 154, 161, 162, 163, 164, 165, 166, 167, 168, 169, 170, 171, 172, 173, 174, 183, 184, 185, 181, 182] (by decide +kernel) (by decide +kernel)
set_option maxRecDepth 20000 in
theorem gX7_fall_X5_strike : GoodIn wsX7_fall (wsV RX7 96 RX5 yX5_strike wsX5_strike) := goodIn_app (goodIn_of _ (by decide +kernel)) ggX7_fall_X5_strike
