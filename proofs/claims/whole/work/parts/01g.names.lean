theorem dX8_many_0 : decode cX8_many 0 = .ok (.aload_n 0, 1) := by decide +kernel
theorem dX8_many_1 : decode cX8_many 1 = .ok (.iload_n 1, 1) := by decide +kernel
theorem dX8_many_2 : decode cX8_many 2 = .ok (.invokevirtual 101, 3) := by decide +kernel
theorem dX8_many_5 : decode cX8_many 5 = .ok (.ifCond .ne 7, 3) := by decide +kernel
theorem dX8_many_8 : decode cX8_many 8 = .ok (.ldc2_w 63, 3) := by decide +kernel
theorem dX8_many_11 : decode cX8_many 11 = .ok (.lreturn, 1) := by decide +kernel
theorem dX8_many_12 : decode cX8_many 12 = .ok (.aload_n 0, 1) := by decide +kernel
theorem dX8_many_13 : decode cX8_many 13 = .ok (.getfield 7, 3) := by decide +kernel
theorem dX8_many_16 : decode cX8_many 16 = .ok (.bipush 83, 2) := by decide +kernel
theorem dX8_many_18 : decode cX8_many 18 = .ok (.iload_n 1, 1) := by decide +kernel
theorem dX8_many_19 : decode cX8_many 19 = .ok (.iadd, 1) := by decide +kernel
theorem dX8_many_20 : decode cX8_many 20 = .ok (.laload, 1) := by decide +kernel
theorem dX8_many_21 : decode cX8_many 21 = .ok (.ldc2_w 175, 3) := by decide +kernel
theorem dX8_many_24 : decode cX8_many 24 = .ok (.lcmp, 1) := by decide +kernel
theorem dX8_many_25 : decode cX8_many 25 = .ok (.ifCond .ge 17, 3) := by decide +kernel
theorem dX8_many_28 : decode cX8_many 28 = .ok (.aload_n 0, 1) := by decide +kernel
theorem dX8_many_29 : decode cX8_many 29 = .ok (.getfield 7, 3) := by decide +kernel
theorem dX8_many_32 : decode cX8_many 32 = .ok (.bipush 83, 2) := by decide +kernel
theorem dX8_many_34 : decode cX8_many 34 = .ok (.iload_n 1, 1) := by decide +kernel
theorem dX8_many_35 : decode cX8_many 35 = .ok (.iadd, 1) := by decide +kernel
theorem dX8_many_36 : decode cX8_many 36 = .ok (.laload, 1) := by decide +kernel
theorem dX8_many_37 : decode cX8_many 37 = .ok (.l2d, 1) := by decide +kernel
theorem dX8_many_38 : decode cX8_many 38 = .ok (.invokestatic 159, 3) := by decide +kernel
theorem dX8_many_41 : decode cX8_many 41 = .ok (.lreturn, 1) := by decide +kernel
theorem dX8_many_42 : decode cX8_many 42 = .ok (.ldc2_w 177, 3) := by decide +kernel
theorem dX8_many_45 : decode cX8_many 45 = .ok (.aload_n 0, 1) := by decide +kernel
theorem dX8_many_46 : decode cX8_many 46 = .ok (.getfield 7, 3) := by decide +kernel
theorem dX8_many_49 : decode cX8_many 49 = .ok (.bipush 93, 2) := by decide +kernel
theorem dX8_many_51 : decode cX8_many 51 = .ok (.iconst 4, 1) := by decide +kernel
theorem dX8_many_52 : decode cX8_many 52 = .ok (.iload_n 1, 1) := by decide +kernel
theorem dX8_many_53 : decode cX8_many 53 = .ok (.imul, 1) := by decide +kernel
theorem dX8_many_54 : decode cX8_many 54 = .ok (.iadd, 1) := by decide +kernel
theorem dX8_many_55 : decode cX8_many 55 = .ok (.iconst 3, 1) := by decide +kernel
theorem dX8_many_56 : decode cX8_many 56 = .ok (.iadd, 1) := by decide +kernel
theorem dX8_many_57 : decode cX8_many 57 = .ok (.laload, 1) := by decide +kernel
theorem dX8_many_58 : decode cX8_many 58 = .ok (.l2d, 1) := by decide +kernel
theorem dX8_many_59 : decode cX8_many 59 = .ok (.ddiv, 1) := by decide +kernel
theorem dX8_many_60 : decode cX8_many 60 = .ok (.invokestatic 159, 3) := by decide +kernel
theorem dX8_many_63 : decode cX8_many 63 = .ok (.lreturn, 1) := by decide +kernel
set_option maxRecDepth 20000 in
theorem ggX8_ticket_X8_isMember : GoodIn wsX8_ticket wsX8_isMember := goodIn_r _ [6, 1, 7, 8, 5, 9, 14, 15, 16, 17, 18, 19, 20, 21, 22, 23, 24, 25, 26] (by decide +kernel) (by decide +kernel)
set_option maxRecDepth 20000 in
theorem gX8_ticket_X8_isMember : GoodIn wsX8_ticket (wsV RX8 49 RX8 yX8_isMember wsX8_isMember) := goodIn_app (goodIn_of _ (by decide +kernel)) ggX8_ticket_X8_isMember
set_option maxRecDepth 20000 in
theorem ggX8_ticket_X8_isHere : GoodIn wsX8_ticket wsX8_isHere := goodIn_r _ [13, 1, 2, 3, 4, 5, 6, 7, 8, 9, 14, 15, 16, 17, 18, 19, 20, 21, 22, 23, 24, 25, 26] (by decide +kernel) (by decide +kernel)
set_option maxRecDepth 20000 in
theorem gX8_ticket_X8_isHere : GoodIn wsX8_ticket (wsV RX8 101 RX8 yX8_isHere wsX8_isHere) := goodIn_app (goodIn_of _ (by decide +kernel)) ggX8_ticket_X8_isHere
set_option maxRecDepth 20000 in
theorem ggX8_ticket_X8_in : GoodIn wsX8_ticket wsX8_in := goodIn_r _ [9] (by decide +kernel) (by decide +kernel)
set_option maxRecDepth 20000 in
theorem gX8_ticket_X8_in : GoodIn wsX8_ticket (va_wsS RX8 45 yX8_in wsX8_in) := goodIn_app (goodIn_of _ (by decide +kernel)) ggX8_ticket_X8_in
theorem dX8_ticket_0 : decode cX8_ticket 0 = .ok (.aload_n 0, 1) := by decide +kernel
theorem dX8_ticket_1 : decode cX8_ticket 1 = .ok (.iload_n 1, 1) := by decide +kernel
theorem dX8_ticket_2 : decode cX8_ticket 2 = .ok (.invokevirtual 49, 3) := by decide +kernel
theorem dX8_ticket_5 : decode cX8_ticket 5 = .ok (.ifCond .ne 5, 3) := by decide +kernel
theorem dX8_ticket_8 : decode cX8_ticket 8 = .ok (.iconst (-1), 1) := by decide +kernel
theorem dX8_ticket_9 : decode cX8_ticket 9 = .ok (.ireturn, 1) := by decide +kernel
theorem dX8_ticket_10 : decode cX8_ticket 10 = .ok (.aload_n 0, 1) := by decide +kernel
theorem dX8_ticket_11 : decode cX8_ticket 11 = .ok (.iload_n 1, 1) := by decide +kernel
theorem dX8_ticket_12 : decode cX8_ticket 12 = .ok (.invokevirtual 101, 3) := by decide +kernel
theorem dX8_ticket_15 : decode cX8_ticket 15 = .ok (.ifCond .ne 6, 3) := by decide +kernel
theorem dX8_ticket_18 : decode cX8_ticket 18 = .ok (.bipush (-2), 2) := by decide +kernel
theorem dX8_ticket_20 : decode cX8_ticket 20 = .ok (.ireturn, 1) := by decide +kernel
theorem dX8_ticket_21 : decode cX8_ticket 21 = .ok (.iload_n 2, 1) := by decide +kernel
theorem dX8_ticket_22 : decode cX8_ticket 22 = .ok (.i2l, 1) := by decide +kernel
theorem dX8_ticket_23 : decode cX8_ticket 23 = .ok (.lconst 0, 1) := by decide +kernel
theorem dX8_ticket_24 : decode cX8_ticket 24 = .ok (.aload_n 0, 1) := by decide +kernel
theorem dX8_ticket_25 : decode cX8_ticket 25 = .ok (.getfield 7, 3) := by decide +kernel
theorem dX8_ticket_28 : decode cX8_ticket 28 = .ok (.bipush 83, 2) := by decide +kernel
theorem dX8_ticket_30 : decode cX8_ticket 30 = .ok (.iload_n 1, 1) := by decide +kernel
theorem dX8_ticket_31 : decode cX8_ticket 31 = .ok (.iadd, 1) := by decide +kernel
theorem dX8_ticket_32 : decode cX8_ticket 32 = .ok (.laload, 1) := by decide +kernel
theorem dX8_ticket_33 : decode cX8_ticket 33 = .ok (.lconst 1, 1) := by decide +kernel
theorem dX8_ticket_34 : decode cX8_ticket 34 = .ok (.lsub, 1) := by decide +kernel
theorem dX8_ticket_35 : decode cX8_ticket 35 = .ok (.invokestatic 45, 3) := by decide +kernel
theorem dX8_ticket_38 : decode cX8_ticket 38 = .ok (.ifCond .eq 20, 3) := by decide +kernel
theorem dX8_ticket_41 : decode cX8_ticket 41 = .ok (.aload_n 0, 1) := by decide +kernel
theorem dX8_ticket_42 : decode cX8_ticket 42 = .ok (.getfield 7, 3) := by decide +kernel
theorem dX8_ticket_45 : decode cX8_ticket 45 = .ok (.bipush 93, 2) := by decide +kernel
theorem dX8_ticket_47 : decode cX8_ticket 47 = .ok (.iconst 4, 1) := by decide +kernel
theorem dX8_ticket_48 : decode cX8_ticket 48 = .ok (.iload_n 1, 1) := by decide +kernel
theorem dX8_ticket_49 : decode cX8_ticket 49 = .ok (.imul, 1) := by decide +kernel
theorem dX8_ticket_50 : decode cX8_ticket 50 = .ok (.iadd, 1) := by decide +kernel
theorem dX8_ticket_51 : decode cX8_ticket 51 = .ok (.iload_n 2, 1) := by decide +kernel
theorem dX8_ticket_52 : decode cX8_ticket 52 = .ok (.iadd, 1) := by decide +kernel
theorem dX8_ticket_53 : decode cX8_ticket 53 = .ok (.laload, 1) := by decide +kernel
theorem dX8_ticket_54 : decode cX8_ticket 54 = .ok (.l2i, 1) := by decide +kernel
theorem dX8_ticket_55 : decode cX8_ticket 55 = .ok (.goto 5, 3) := by decide +kernel
theorem dX8_ticket_58 : decode cX8_ticket 58 = .ok (.bipush (-4), 2) := by decide +kernel
theorem dX8_ticket_60 : decode cX8_ticket 60 = .ok (.ireturn, 1) := by decide +kernel
set_option maxRecDepth 20000 in
theorem ggX8_areLike_X8_isHere : GoodIn wsX8_areLike wsX8_isHere := goodIn_r _ [7, 8, 9, 10, 11, 6, 12, 13, 14, 15, 16, 17, 18, 19, 20, 21, 22, 23, 24, 25, 26, 27, 28] (by decide +kernel) (by decide +kernel)
set_option maxRecDepth 20000 in
theorem gX8_areLike_X8_isHere : GoodIn wsX8_areLike (wsV RX8 101 RX8 yX8_isHere wsX8_isHere) := goodIn_app (goodIn_of _ (by decide +kernel)) ggX8_areLike_X8_isHere
theorem dX8_areLike_0 : decode cX8_areLike 0 = .ok (.iconst (-1), 1) := by decide +kernel
theorem dX8_areLike_1 : decode cX8_areLike 1 = .ok (.istore_n 2, 1) := by decide +kernel
theorem dX8_areLike_2 : decode cX8_areLike 2 = .ok (.iconst 0, 1) := by decide +kernel
theorem dX8_areLike_3 : decode cX8_areLike 3 = .ok (.istore_n 3, 1) := by decide +kernel
theorem dX8_areLike_4 : decode cX8_areLike 4 = .ok (.iload_n 3, 1) := by decide +kernel
theorem dX8_areLike_5 : decode cX8_areLike 5 = .ok (.bipush 10, 2) := by decide +kernel
theorem dX8_areLike_7 : decode cX8_areLike 7 = .ok (.if_icmp .ge 77, 3) := by decide +kernel
theorem dX8_areLike_10 : decode cX8_areLike 10 = .ok (.aload_n 0, 1) := by decide +kernel
theorem dX8_areLike_11 : decode cX8_areLike 11 = .ok (.iload_n 3, 1) := by decide +kernel
theorem dX8_areLike_12 : decode cX8_areLike 12 = .ok (.invokevirtual 101, 3) := by decide +kernel
theorem dX8_areLike_15 : decode cX8_areLike 15 = .ok (.ifCond .eq 63, 3) := by decide +kernel
theorem dX8_areLike_18 : decode cX8_areLike 18 = .ok (.iload_n 2, 1) := by decide +kernel
theorem dX8_areLike_19 : decode cX8_areLike 19 = .ok (.ifCond .lt 57, 3) := by decide +kernel
theorem dX8_areLike_22 : decode cX8_areLike 22 = .ok (.aload_n 0, 1) := by decide +kernel
theorem dX8_areLike_23 : decode cX8_areLike 23 = .ok (.getfield 29, 3) := by decide +kernel
theorem dX8_areLike_26 : decode cX8_areLike 26 = .ok (.bipush 10, 2) := by decide +kernel
theorem dX8_areLike_28 : decode cX8_areLike 28 = .ok (.iload_n 1, 1) := by decide +kernel
theorem dX8_areLike_29 : decode cX8_areLike 29 = .ok (.imul, 1) := by decide +kernel
theorem dX8_areLike_30 : decode cX8_areLike 30 = .ok (.iload_n 3, 1) := by decide +kernel
theorem dX8_areLike_31 : decode cX8_areLike 31 = .ok (.iadd, 1) := by decide +kernel
theorem dX8_areLike_32 : decode cX8_areLike 32 = .ok (.laload, 1) := by decide +kernel
theorem dX8_areLike_33 : decode cX8_areLike 33 = .ok (.aload_n 0, 1) := by decide +kernel
theorem dX8_areLike_34 : decode cX8_areLike 34 = .ok (.getfield 29, 3) := by decide +kernel
theorem dX8_areLike_37 : decode cX8_areLike 37 = .ok (.bipush 10, 2) := by decide +kernel
theorem dX8_areLike_39 : decode cX8_areLike 39 = .ok (.iload_n 1, 1) := by decide +kernel
theorem dX8_areLike_40 : decode cX8_areLike 40 = .ok (.imul, 1) := by decide +kernel
theorem dX8_areLike_41 : decode cX8_areLike 41 = .ok (.iload_n 2, 1) := by decide +kernel
theorem dX8_areLike_42 : decode cX8_areLike 42 = .ok (.iadd, 1) := by decide +kernel
theorem dX8_areLike_43 : decode cX8_areLike 43 = .ok (.laload, 1) := by decide +kernel
theorem dX8_areLike_44 : decode cX8_areLike 44 = .ok (.lcmp, 1) := by decide +kernel
theorem dX8_areLike_45 : decode cX8_areLike 45 = .ok (.ifCond .ne 29, 3) := by decide +kernel
theorem dX8_areLike_48 : decode cX8_areLike 48 = .ok (.aload_n 0, 1) := by decide +kernel
theorem dX8_areLike_49 : decode cX8_areLike 49 = .ok (.getfield 32, 3) := by decide +kernel
theorem dX8_areLike_52 : decode cX8_areLike 52 = .ok (.bipush 10, 2) := by decide +kernel
theorem dX8_areLike_54 : decode cX8_areLike 54 = .ok (.iload_n 1, 1) := by decide +kernel
theorem dX8_areLike_55 : decode cX8_areLike 55 = .ok (.imul, 1) := by decide +kernel
theorem dX8_areLike_56 : decode cX8_areLike 56 = .ok (.iload_n 3, 1) := by decide +kernel
theorem dX8_areLike_57 : decode cX8_areLike 57 = .ok (.iadd, 1) := by decide +kernel
theorem dX8_areLike_58 : decode cX8_areLike 58 = .ok (.laload, 1) := by decide +kernel
theorem dX8_areLike_59 : decode cX8_areLike 59 = .ok (.aload_n 0, 1) := by decide +kernel
theorem dX8_areLike_60 : decode cX8_areLike 60 = .ok (.getfield 32, 3) := by decide +kernel
theorem dX8_areLike_63 : decode cX8_areLike 63 = .ok (.bipush 10, 2) := by decide +kernel
theorem dX8_areLike_65 : decode cX8_areLike 65 = .ok (.iload_n 1, 1) := by decide +kernel
theorem dX8_areLike_66 : decode cX8_areLike 66 = .ok (.imul, 1) := by decide +kernel
theorem dX8_areLike_67 : decode cX8_areLike 67 = .ok (.iload_n 2, 1) := by decide +kernel
theorem dX8_areLike_68 : decode cX8_areLike 68 = .ok (.iadd, 1) := by decide +kernel
theorem dX8_areLike_69 : decode cX8_areLike 69 = .ok (.laload, 1) := by decide +kernel
theorem dX8_areLike_70 : decode cX8_areLike 70 = .ok (.lcmp, 1) := by decide +kernel
theorem dX8_areLike_71 : decode cX8_areLike 71 = .ok (.ifCond .eq 5, 3) := by decide +kernel
theorem dX8_areLike_74 : decode cX8_areLike 74 = .ok (.iconst 0, 1) := by decide +kernel
theorem dX8_areLike_75 : decode cX8_areLike 75 = .ok (.ireturn, 1) := by decide +kernel
theorem dX8_areLike_76 : decode cX8_areLike 76 = .ok (.iload_n 3, 1) := by decide +kernel
theorem dX8_areLike_77 : decode cX8_areLike 77 = .ok (.istore_n 2, 1) := by decide +kernel
theorem dX8_areLike_78 : decode cX8_areLike 78 = .ok (.iinc 3 1, 3) := by decide +kernel
theorem dX8_areLike_81 : decode cX8_areLike 81 = .ok (.goto (-77), 3) := by decide +kernel
theorem dX8_areLike_84 : decode cX8_areLike 84 = .ok (.iconst 1, 1) := by decide +kernel
theorem dX8_areLike_85 : decode cX8_areLike 85 = .ok (.ireturn, 1) := by decide +kernel
theorem dX8_evens_0 : decode cX8_evens 0 = .ok (.iconst 0, 1) := by decide +kernel
theorem dX8_evens_1 : decode cX8_evens 1 = .ok (.istore_n 3, 1) := by decide +kernel
theorem dX8_evens_2 : decode cX8_evens 2 = .ok (.iload_n 3, 1) := by decide +kernel
theorem dX8_evens_3 : decode cX8_evens 3 = .ok (.bipush 10, 2) := by decide +kernel
theorem dX8_evens_5 : decode cX8_evens 5 = .ok (.if_icmp .ge 59, 3) := by decide +kernel
theorem dX8_evens_8 : decode cX8_evens 8 = .ok (.aload_n 0, 1) := by decide +kernel
theorem dX8_evens_9 : decode cX8_evens 9 = .ok (.getfield 29, 3) := by decide +kernel
theorem dX8_evens_12 : decode cX8_evens 12 = .ok (.bipush 10, 2) := by decide +kernel
theorem dX8_evens_14 : decode cX8_evens 14 = .ok (.iload_n 1, 1) := by decide +kernel
theorem dX8_evens_15 : decode cX8_evens 15 = .ok (.imul, 1) := by decide +kernel
theorem dX8_evens_16 : decode cX8_evens 16 = .ok (.bipush 10, 2) := by decide +kernel
theorem dX8_evens_18 : decode cX8_evens 18 = .ok (.iadd, 1) := by decide +kernel
theorem dX8_evens_19 : decode cX8_evens 19 = .ok (.iload_n 3, 1) := by decide +kernel
theorem dX8_evens_20 : decode cX8_evens 20 = .ok (.iadd, 1) := by decide +kernel
theorem dX8_evens_21 : decode cX8_evens 21 = .ok (.aload_n 0, 1) := by decide +kernel
theorem dX8_evens_22 : decode cX8_evens 22 = .ok (.getfield 29, 3) := by decide +kernel
theorem dX8_evens_25 : decode cX8_evens 25 = .ok (.bipush 10, 2) := by decide +kernel
theorem dX8_evens_27 : decode cX8_evens 27 = .ok (.iload_n 1, 1) := by decide +kernel
theorem dX8_evens_28 : decode cX8_evens 28 = .ok (.imul, 1) := by decide +kernel
theorem dX8_evens_29 : decode cX8_evens 29 = .ok (.iload_n 3, 1) := by decide +kernel
theorem dX8_evens_30 : decode cX8_evens 30 = .ok (.iadd, 1) := by decide +kernel
theorem dX8_evens_31 : decode cX8_evens 31 = .ok (.laload, 1) := by decide +kernel
theorem dX8_evens_32 : decode cX8_evens 32 = .ok (.lastore, 1) := by decide +kernel
theorem dX8_evens_33 : decode cX8_evens 33 = .ok (.aload_n 0, 1) := by decide +kernel
theorem dX8_evens_34 : decode cX8_evens 34 = .ok (.getfield 32, 3) := by decide +kernel
theorem dX8_evens_37 : decode cX8_evens 37 = .ok (.bipush 10, 2) := by decide +kernel
theorem dX8_evens_39 : decode cX8_evens 39 = .ok (.iload_n 1, 1) := by decide +kernel
theorem dX8_evens_40 : decode cX8_evens 40 = .ok (.imul, 1) := by decide +kernel
theorem dX8_evens_41 : decode cX8_evens 41 = .ok (.bipush 10, 2) := by decide +kernel
theorem dX8_evens_43 : decode cX8_evens 43 = .ok (.iadd, 1) := by decide +kernel
theorem dX8_evens_44 : decode cX8_evens 44 = .ok (.iload_n 3, 1) := by decide +kernel
theorem dX8_evens_45 : decode cX8_evens 45 = .ok (.iadd, 1) := by decide +kernel
theorem dX8_evens_46 : decode cX8_evens 46 = .ok (.aload_n 0, 1) := by decide +kernel
theorem dX8_evens_47 : decode cX8_evens 47 = .ok (.getfield 32, 3) := by decide +kernel
theorem dX8_evens_50 : decode cX8_evens 50 = .ok (.bipush 10, 2) := by decide +kernel
theorem dX8_evens_52 : decode cX8_evens 52 = .ok (.iload_n 1, 1) := by decide +kernel
theorem dX8_evens_53 : decode cX8_evens 53 = .ok (.imul, 1) := by decide +kernel
theorem dX8_evens_54 : decode cX8_evens 54 = .ok (.iload_n 3, 1) := by decide +kernel
theorem dX8_evens_55 : decode cX8_evens 55 = .ok (.iadd, 1) := by decide +kernel
theorem dX8_evens_56 : decode cX8_evens 56 = .ok (.laload, 1) := by decide +kernel
theorem dX8_evens_57 : decode cX8_evens 57 = .ok (.lastore, 1) := by decide +kernel
theorem dX8_evens_58 : decode cX8_evens 58 = .ok (.iinc 3 1, 3) := by decide +kernel
theorem dX8_evens_61 : decode cX8_evens 61 = .ok (.goto (-59), 3) := by decide +kernel
theorem dX8_evens_64 : decode cX8_evens 64 = .ok (.bipush 10, 2) := by decide +kernel
theorem dX8_evens_66 : decode cX8_evens 66 = .ok (.iload_n 1, 1) := by decide +kernel
theorem dX8_evens_67 : decode cX8_evens 67 = .ok (.imul, 1) := by decide +kernel
theorem dX8_evens_68 : decode cX8_evens 68 = .ok (.bipush 10, 2) := by decide +kernel
theorem dX8_evens_70 : decode cX8_evens 70 = .ok (.iadd, 1) := by decide +kernel
theorem dX8_evens_71 : decode cX8_evens 71 = .ok (.istore_n 3, 1) := by decide +kernel
theorem dX8_evens_72 : decode cX8_evens 72 = .ok (.aload_n 0, 1) := by decide +kernel
theorem dX8_evens_73 : decode cX8_evens 73 = .ok (.getfield 29, 3) := by decide +kernel
theorem dX8_evens_76 : decode cX8_evens 76 = .ok (.iload_n 3, 1) := by decide +kernel
theorem dX8_evens_77 : decode cX8_evens 77 = .ok (.aload_n 0, 1) := by decide +kernel
theorem dX8_evens_78 : decode cX8_evens 78 = .ok (.getfield 22, 3) := by decide +kernel
theorem dX8_evens_81 : decode cX8_evens 81 = .ok (.iload_n 2, 1) := by decide +kernel
theorem dX8_evens_82 : decode cX8_evens 82 = .ok (.iaload, 1) := by decide +kernel
theorem dX8_evens_83 : decode cX8_evens 83 = .ok (.iadd, 1) := by decide +kernel
theorem dX8_evens_84 : decode cX8_evens 84 = .ok (.laload, 1) := by decide +kernel
theorem dX8_evens_85 : decode cX8_evens 85 = .ok (.aload_n 0, 1) := by decide +kernel
theorem dX8_evens_86 : decode cX8_evens 86 = .ok (.getfield 29, 3) := by decide +kernel
theorem dX8_evens_89 : decode cX8_evens 89 = .ok (.iload_n 3, 1) := by decide +kernel
theorem dX8_evens_90 : decode cX8_evens 90 = .ok (.aload_n 0, 1) := by decide +kernel
theorem dX8_evens_91 : decode cX8_evens 91 = .ok (.getfield 26, 3) := by decide +kernel
theorem dX8_evens_94 : decode cX8_evens 94 = .ok (.iload_n 2, 1) := by decide +kernel
theorem dX8_evens_95 : decode cX8_evens 95 = .ok (.iaload, 1) := by decide +kernel
theorem dX8_evens_96 : decode cX8_evens 96 = .ok (.iadd, 1) := by decide +kernel
theorem dX8_evens_97 : decode cX8_evens 97 = .ok (.laload, 1) := by decide +kernel
theorem dX8_evens_98 : decode cX8_evens 98 = .ok (.ladd, 1) := by decide +kernel
theorem dX8_evens_99 : decode cX8_evens 99 = .ok (.lstore 4, 2) := by decide +kernel
theorem dX8_evens_101 : decode cX8_evens 101 = .ok (.aload_n 0, 1) := by decide +kernel
theorem dX8_evens_102 : decode cX8_evens 102 = .ok (.getfield 32, 3) := by decide +kernel
theorem dX8_evens_105 : decode cX8_evens 105 = .ok (.iload_n 3, 1) := by decide +kernel
theorem dX8_evens_106 : decode cX8_evens 106 = .ok (.aload_n 0, 1) := by decide +kernel
theorem dX8_evens_107 : decode cX8_evens 107 = .ok (.getfield 22, 3) := by decide +kernel
theorem dX8_evens_110 : decode cX8_evens 110 = .ok (.iload_n 2, 1) := by decide +kernel
theorem dX8_evens_111 : decode cX8_evens 111 = .ok (.iaload, 1) := by decide +kernel
theorem dX8_evens_112 : decode cX8_evens 112 = .ok (.iadd, 1) := by decide +kernel
theorem dX8_evens_113 : decode cX8_evens 113 = .ok (.laload, 1) := by decide +kernel
theorem dX8_evens_114 : decode cX8_evens 114 = .ok (.aload_n 0, 1) := by decide +kernel
theorem dX8_evens_115 : decode cX8_evens 115 = .ok (.getfield 32, 3) := by decide +kernel
theorem dX8_evens_118 : decode cX8_evens 118 = .ok (.iload_n 3, 1) := by decide +kernel
theorem dX8_evens_119 : decode cX8_evens 119 = .ok (.aload_n 0, 1) := by decide +kernel
theorem dX8_evens_120 : decode cX8_evens 120 = .ok (.getfield 26, 3) := by decide +kernel
theorem dX8_evens_123 : decode cX8_evens 123 = .ok (.iload_n 2, 1) := by decide +kernel
theorem dX8_evens_124 : decode cX8_evens 124 = .ok (.iaload, 1) := by decide +kernel
theorem dX8_evens_125 : decode cX8_evens 125 = .ok (.iadd, 1) := by decide +kernel
theorem dX8_evens_126 : decode cX8_evens 126 = .ok (.laload, 1) := by decide +kernel
theorem dX8_evens_127 : decode cX8_evens 127 = .ok (.ladd, 1) := by decide +kernel
theorem dX8_evens_128 : decode cX8_evens 128 = .ok (.lstore 6, 2) := by decide +kernel
theorem dX8_evens_130 : decode cX8_evens 130 = .ok (.aload_n 0, 1) := by decide +kernel
theorem dX8_evens_131 : decode cX8_evens 131 = .ok (.getfield 29, 3) := by decide +kernel
theorem dX8_evens_134 : decode cX8_evens 134 = .ok (.iload_n 3, 1) := by decide +kernel
theorem dX8_evens_135 : decode cX8_evens 135 = .ok (.aload_n 0, 1) := by decide +kernel
theorem dX8_evens_136 : decode cX8_evens 136 = .ok (.getfield 26, 3) := by decide +kernel
theorem dX8_evens_139 : decode cX8_evens 139 = .ok (.iload_n 2, 1) := by decide +kernel
theorem dX8_evens_140 : decode cX8_evens 140 = .ok (.iaload, 1) := by decide +kernel
theorem dX8_evens_141 : decode cX8_evens 141 = .ok (.iadd, 1) := by decide +kernel
theorem dX8_evens_142 : decode cX8_evens 142 = .ok (.lload 4, 2) := by decide +kernel
theorem dX8_evens_144 : decode cX8_evens 144 = .ok (.iconst 1, 1) := by decide +kernel
theorem dX8_evens_145 : decode cX8_evens 145 = .ok (.lshr, 1) := by decide +kernel
theorem dX8_evens_146 : decode cX8_evens 146 = .ok (.lastore, 1) := by decide +kernel
theorem dX8_evens_147 : decode cX8_evens 147 = .ok (.aload_n 0, 1) := by decide +kernel
theorem dX8_evens_148 : decode cX8_evens 148 = .ok (.getfield 29, 3) := by decide +kernel
theorem dX8_evens_151 : decode cX8_evens 151 = .ok (.iload_n 3, 1) := by decide +kernel
theorem dX8_evens_152 : decode cX8_evens 152 = .ok (.aload_n 0, 1) := by decide +kernel
theorem dX8_evens_153 : decode cX8_evens 153 = .ok (.getfield 22, 3) := by decide +kernel
theorem dX8_evens_156 : decode cX8_evens 156 = .ok (.iload_n 2, 1) := by decide +kernel
theorem dX8_evens_157 : decode cX8_evens 157 = .ok (.iaload, 1) := by decide +kernel
theorem dX8_evens_158 : decode cX8_evens 158 = .ok (.iadd, 1) := by decide +kernel
theorem dX8_evens_159 : decode cX8_evens 159 = .ok (.lload 4, 2) := by decide +kernel
theorem dX8_evens_161 : decode cX8_evens 161 = .ok (.lload 4, 2) := by decide +kernel
theorem dX8_evens_163 : decode cX8_evens 163 = .ok (.iconst 1, 1) := by decide +kernel
theorem dX8_evens_164 : decode cX8_evens 164 = .ok (.lshr, 1) := by decide +kernel
theorem dX8_evens_165 : decode cX8_evens 165 = .ok (.lsub, 1) := by decide +kernel
theorem dX8_evens_166 : decode cX8_evens 166 = .ok (.lastore, 1) := by decide +kernel
theorem dX8_evens_167 : decode cX8_evens 167 = .ok (.aload_n 0, 1) := by decide +kernel
theorem dX8_evens_168 : decode cX8_evens 168 = .ok (.getfield 32, 3) := by decide +kernel
theorem dX8_evens_171 : decode cX8_evens 171 = .ok (.iload_n 3, 1) := by decide +kernel
theorem dX8_evens_172 : decode cX8_evens 172 = .ok (.aload_n 0, 1) := by decide +kernel
theorem dX8_evens_173 : decode cX8_evens 173 = .ok (.getfield 26, 3) := by decide +kernel
theorem dX8_evens_176 : decode cX8_evens 176 = .ok (.iload_n 2, 1) := by decide +kernel
theorem dX8_evens_177 : decode cX8_evens 177 = .ok (.iaload, 1) := by decide +kernel
theorem dX8_evens_178 : decode cX8_evens 178 = .ok (.iadd, 1) := by decide +kernel
theorem dX8_evens_179 : decode cX8_evens 179 = .ok (.lload 6, 2) := by decide +kernel
theorem dX8_evens_181 : decode cX8_evens 181 = .ok (.iconst 1, 1) := by decide +kernel
theorem dX8_evens_182 : decode cX8_evens 182 = .ok (.lshr, 1) := by decide +kernel
theorem dX8_evens_183 : decode cX8_evens 183 = .ok (.lastore, 1) := by decide +kernel
theorem dX8_evens_184 : decode cX8_evens 184 = .ok (.aload_n 0, 1) := by decide +kernel
theorem dX8_evens_185 : decode cX8_evens 185 = .ok (.getfield 32, 3) := by decide +kernel
theorem dX8_evens_188 : decode cX8_evens 188 = .ok (.iload_n 3, 1) := by decide +kernel
theorem dX8_evens_189 : decode cX8_evens 189 = .ok (.aload_n 0, 1) := by decide +kernel
theorem dX8_evens_190 : decode cX8_evens 190 = .ok (.getfield 22, 3) := by decide +kernel
theorem dX8_evens_193 : decode cX8_evens 193 = .ok (.iload_n 2, 1) := by decide +kernel
theorem dX8_evens_194 : decode cX8_evens 194 = .ok (.iaload, 1) := by decide +kernel
theorem dX8_evens_195 : decode cX8_evens 195 = .ok (.iadd, 1) := by decide +kernel
theorem dX8_evens_196 : decode cX8_evens 196 = .ok (.lload 6, 2) := by decide +kernel
theorem dX8_evens_198 : decode cX8_evens 198 = .ok (.lload 6, 2) := by decide +kernel
theorem dX8_evens_200 : decode cX8_evens 200 = .ok (.iconst 1, 1) := by decide +kernel
theorem dX8_evens_201 : decode cX8_evens 201 = .ok (.lshr, 1) := by decide +kernel
theorem dX8_evens_202 : decode cX8_evens 202 = .ok (.lsub, 1) := by decide +kernel
theorem dX8_evens_203 : decode cX8_evens 203 = .ok (.lastore, 1) := by decide +kernel
theorem dX8_evens_204 : decode cX8_evens 204 = .ok (.return_, 1) := by decide +kernel
set_option maxRecDepth 20000 in
theorem ggX8_does_X8_areLike : GoodIn wsX8_does wsX8_areLike := goodIn_r _ [7, 8, 9, 10, 11, 12, 6, 13, 14, 15, 16, 17, 18, 19, 20, 21, 28, 29, 30, 31, 32, 33, 34, 35, 36, 37, 38, 39, 40] (by decide +kernel) (by decide +kernel)
set_option maxRecDepth 20000 in
theorem gX8_does_X8_areLike : GoodIn wsX8_does (wsV RX8 179 RX8 yX8_areLike wsX8_areLike) := goodIn_app (goodIn_of _ (by decide +kernel)) ggX8_does_X8_areLike
set_option maxRecDepth 20000 in
theorem ggX8_does_X8_evens : GoodIn wsX8_does wsX8_evens := goodIn_r _ [25, 8, 9, 26, 27, 28, 29, 30, 31, 32, 33, 34, 35, 36, 37, 38, 39, 40] (by decide +kernel) (by decide +kernel)
set_option maxRecDepth 20000 in
theorem gX8_does_X8_evens : GoodIn wsX8_does (wsV RX8 182 RX8 yX8_evens wsX8_evens) := goodIn_app (goodIn_of _ (by decide +kernel)) ggX8_does_X8_evens
theorem dX8_does_0 : decode cX8_does 0 = .ok (.iconst 0, 1) := by decide +kernel
theorem dX8_does_1 : decode cX8_does 1 = .ok (.istore_n 2, 1) := by decide +kernel
theorem dX8_does_2 : decode cX8_does 2 = .ok (.aload_n 0, 1) := by decide +kernel
theorem dX8_does_3 : decode cX8_does 3 = .ok (.getfield 35, 3) := by decide +kernel
theorem dX8_does_6 : decode cX8_does 6 = .ok (.iconst 0, 1) := by decide +kernel
theorem dX8_does_7 : decode cX8_does 7 = .ok (.iconst (-1), 1) := by decide +kernel
theorem dX8_does_8 : decode cX8_does 8 = .ok (.iastore, 1) := by decide +kernel
theorem dX8_does_9 : decode cX8_does 9 = .ok (.iload_n 1, 1) := by decide +kernel
theorem dX8_does_10 : decode cX8_does 10 = .ok (.ifCond .ne 9, 3) := by decide +kernel
theorem dX8_does_13 : decode cX8_does 13 = .ok (.aload_n 0, 1) := by decide +kernel
theorem dX8_does_14 : decode cX8_does 14 = .ok (.iconst 0, 1) := by decide +kernel
theorem dX8_does_15 : decode cX8_does 15 = .ok (.invokevirtual 179, 3) := by decide +kernel
theorem dX8_does_18 : decode cX8_does 18 = .ok (.ireturn, 1) := by decide +kernel
theorem dX8_does_19 : decode cX8_does 19 = .ok (.iload_n 2, 1) := by decide +kernel
theorem dX8_does_20 : decode cX8_does 20 = .ok (.ifCond .lt 73, 3) := by decide +kernel
theorem dX8_does_23 : decode cX8_does 23 = .ok (.aload_n 0, 1) := by decide +kernel
theorem dX8_does_24 : decode cX8_does 24 = .ok (.getfield 35, 3) := by decide +kernel
theorem dX8_does_27 : decode cX8_does 27 = .ok (.iload_n 2, 1) := by decide +kernel
theorem dX8_does_28 : decode cX8_does 28 = .ok (.dup2, 1) := by decide +kernel
theorem dX8_does_29 : decode cX8_does 29 = .ok (.iaload, 1) := by decide +kernel
theorem dX8_does_30 : decode cX8_does 30 = .ok (.iconst 1, 1) := by decide +kernel
theorem dX8_does_31 : decode cX8_does 31 = .ok (.iadd, 1) := by decide +kernel
theorem dX8_does_32 : decode cX8_does 32 = .ok (.iastore, 1) := by decide +kernel
theorem dX8_does_33 : decode cX8_does 33 = .ok (.aload_n 0, 1) := by decide +kernel
theorem dX8_does_34 : decode cX8_does 34 = .ok (.getfield 35, 3) := by decide +kernel
theorem dX8_does_37 : decode cX8_does 37 = .ok (.iload_n 2, 1) := by decide +kernel
theorem dX8_does_38 : decode cX8_does 38 = .ok (.iaload, 1) := by decide +kernel
theorem dX8_does_39 : decode cX8_does 39 = .ok (.aload_n 0, 1) := by decide +kernel
theorem dX8_does_40 : decode cX8_does 40 = .ok (.getfield 137, 3) := by decide +kernel
theorem dX8_does_43 : decode cX8_does 43 = .ok (.if_icmp .ne 9, 3) := by decide +kernel
theorem dX8_does_46 : decode cX8_does 46 = .ok (.iinc 2 (-1), 3) := by decide +kernel
theorem dX8_does_49 : decode cX8_does 49 = .ok (.goto (-30), 3) := by decide +kernel
theorem dX8_does_52 : decode cX8_does 52 = .ok (.aload_n 0, 1) := by decide +kernel
theorem dX8_does_53 : decode cX8_does 53 = .ok (.iload_n 2, 1) := by decide +kernel
theorem dX8_does_54 : decode cX8_does 54 = .ok (.aload_n 0, 1) := by decide +kernel
theorem dX8_does_55 : decode cX8_does 55 = .ok (.getfield 35, 3) := by decide +kernel
theorem dX8_does_58 : decode cX8_does 58 = .ok (.iload_n 2, 1) := by decide +kernel
theorem dX8_does_59 : decode cX8_does 59 = .ok (.iaload, 1) := by decide +kernel
theorem dX8_does_60 : decode cX8_does 60 = .ok (.invokevirtual 182, 3) := by decide +kernel
theorem dX8_does_63 : decode cX8_does 63 = .ok (.iload_n 2, 1) := by decide +kernel
theorem dX8_does_64 : decode cX8_does 64 = .ok (.iconst 1, 1) := by decide +kernel
theorem dX8_does_65 : decode cX8_does 65 = .ok (.iadd, 1) := by decide +kernel
theorem dX8_does_66 : decode cX8_does 66 = .ok (.iload_n 1, 1) := by decide +kernel
theorem dX8_does_67 : decode cX8_does 67 = .ok (.if_icmp .ge 16, 3) := by decide +kernel
theorem dX8_does_70 : decode cX8_does 70 = .ok (.iinc 2 1, 3) := by decide +kernel
theorem dX8_does_73 : decode cX8_does 73 = .ok (.aload_n 0, 1) := by decide +kernel
theorem dX8_does_74 : decode cX8_does 74 = .ok (.getfield 35, 3) := by decide +kernel
theorem dX8_does_77 : decode cX8_does 77 = .ok (.iload_n 2, 1) := by decide +kernel
theorem dX8_does_78 : decode cX8_does 78 = .ok (.iconst (-1), 1) := by decide +kernel
theorem dX8_does_79 : decode cX8_does 79 = .ok (.iastore, 1) := by decide +kernel
theorem dX8_does_80 : decode cX8_does 80 = .ok (.goto (-61), 3) := by decide +kernel
theorem dX8_does_83 : decode cX8_does 83 = .ok (.aload_n 0, 1) := by decide +kernel
theorem dX8_does_84 : decode cX8_does 84 = .ok (.iload_n 1, 1) := by decide +kernel
theorem dX8_does_85 : decode cX8_does 85 = .ok (.invokevirtual 179, 3) := by decide +kernel
theorem dX8_does_88 : decode cX8_does 88 = .ok (.ifCond .eq (-69), 3) := by decide +kernel
theorem dX8_does_91 : decode cX8_does 91 = .ok (.iconst 1, 1) := by decide +kernel
theorem dX8_does_92 : decode cX8_does 92 = .ok (.ireturn, 1) := by decide +kernel
theorem dX8_does_93 : decode cX8_does 93 = .ok (.iconst 0, 1) := by decide +kernel
theorem dX8_does_94 : decode cX8_does 94 = .ok (.ireturn, 1) := by decide +kernel
set_option maxRecDepth 20000 in
theorem ggX8_fewest_X8_in : GoodIn wsX8_fewest wsX8_in := goodIn_r _ [11] (by decide +kernel) (by decide +kernel)
set_option maxRecDepth 20000 in
theorem gX8_fewest_X8_in : GoodIn wsX8_fewest (va_wsS RX8 45 yX8_in wsX8_in) := goodIn_app (goodIn_of _ (by decide +kernel)) ggX8_fewest_X8_in
set_option maxRecDepth 20000 in
theorem ggX8_fewest_X8_look : GoodIn wsX8_fewest wsX8_look := goodIn_r _ [15, 16, 17, 18, 19, 20, 21, 10, 22, 3, 23, 24, 25, 26, 27, 28, 29, 30, 8, 9, 11, 43, 44, 45, 46, 47, 48, 49, 50, 51, 52, 53, 54, 55] (by decide +kernel) (by decide +kernel)
set_option maxRecDepth 20000 in
theorem gX8_fewest_X8_look : GoodIn wsX8_fewest (wsV RX8 142 RX8 yX8_look wsX8_look) := goodIn_app (goodIn_of _ (by decide +kernel)) ggX8_fewest_X8_look
set_option maxRecDepth 20000 in
theorem ggX8_fewest_X8_does : GoodIn wsX8_fewest wsX8_does := goodIn_r _ [34, 7, 16, 35, 36, 37, 10, 38, 2, 4, 23, 24, 25, 26, 3, 27, 28, 29, 30, 8, 9, 11, 39, 40, 41, 42, 17, 18, 43, 44, 45, 46, 47, 48, 49, 50, 51, 52, 53, 54, 55] (by decide +kernel) (by decide +kernel)
set_option maxRecDepth 20000 in
theorem gX8_fewest_X8_does : GoodIn wsX8_fewest (wsV RX8 185 RX8 yX8_does wsX8_does) := goodIn_app (goodIn_of _ (by decide +kernel)) ggX8_fewest_X8_does
theorem dX8_fewest_0 : decode cX8_fewest 0 = .ok (.iload_n 1, 1) := by decide +kernel
theorem dX8_fewest_1 : decode cX8_fewest 1 = .ok (.i2l, 1) := by decide +kernel
theorem dX8_fewest_2 : decode cX8_fewest 2 = .ok (.lconst 0, 1) := by decide +kernel
theorem dX8_fewest_3 : decode cX8_fewest 3 = .ok (.ldc2_w 165, 3) := by decide +kernel
theorem dX8_fewest_6 : decode cX8_fewest 6 = .ok (.invokestatic 45, 3) := by decide +kernel
theorem dX8_fewest_9 : decode cX8_fewest 9 = .ok (.ifCond .ne 5, 3) := by decide +kernel
theorem dX8_fewest_12 : decode cX8_fewest 12 = .ok (.iconst (-1), 1) := by decide +kernel
theorem dX8_fewest_13 : decode cX8_fewest 13 = .ok (.ireturn, 1) := by decide +kernel
theorem dX8_fewest_14 : decode cX8_fewest 14 = .ok (.aload_n 0, 1) := by decide +kernel
theorem dX8_fewest_15 : decode cX8_fewest 15 = .ok (.invokevirtual 142, 3) := by decide +kernel
theorem dX8_fewest_18 : decode cX8_fewest 18 = .ok (.iconst 0, 1) := by decide +kernel
theorem dX8_fewest_19 : decode cX8_fewest 19 = .ok (.istore_n 2, 1) := by decide +kernel
theorem dX8_fewest_20 : decode cX8_fewest 20 = .ok (.iload_n 2, 1) := by decide +kernel
theorem dX8_fewest_21 : decode cX8_fewest 21 = .ok (.bipush 10, 2) := by decide +kernel
theorem dX8_fewest_23 : decode cX8_fewest 23 = .ok (.if_icmp .ge 39, 3) := by decide +kernel
theorem dX8_fewest_26 : decode cX8_fewest 26 = .ok (.aload_n 0, 1) := by decide +kernel
theorem dX8_fewest_27 : decode cX8_fewest 27 = .ok (.getfield 29, 3) := by decide +kernel
theorem dX8_fewest_30 : decode cX8_fewest 30 = .ok (.iload_n 2, 1) := by decide +kernel
theorem dX8_fewest_31 : decode cX8_fewest 31 = .ok (.aload_n 0, 1) := by decide +kernel
theorem dX8_fewest_32 : decode cX8_fewest 32 = .ok (.getfield 7, 3) := by decide +kernel
theorem dX8_fewest_35 : decode cX8_fewest 35 = .ok (.bipush 33, 2) := by decide +kernel
theorem dX8_fewest_37 : decode cX8_fewest 37 = .ok (.iload_n 2, 1) := by decide +kernel
theorem dX8_fewest_38 : decode cX8_fewest 38 = .ok (.iadd, 1) := by decide +kernel
theorem dX8_fewest_39 : decode cX8_fewest 39 = .ok (.laload, 1) := by decide +kernel
theorem dX8_fewest_40 : decode cX8_fewest 40 = .ok (.lastore, 1) := by decide +kernel
theorem dX8_fewest_41 : decode cX8_fewest 41 = .ok (.aload_n 0, 1) := by decide +kernel
theorem dX8_fewest_42 : decode cX8_fewest 42 = .ok (.getfield 32, 3) := by decide +kernel
theorem dX8_fewest_45 : decode cX8_fewest 45 = .ok (.iload_n 2, 1) := by decide +kernel
theorem dX8_fewest_46 : decode cX8_fewest 46 = .ok (.aload_n 0, 1) := by decide +kernel
theorem dX8_fewest_47 : decode cX8_fewest 47 = .ok (.getfield 7, 3) := by decide +kernel
theorem dX8_fewest_50 : decode cX8_fewest 50 = .ok (.bipush 43, 2) := by decide +kernel
theorem dX8_fewest_52 : decode cX8_fewest 52 = .ok (.iload_n 2, 1) := by decide +kernel
theorem dX8_fewest_53 : decode cX8_fewest 53 = .ok (.iadd, 1) := by decide +kernel
theorem dX8_fewest_54 : decode cX8_fewest 54 = .ok (.laload, 1) := by decide +kernel
theorem dX8_fewest_55 : decode cX8_fewest 55 = .ok (.lastore, 1) := by decide +kernel
theorem dX8_fewest_56 : decode cX8_fewest 56 = .ok (.iinc 2 1, 3) := by decide +kernel
theorem dX8_fewest_59 : decode cX8_fewest 59 = .ok (.goto (-39), 3) := by decide +kernel
theorem dX8_fewest_62 : decode cX8_fewest 62 = .ok (.iconst 0, 1) := by decide +kernel
theorem dX8_fewest_63 : decode cX8_fewest 63 = .ok (.istore_n 2, 1) := by decide +kernel
theorem dX8_fewest_64 : decode cX8_fewest 64 = .ok (.iload_n 2, 1) := by decide +kernel
theorem dX8_fewest_65 : decode cX8_fewest 65 = .ok (.iload_n 1, 1) := by decide +kernel
theorem dX8_fewest_66 : decode cX8_fewest 66 = .ok (.if_icmp .gt 49, 3) := by decide +kernel
theorem dX8_fewest_69 : decode cX8_fewest 69 = .ok (.aload_n 0, 1) := by decide +kernel
theorem dX8_fewest_70 : decode cX8_fewest 70 = .ok (.iload_n 2, 1) := by decide +kernel
theorem dX8_fewest_71 : decode cX8_fewest 71 = .ok (.invokevirtual 185, 3) := by decide +kernel
theorem dX8_fewest_74 : decode cX8_fewest 74 = .ok (.ifCond .eq 35, 3) := by decide +kernel
theorem dX8_fewest_77 : decode cX8_fewest 77 = .ok (.aload_n 0, 1) := by decide +kernel
theorem dX8_fewest_78 : decode cX8_fewest 78 = .ok (.iload_n 2, 1) := by decide +kernel
theorem dX8_fewest_79 : decode cX8_fewest 79 = .ok (.putfield 188, 3) := by decide +kernel
theorem dX8_fewest_82 : decode cX8_fewest 82 = .ok (.iconst 0, 1) := by decide +kernel
theorem dX8_fewest_83 : decode cX8_fewest 83 = .ok (.istore_n 3, 1) := by decide +kernel
theorem dX8_fewest_84 : decode cX8_fewest 84 = .ok (.iload_n 3, 1) := by decide +kernel
theorem dX8_fewest_85 : decode cX8_fewest 85 = .ok (.iload_n 2, 1) := by decide +kernel
theorem dX8_fewest_86 : decode cX8_fewest 86 = .ok (.if_icmp .ge 21, 3) := by decide +kernel
theorem dX8_fewest_89 : decode cX8_fewest 89 = .ok (.aload_n 0, 1) := by decide +kernel
theorem dX8_fewest_90 : decode cX8_fewest 90 = .ok (.getfield 38, 3) := by decide +kernel
theorem dX8_fewest_93 : decode cX8_fewest 93 = .ok (.iload_n 3, 1) := by decide +kernel
theorem dX8_fewest_94 : decode cX8_fewest 94 = .ok (.aload_n 0, 1) := by decide +kernel
theorem dX8_fewest_95 : decode cX8_fewest 95 = .ok (.getfield 35, 3) := by decide +kernel
theorem dX8_fewest_98 : decode cX8_fewest 98 = .ok (.iload_n 3, 1) := by decide +kernel
theorem dX8_fewest_99 : decode cX8_fewest 99 = .ok (.iaload, 1) := by decide +kernel
theorem dX8_fewest_100 : decode cX8_fewest 100 = .ok (.iastore, 1) := by decide +kernel
theorem dX8_fewest_101 : decode cX8_fewest 101 = .ok (.iinc 3 1, 3) := by decide +kernel
theorem dX8_fewest_104 : decode cX8_fewest 104 = .ok (.goto (-20), 3) := by decide +kernel
theorem dX8_fewest_107 : decode cX8_fewest 107 = .ok (.iload_n 2, 1) := by decide +kernel
theorem dX8_fewest_108 : decode cX8_fewest 108 = .ok (.ireturn, 1) := by decide +kernel
theorem dX8_fewest_109 : decode cX8_fewest 109 = .ok (.iinc 2 1, 3) := by decide +kernel
theorem dX8_fewest_112 : decode cX8_fewest 112 = .ok (.goto (-48), 3) := by decide +kernel
theorem dX8_fewest_115 : decode cX8_fewest 115 = .ok (.bipush (-4), 2) := by decide +kernel
theorem dX8_fewest_117 : decode cX8_fewest 117 = .ok (.ireturn, 1) := by decide +kernel
set_option maxRecDepth 20000 in
theorem ggX8_plan_X8_in : GoodIn wsX8_plan wsX8_in := goodIn_r _ [6] (by decide +kernel) (by decide +kernel)
set_option maxRecDepth 20000 in
theorem gX8_plan_X8_in : GoodIn wsX8_plan (va_wsS RX8 45 yX8_in wsX8_in) := goodIn_app (goodIn_of _ (by decide +kernel)) ggX8_plan_X8_in
theorem dX8_plan_0 : decode cX8_plan 0 = .ok (.iload_n 1, 1) := by decide +kernel
theorem dX8_plan_1 : decode cX8_plan 1 = .ok (.i2l, 1) := by decide +kernel
theorem dX8_plan_2 : decode cX8_plan 2 = .ok (.lconst 0, 1) := by decide +kernel
theorem dX8_plan_3 : decode cX8_plan 3 = .ok (.aload_n 0, 1) := by decide +kernel
theorem dX8_plan_4 : decode cX8_plan 4 = .ok (.getfield 188, 3) := by decide +kernel
theorem dX8_plan_7 : decode cX8_plan 7 = .ok (.iconst 1, 1) := by decide +kernel
theorem dX8_plan_8 : decode cX8_plan 8 = .ok (.isub, 1) := by decide +kernel
theorem dX8_plan_9 : decode cX8_plan 9 = .ok (.i2l, 1) := by decide +kernel
theorem dX8_plan_10 : decode cX8_plan 10 = .ok (.invokestatic 45, 3) := by decide +kernel
theorem dX8_plan_13 : decode cX8_plan 13 = .ok (.ifCond .eq 12, 3) := by decide +kernel
theorem dX8_plan_16 : decode cX8_plan 16 = .ok (.aload_n 0, 1) := by decide +kernel
theorem dX8_plan_17 : decode cX8_plan 17 = .ok (.getfield 38, 3) := by decide +kernel
theorem dX8_plan_20 : decode cX8_plan 20 = .ok (.iload_n 1, 1) := by decide +kernel
theorem dX8_plan_21 : decode cX8_plan 21 = .ok (.iaload, 1) := by decide +kernel
theorem dX8_plan_22 : decode cX8_plan 22 = .ok (.goto 5, 3) := by decide +kernel
theorem dX8_plan_25 : decode cX8_plan 25 = .ok (.bipush (-4), 2) := by decide +kernel
theorem dX8_plan_27 : decode cX8_plan 27 = .ok (.ireturn, 1) := by decide +kernel
set_option maxRecDepth 20000 in
theorem ggX8_count_X8_here : GoodIn wsX8_count wsX8_here := goodIn_r _ [7, 8, 9, 10, 6, 11, 1, 12, 13, 14, 15, 16, 17, 18, 31, 32, 33, 34, 35, 36, 37, 38, 39, 40, 41, 42, 43] (by decide +kernel) (by decide +kernel)
set_option maxRecDepth 20000 in
theorem gX8_count_X8_here : GoodIn wsX8_count (wsV RX8 147 RX8 yX8_here wsX8_here) := goodIn_app (goodIn_of _ (by decide +kernel)) ggX8_count_X8_here
set_option maxRecDepth 20000 in
theorem ggX8_count_X8_lines : GoodIn wsX8_count wsX8_lines := goodIn_r _ [22, 23, 24, 25, 6, 26, 1, 31, 32, 33, 34, 35, 36, 37, 38, 39, 40, 41, 42, 43] (by decide +kernel) (by decide +kernel)
set_option maxRecDepth 20000 in
theorem gX8_count_X8_lines : GoodIn wsX8_count (wsV RX8 91 RX8 yX8_lines wsX8_lines) := goodIn_app (goodIn_of _ (by decide +kernel)) ggX8_count_X8_lines
set_option maxRecDepth 20000 in
theorem ggX8_count_X8_isUnderWay : GoodIn wsX8_count wsX8_isUnderWay := goodIn_r _ [30, 1, 31, 32, 33, 34, 35, 36, 37, 38, 39, 40, 41, 42, 43] (by decide +kernel) (by decide +kernel)
set_option maxRecDepth 20000 in
theorem gX8_count_X8_isUnderWay : GoodIn wsX8_count (wsV RX8 94 RX8 yX8_isUnderWay wsX8_isUnderWay) := goodIn_app (goodIn_of _ (by decide +kernel)) ggX8_count_X8_isUnderWay
theorem dX8_count_0 : decode cX8_count 0 = .ok (.iconst 0, 1) := by decide +kernel
theorem dX8_count_1 : decode cX8_count 1 = .ok (.istore_n 2, 1) := by decide +kernel
theorem dX8_count_2 : decode cX8_count 2 = .ok (.iload_n 1, 1) := by decide +kernel
theorem dX8_count_3 : decode cX8_count 3 = .ok (.tableswitch 112 0 6 #[41, 49, 54, 59, 91, 99, 104], 41) := by decide +kernel
theorem dX8_count_44 : decode cX8_count 44 = .ok (.aload_n 0, 1) := by decide +kernel
theorem dX8_count_45 : decode cX8_count 45 = .ok (.getfield 7, 3) := by decide +kernel
theorem dX8_count_48 : decode cX8_count 48 = .ok (.iconst 0, 1) := by decide +kernel
theorem dX8_count_49 : decode cX8_count 49 = .ok (.laload, 1) := by decide +kernel
theorem dX8_count_50 : decode cX8_count 50 = .ok (.l2i, 1) := by decide +kernel
theorem dX8_count_51 : decode cX8_count 51 = .ok (.ireturn, 1) := by decide +kernel
theorem dX8_count_52 : decode cX8_count 52 = .ok (.aload_n 0, 1) := by decide +kernel
theorem dX8_count_53 : decode cX8_count 53 = .ok (.invokevirtual 147, 3) := by decide +kernel
theorem dX8_count_56 : decode cX8_count 56 = .ok (.ireturn, 1) := by decide +kernel
theorem dX8_count_57 : decode cX8_count 57 = .ok (.aload_n 0, 1) := by decide +kernel
theorem dX8_count_58 : decode cX8_count 58 = .ok (.invokevirtual 91, 3) := by decide +kernel
theorem dX8_count_61 : decode cX8_count 61 = .ok (.ireturn, 1) := by decide +kernel
theorem dX8_count_62 : decode cX8_count 62 = .ok (.iconst 0, 1) := by decide +kernel
theorem dX8_count_63 : decode cX8_count 63 = .ok (.istore_n 3, 1) := by decide +kernel
theorem dX8_count_64 : decode cX8_count 64 = .ok (.iload_n 3, 1) := by decide +kernel
theorem dX8_count_65 : decode cX8_count 65 = .ok (.bipush 8, 2) := by decide +kernel
theorem dX8_count_67 : decode cX8_count 67 = .ok (.if_icmp .ge 25, 3) := by decide +kernel
theorem dX8_count_70 : decode cX8_count 70 = .ok (.iload_n 2, 1) := by decide +kernel
theorem dX8_count_71 : decode cX8_count 71 = .ok (.aload_n 0, 1) := by decide +kernel
theorem dX8_count_72 : decode cX8_count 72 = .ok (.iload_n 3, 1) := by decide +kernel
theorem dX8_count_73 : decode cX8_count 73 = .ok (.invokevirtual 94, 3) := by decide +kernel
theorem dX8_count_76 : decode cX8_count 76 = .ok (.ifCond .eq 7, 3) := by decide +kernel
theorem dX8_count_79 : decode cX8_count 79 = .ok (.iconst 1, 1) := by decide +kernel
theorem dX8_count_80 : decode cX8_count 80 = .ok (.goto 4, 3) := by decide +kernel
theorem dX8_count_83 : decode cX8_count 83 = .ok (.iconst 0, 1) := by decide +kernel
theorem dX8_count_84 : decode cX8_count 84 = .ok (.iadd, 1) := by decide +kernel
theorem dX8_count_85 : decode cX8_count 85 = .ok (.istore_n 2, 1) := by decide +kernel
theorem dX8_count_86 : decode cX8_count 86 = .ok (.iinc 3 1, 3) := by decide +kernel
theorem dX8_count_89 : decode cX8_count 89 = .ok (.goto (-25), 3) := by decide +kernel
theorem dX8_count_92 : decode cX8_count 92 = .ok (.iload_n 2, 1) := by decide +kernel
theorem dX8_count_93 : decode cX8_count 93 = .ok (.ireturn, 1) := by decide +kernel
theorem dX8_count_94 : decode cX8_count 94 = .ok (.aload_n 0, 1) := by decide +kernel
theorem dX8_count_95 : decode cX8_count 95 = .ok (.getfield 7, 3) := by decide +kernel
theorem dX8_count_98 : decode cX8_count 98 = .ok (.iconst 2, 1) := by decide +kernel
theorem dX8_count_99 : decode cX8_count 99 = .ok (.laload, 1) := by decide +kernel
theorem dX8_count_100 : decode cX8_count 100 = .ok (.l2i, 1) := by decide +kernel
theorem dX8_count_101 : decode cX8_count 101 = .ok (.ireturn, 1) := by decide +kernel
theorem dX8_count_102 : decode cX8_count 102 = .ok (.aload_n 0, 1) := by decide +kernel
theorem dX8_count_103 : decode cX8_count 103 = .ok (.getfield 41, 3) := by decide +kernel
theorem dX8_count_106 : decode cX8_count 106 = .ok (.ireturn, 1) := by decide +kernel
theorem dX8_count_107 : decode cX8_count 107 = .ok (.aload_n 0, 1) := by decide +kernel
theorem dX8_count_108 : decode cX8_count 108 = .ok (.getfield 7, 3) := by decide +kernel
theorem dX8_count_111 : decode cX8_count 111 = .ok (.iconst 1, 1) := by decide +kernel
theorem dX8_count_112 : decode cX8_count 112 = .ok (.laload, 1) := by decide +kernel
theorem dX8_count_113 : decode cX8_count 113 = .ok (.l2i, 1) := by decide +kernel
theorem dX8_count_114 : decode cX8_count 114 = .ok (.ireturn, 1) := by decide +kernel
theorem dX8_count_115 : decode cX8_count 115 = .ok (.iconst (-1), 1) := by decide +kernel
theorem dX8_count_116 : decode cX8_count 116 = .ok (.ireturn, 1) := by decide +kernel
set_option maxRecDepth 20000 in
theorem ggX8_digest_X8_isHere : GoodIn wsX8_digest wsX8_isHere := goodIn_r _ [8, 2, 9, 10, 11, 7, 12, 13, 14, 15, 28, 29, 30, 31, 32, 33, 34, 35, 36, 37, 38, 39, 40] (by decide +kernel) (by decide +kernel)
set_option maxRecDepth 20000 in
theorem gX8_digest_X8_isHere : GoodIn wsX8_digest (wsV RX8 101 RX8 yX8_isHere wsX8_isHere) := goodIn_app (goodIn_of _ (by decide +kernel)) ggX8_digest_X8_isHere
set_option maxRecDepth 20000 in
theorem ggX8_digest_X8_areJoined : GoodIn wsX8_digest wsX8_areJoined := goodIn_r _ [19, 2, 28, 29, 30, 31, 32, 33, 34, 35, 36, 37, 38, 39, 40] (by decide +kernel) (by decide +kernel)
set_option maxRecDepth 20000 in
theorem gX8_digest_X8_areJoined : GoodIn wsX8_digest (wsV RX8 59 RX8 yX8_areJoined wsX8_areJoined) := goodIn_app (goodIn_of _ (by decide +kernel)) ggX8_digest_X8_areJoined
set_option maxRecDepth 20000 in
theorem ggX8_digest_X8_isUnderWay : GoodIn wsX8_digest wsX8_isUnderWay := goodIn_r _ [23, 2, 28, 29, 30, 31, 32, 33, 34, 35, 36, 37, 38, 39, 40] (by decide +kernel) (by decide +kernel)
set_option maxRecDepth 20000 in
theorem gX8_digest_X8_isUnderWay : GoodIn wsX8_digest (wsV RX8 94 RX8 yX8_isUnderWay wsX8_isUnderWay) := goodIn_app (goodIn_of _ (by decide +kernel)) ggX8_digest_X8_isUnderWay
set_option maxRecDepth 20000 in
theorem ggX8_digest_X8_owed : GoodIn wsX8_digest wsX8_owed := goodIn_r _ [27, 2, 28, 29, 30, 31, 32, 33, 34, 35, 36, 37, 38, 39, 40] (by decide +kernel) (by decide +kernel)
set_option maxRecDepth 20000 in
theorem gX8_digest_X8_owed : GoodIn wsX8_digest (wsV RX8 167 RX8 yX8_owed wsX8_owed) := goodIn_app (goodIn_of _ (by decide +kernel)) ggX8_digest_X8_owed
theorem dX8_digest_0 : decode cX8_digest 0 = .ok (.ldc2_w 191, 3) := by decide +kernel
theorem dX8_digest_3 : decode cX8_digest 3 = .ok (.lstore_n 1, 1) := by decide +kernel
theorem dX8_digest_4 : decode cX8_digest 4 = .ok (.iconst 0, 1) := by decide +kernel
theorem dX8_digest_5 : decode cX8_digest 5 = .ok (.istore_n 3, 1) := by decide +kernel
theorem dX8_digest_6 : decode cX8_digest 6 = .ok (.iload_n 3, 1) := by decide +kernel
theorem dX8_digest_7 : decode cX8_digest 7 = .ok (.i2l, 1) := by decide +kernel
theorem dX8_digest_8 : decode cX8_digest 8 = .ok (.aload_n 0, 1) := by decide +kernel
theorem dX8_digest_9 : decode cX8_digest 9 = .ok (.getfield 7, 3) := by decide +kernel
theorem dX8_digest_12 : decode cX8_digest 12 = .ok (.iconst 0, 1) := by decide +kernel
theorem dX8_digest_13 : decode cX8_digest 13 = .ok (.laload, 1) := by decide +kernel
theorem dX8_digest_14 : decode cX8_digest 14 = .ok (.lcmp, 1) := by decide +kernel
theorem dX8_digest_15 : decode cX8_digest 15 = .ok (.ifCond .ge 167, 3) := by decide +kernel
theorem dX8_digest_18 : decode cX8_digest 18 = .ok (.ldc2_w 193, 3) := by decide +kernel
theorem dX8_digest_21 : decode cX8_digest 21 = .ok (.lload_n 1, 1) := by decide +kernel
theorem dX8_digest_22 : decode cX8_digest 22 = .ok (.lmul, 1) := by decide +kernel
theorem dX8_digest_23 : decode cX8_digest 23 = .ok (.aload_n 0, 1) := by decide +kernel
theorem dX8_digest_24 : decode cX8_digest 24 = .ok (.getfield 7, 3) := by decide +kernel
theorem dX8_digest_27 : decode cX8_digest 27 = .ok (.bipush 13, 2) := by decide +kernel
theorem dX8_digest_29 : decode cX8_digest 29 = .ok (.iload_n 3, 1) := by decide +kernel
theorem dX8_digest_30 : decode cX8_digest 30 = .ok (.iadd, 1) := by decide +kernel
theorem dX8_digest_31 : decode cX8_digest 31 = .ok (.laload, 1) := by decide +kernel
theorem dX8_digest_32 : decode cX8_digest 32 = .ok (.ladd, 1) := by decide +kernel
theorem dX8_digest_33 : decode cX8_digest 33 = .ok (.lstore_n 1, 1) := by decide +kernel
theorem dX8_digest_34 : decode cX8_digest 34 = .ok (.aload_n 0, 1) := by decide +kernel
theorem dX8_digest_35 : decode cX8_digest 35 = .ok (.iload_n 3, 1) := by decide +kernel
theorem dX8_digest_36 : decode cX8_digest 36 = .ok (.invokevirtual 101, 3) := by decide +kernel
theorem dX8_digest_39 : decode cX8_digest 39 = .ok (.ifCond .eq 137, 3) := by decide +kernel
theorem dX8_digest_42 : decode cX8_digest 42 = .ok (.ldc2_w 193, 3) := by decide +kernel
theorem dX8_digest_45 : decode cX8_digest 45 = .ok (.ldc2_w 193, 3) := by decide +kernel
theorem dX8_digest_48 : decode cX8_digest 48 = .ok (.ldc2_w 193, 3) := by decide +kernel
theorem dX8_digest_51 : decode cX8_digest 51 = .ok (.lload_n 1, 1) := by decide +kernel
theorem dX8_digest_52 : decode cX8_digest 52 = .ok (.lmul, 1) := by decide +kernel
theorem dX8_digest_53 : decode cX8_digest 53 = .ok (.aload_n 0, 1) := by decide +kernel
theorem dX8_digest_54 : decode cX8_digest 54 = .ok (.getfield 7, 3) := by decide +kernel
theorem dX8_digest_57 : decode cX8_digest 57 = .ok (.bipush 23, 2) := by decide +kernel
theorem dX8_digest_59 : decode cX8_digest 59 = .ok (.iload_n 3, 1) := by decide +kernel
theorem dX8_digest_60 : decode cX8_digest 60 = .ok (.iadd, 1) := by decide +kernel
theorem dX8_digest_61 : decode cX8_digest 61 = .ok (.laload, 1) := by decide +kernel
theorem dX8_digest_62 : decode cX8_digest 62 = .ok (.ladd, 1) := by decide +kernel
theorem dX8_digest_63 : decode cX8_digest 63 = .ok (.lmul, 1) := by decide +kernel
theorem dX8_digest_64 : decode cX8_digest 64 = .ok (.aload_n 0, 1) := by decide +kernel
theorem dX8_digest_65 : decode cX8_digest 65 = .ok (.getfield 7, 3) := by decide +kernel
theorem dX8_digest_68 : decode cX8_digest 68 = .ok (.bipush 33, 2) := by decide +kernel
theorem dX8_digest_70 : decode cX8_digest 70 = .ok (.iload_n 3, 1) := by decide +kernel
theorem dX8_digest_71 : decode cX8_digest 71 = .ok (.iadd, 1) := by decide +kernel
theorem dX8_digest_72 : decode cX8_digest 72 = .ok (.laload, 1) := by decide +kernel
theorem dX8_digest_73 : decode cX8_digest 73 = .ok (.ladd, 1) := by decide +kernel
theorem dX8_digest_74 : decode cX8_digest 74 = .ok (.lmul, 1) := by decide +kernel
theorem dX8_digest_75 : decode cX8_digest 75 = .ok (.aload_n 0, 1) := by decide +kernel
theorem dX8_digest_76 : decode cX8_digest 76 = .ok (.getfield 7, 3) := by decide +kernel
theorem dX8_digest_79 : decode cX8_digest 79 = .ok (.bipush 43, 2) := by decide +kernel
theorem dX8_digest_81 : decode cX8_digest 81 = .ok (.iload_n 3, 1) := by decide +kernel
theorem dX8_digest_82 : decode cX8_digest 82 = .ok (.iadd, 1) := by decide +kernel
theorem dX8_digest_83 : decode cX8_digest 83 = .ok (.laload, 1) := by decide +kernel
theorem dX8_digest_84 : decode cX8_digest 84 = .ok (.ladd, 1) := by decide +kernel
theorem dX8_digest_85 : decode cX8_digest 85 = .ok (.lstore_n 1, 1) := by decide +kernel
theorem dX8_digest_86 : decode cX8_digest 86 = .ok (.ldc2_w 193, 3) := by decide +kernel
theorem dX8_digest_89 : decode cX8_digest 89 = .ok (.ldc2_w 193, 3) := by decide +kernel
theorem dX8_digest_92 : decode cX8_digest 92 = .ok (.ldc2_w 193, 3) := by decide +kernel
theorem dX8_digest_95 : decode cX8_digest 95 = .ok (.lload_n 1, 1) := by decide +kernel
theorem dX8_digest_96 : decode cX8_digest 96 = .ok (.lmul, 1) := by decide +kernel
theorem dX8_digest_97 : decode cX8_digest 97 = .ok (.aload_n 0, 1) := by decide +kernel
theorem dX8_digest_98 : decode cX8_digest 98 = .ok (.getfield 7, 3) := by decide +kernel
theorem dX8_digest_101 : decode cX8_digest 101 = .ok (.bipush 53, 2) := by decide +kernel
theorem dX8_digest_103 : decode cX8_digest 103 = .ok (.iload_n 3, 1) := by decide +kernel
theorem dX8_digest_104 : decode cX8_digest 104 = .ok (.iadd, 1) := by decide +kernel
theorem dX8_digest_105 : decode cX8_digest 105 = .ok (.laload, 1) := by decide +kernel
theorem dX8_digest_106 : decode cX8_digest 106 = .ok (.ladd, 1) := by decide +kernel
theorem dX8_digest_107 : decode cX8_digest 107 = .ok (.lmul, 1) := by decide +kernel
theorem dX8_digest_108 : decode cX8_digest 108 = .ok (.aload_n 0, 1) := by decide +kernel
theorem dX8_digest_109 : decode cX8_digest 109 = .ok (.getfield 7, 3) := by decide +kernel
theorem dX8_digest_112 : decode cX8_digest 112 = .ok (.bipush 63, 2) := by decide +kernel
theorem dX8_digest_114 : decode cX8_digest 114 = .ok (.iload_n 3, 1) := by decide +kernel
theorem dX8_digest_115 : decode cX8_digest 115 = .ok (.iadd, 1) := by decide +kernel
theorem dX8_digest_116 : decode cX8_digest 116 = .ok (.laload, 1) := by decide +kernel
theorem dX8_digest_117 : decode cX8_digest 117 = .ok (.ladd, 1) := by decide +kernel
theorem dX8_digest_118 : decode cX8_digest 118 = .ok (.lmul, 1) := by decide +kernel
theorem dX8_digest_119 : decode cX8_digest 119 = .ok (.aload_n 0, 1) := by decide +kernel
theorem dX8_digest_120 : decode cX8_digest 120 = .ok (.getfield 7, 3) := by decide +kernel
theorem dX8_digest_123 : decode cX8_digest 123 = .ok (.bipush 73, 2) := by decide +kernel
theorem dX8_digest_125 : decode cX8_digest 125 = .ok (.iload_n 3, 1) := by decide +kernel
theorem dX8_digest_126 : decode cX8_digest 126 = .ok (.iadd, 1) := by decide +kernel
theorem dX8_digest_127 : decode cX8_digest 127 = .ok (.laload, 1) := by decide +kernel
theorem dX8_digest_128 : decode cX8_digest 128 = .ok (.ladd, 1) := by decide +kernel
theorem dX8_digest_129 : decode cX8_digest 129 = .ok (.lstore_n 1, 1) := by decide +kernel
theorem dX8_digest_130 : decode cX8_digest 130 = .ok (.iconst 0, 1) := by decide +kernel
theorem dX8_digest_131 : decode cX8_digest 131 = .ok (.istore 4, 2) := by decide +kernel
theorem dX8_digest_133 : decode cX8_digest 133 = .ok (.iload 4, 2) := by decide +kernel
theorem dX8_digest_135 : decode cX8_digest 135 = .ok (.i2l, 1) := by decide +kernel
theorem dX8_digest_136 : decode cX8_digest 136 = .ok (.aload_n 0, 1) := by decide +kernel
theorem dX8_digest_137 : decode cX8_digest 137 = .ok (.getfield 7, 3) := by decide +kernel
theorem dX8_digest_140 : decode cX8_digest 140 = .ok (.bipush 83, 2) := by decide +kernel
theorem dX8_digest_142 : decode cX8_digest 142 = .ok (.iload_n 3, 1) := by decide +kernel
theorem dX8_digest_143 : decode cX8_digest 143 = .ok (.iadd, 1) := by decide +kernel
theorem dX8_digest_144 : decode cX8_digest 144 = .ok (.laload, 1) := by decide +kernel
theorem dX8_digest_145 : decode cX8_digest 145 = .ok (.lcmp, 1) := by decide +kernel
theorem dX8_digest_146 : decode cX8_digest 146 = .ok (.ifCond .ge 30, 3) := by decide +kernel
theorem dX8_digest_149 : decode cX8_digest 149 = .ok (.ldc2_w 193, 3) := by decide +kernel
theorem dX8_digest_152 : decode cX8_digest 152 = .ok (.lload_n 1, 1) := by decide +kernel
theorem dX8_digest_153 : decode cX8_digest 153 = .ok (.lmul, 1) := by decide +kernel
theorem dX8_digest_154 : decode cX8_digest 154 = .ok (.aload_n 0, 1) := by decide +kernel
theorem dX8_digest_155 : decode cX8_digest 155 = .ok (.getfield 7, 3) := by decide +kernel
theorem dX8_digest_158 : decode cX8_digest 158 = .ok (.bipush 93, 2) := by decide +kernel
theorem dX8_digest_160 : decode cX8_digest 160 = .ok (.iconst 4, 1) := by decide +kernel
theorem dX8_digest_161 : decode cX8_digest 161 = .ok (.iload_n 3, 1) := by decide +kernel
theorem dX8_digest_162 : decode cX8_digest 162 = .ok (.imul, 1) := by decide +kernel
theorem dX8_digest_163 : decode cX8_digest 163 = .ok (.iadd, 1) := by decide +kernel
theorem dX8_digest_164 : decode cX8_digest 164 = .ok (.iload 4, 2) := by decide +kernel
theorem dX8_digest_166 : decode cX8_digest 166 = .ok (.iadd, 1) := by decide +kernel
theorem dX8_digest_167 : decode cX8_digest 167 = .ok (.laload, 1) := by decide +kernel
theorem dX8_digest_168 : decode cX8_digest 168 = .ok (.ladd, 1) := by decide +kernel
theorem dX8_digest_169 : decode cX8_digest 169 = .ok (.lstore_n 1, 1) := by decide +kernel
theorem dX8_digest_170 : decode cX8_digest 170 = .ok (.iinc 4 1, 3) := by decide +kernel
theorem dX8_digest_173 : decode cX8_digest 173 = .ok (.goto (-40), 3) := by decide +kernel
theorem dX8_digest_176 : decode cX8_digest 176 = .ok (.iinc 3 1, 3) := by decide +kernel
theorem dX8_digest_179 : decode cX8_digest 179 = .ok (.goto (-173), 3) := by decide +kernel
theorem dX8_digest_182 : decode cX8_digest 182 = .ok (.iconst 0, 1) := by decide +kernel
theorem dX8_digest_183 : decode cX8_digest 183 = .ok (.istore_n 3, 1) := by decide +kernel
theorem dX8_digest_184 : decode cX8_digest 184 = .ok (.iload_n 3, 1) := by decide +kernel
theorem dX8_digest_185 : decode cX8_digest 185 = .ok (.i2l, 1) := by decide +kernel
theorem dX8_digest_186 : decode cX8_digest 186 = .ok (.aload_n 0, 1) := by decide +kernel
theorem dX8_digest_187 : decode cX8_digest 187 = .ok (.getfield 7, 3) := by decide +kernel
theorem dX8_digest_190 : decode cX8_digest 190 = .ok (.iconst 0, 1) := by decide +kernel
theorem dX8_digest_191 : decode cX8_digest 191 = .ok (.laload, 1) := by decide +kernel
theorem dX8_digest_192 : decode cX8_digest 192 = .ok (.lcmp, 1) := by decide +kernel
theorem dX8_digest_193 : decode cX8_digest 193 = .ok (.ifCond .ge 55, 3) := by decide +kernel
theorem dX8_digest_196 : decode cX8_digest 196 = .ok (.iload_n 3, 1) := by decide +kernel
theorem dX8_digest_197 : decode cX8_digest 197 = .ok (.iconst 1, 1) := by decide +kernel
theorem dX8_digest_198 : decode cX8_digest 198 = .ok (.iadd, 1) := by decide +kernel
theorem dX8_digest_199 : decode cX8_digest 199 = .ok (.istore 4, 2) := by decide +kernel
theorem dX8_digest_201 : decode cX8_digest 201 = .ok (.iload 4, 2) := by decide +kernel
theorem dX8_digest_203 : decode cX8_digest 203 = .ok (.i2l, 1) := by decide +kernel
theorem dX8_digest_204 : decode cX8_digest 204 = .ok (.aload_n 0, 1) := by decide +kernel
theorem dX8_digest_205 : decode cX8_digest 205 = .ok (.getfield 7, 3) := by decide +kernel
theorem dX8_digest_208 : decode cX8_digest 208 = .ok (.iconst 0, 1) := by decide +kernel
theorem dX8_digest_209 : decode cX8_digest 209 = .ok (.laload, 1) := by decide +kernel
theorem dX8_digest_210 : decode cX8_digest 210 = .ok (.lcmp, 1) := by decide +kernel
theorem dX8_digest_211 : decode cX8_digest 211 = .ok (.ifCond .ge 31, 3) := by decide +kernel
theorem dX8_digest_214 : decode cX8_digest 214 = .ok (.ldc2_w 193, 3) := by decide +kernel
theorem dX8_digest_217 : decode cX8_digest 217 = .ok (.lload_n 1, 1) := by decide +kernel
theorem dX8_digest_218 : decode cX8_digest 218 = .ok (.lmul, 1) := by decide +kernel
theorem dX8_digest_219 : decode cX8_digest 219 = .ok (.aload_n 0, 1) := by decide +kernel
theorem dX8_digest_220 : decode cX8_digest 220 = .ok (.iload_n 3, 1) := by decide +kernel
theorem dX8_digest_221 : decode cX8_digest 221 = .ok (.iload 4, 2) := by decide +kernel
theorem dX8_digest_223 : decode cX8_digest 223 = .ok (.invokevirtual 59, 3) := by decide +kernel
theorem dX8_digest_226 : decode cX8_digest 226 = .ok (.ifCond .eq 7, 3) := by decide +kernel
theorem dX8_digest_229 : decode cX8_digest 229 = .ok (.lconst 1, 1) := by decide +kernel
theorem dX8_digest_230 : decode cX8_digest 230 = .ok (.goto 4, 3) := by decide +kernel
theorem dX8_digest_233 : decode cX8_digest 233 = .ok (.lconst 0, 1) := by decide +kernel
theorem dX8_digest_234 : decode cX8_digest 234 = .ok (.ladd, 1) := by decide +kernel
theorem dX8_digest_235 : decode cX8_digest 235 = .ok (.lstore_n 1, 1) := by decide +kernel
theorem dX8_digest_236 : decode cX8_digest 236 = .ok (.iinc 4 1, 3) := by decide +kernel
theorem dX8_digest_239 : decode cX8_digest 239 = .ok (.goto (-38), 3) := by decide +kernel
theorem dX8_digest_242 : decode cX8_digest 242 = .ok (.iinc 3 1, 3) := by decide +kernel
theorem dX8_digest_245 : decode cX8_digest 245 = .ok (.goto (-61), 3) := by decide +kernel
theorem dX8_digest_248 : decode cX8_digest 248 = .ok (.iconst 0, 1) := by decide +kernel
theorem dX8_digest_249 : decode cX8_digest 249 = .ok (.istore_n 3, 1) := by decide +kernel
theorem dX8_digest_250 : decode cX8_digest 250 = .ok (.iload_n 3, 1) := by decide +kernel
theorem dX8_digest_251 : decode cX8_digest 251 = .ok (.i2l, 1) := by decide +kernel
theorem dX8_digest_252 : decode cX8_digest 252 = .ok (.aload_n 0, 1) := by decide +kernel
theorem dX8_digest_253 : decode cX8_digest 253 = .ok (.getfield 7, 3) := by decide +kernel
theorem dX8_digest_256 : decode cX8_digest 256 = .ok (.iconst 0, 1) := by decide +kernel
theorem dX8_digest_257 : decode cX8_digest 257 = .ok (.laload, 1) := by decide +kernel
theorem dX8_digest_258 : decode cX8_digest 258 = .ok (.lcmp, 1) := by decide +kernel
theorem dX8_digest_259 : decode cX8_digest 259 = .ok (.ifCond .ge 75, 3) := by decide +kernel
theorem dX8_digest_262 : decode cX8_digest 262 = .ok (.iconst 0, 1) := by decide +kernel
theorem dX8_digest_263 : decode cX8_digest 263 = .ok (.istore 4, 2) := by decide +kernel
theorem dX8_digest_265 : decode cX8_digest 265 = .ok (.iload 4, 2) := by decide +kernel
theorem dX8_digest_267 : decode cX8_digest 267 = .ok (.i2l, 1) := by decide +kernel
theorem dX8_digest_268 : decode cX8_digest 268 = .ok (.aload_n 0, 1) := by decide +kernel
theorem dX8_digest_269 : decode cX8_digest 269 = .ok (.getfield 7, 3) := by decide +kernel
theorem dX8_digest_272 : decode cX8_digest 272 = .ok (.iconst 0, 1) := by decide +kernel
theorem dX8_digest_273 : decode cX8_digest 273 = .ok (.laload, 1) := by decide +kernel
theorem dX8_digest_274 : decode cX8_digest 274 = .ok (.lcmp, 1) := by decide +kernel
theorem dX8_digest_275 : decode cX8_digest 275 = .ok (.ifCond .ge 53, 3) := by decide +kernel
theorem dX8_digest_278 : decode cX8_digest 278 = .ok (.ldc2_w 193, 3) := by decide +kernel
theorem dX8_digest_281 : decode cX8_digest 281 = .ok (.ldc2_w 193, 3) := by decide +kernel
theorem dX8_digest_284 : decode cX8_digest 284 = .ok (.lload_n 1, 1) := by decide +kernel
theorem dX8_digest_285 : decode cX8_digest 285 = .ok (.lmul, 1) := by decide +kernel
theorem dX8_digest_286 : decode cX8_digest 286 = .ok (.aload_n 0, 1) := by decide +kernel
theorem dX8_digest_287 : decode cX8_digest 287 = .ok (.getfield 7, 3) := by decide +kernel
theorem dX8_digest_290 : decode cX8_digest 290 = .ok (.sipush 213, 3) := by decide +kernel
theorem dX8_digest_293 : decode cX8_digest 293 = .ok (.bipush 10, 2) := by decide +kernel
theorem dX8_digest_295 : decode cX8_digest 295 = .ok (.iload_n 3, 1) := by decide +kernel
theorem dX8_digest_296 : decode cX8_digest 296 = .ok (.imul, 1) := by decide +kernel
theorem dX8_digest_297 : decode cX8_digest 297 = .ok (.iadd, 1) := by decide +kernel
theorem dX8_digest_298 : decode cX8_digest 298 = .ok (.iload 4, 2) := by decide +kernel
theorem dX8_digest_300 : decode cX8_digest 300 = .ok (.iadd, 1) := by decide +kernel
theorem dX8_digest_301 : decode cX8_digest 301 = .ok (.laload, 1) := by decide +kernel
theorem dX8_digest_302 : decode cX8_digest 302 = .ok (.ladd, 1) := by decide +kernel
theorem dX8_digest_303 : decode cX8_digest 303 = .ok (.lmul, 1) := by decide +kernel
theorem dX8_digest_304 : decode cX8_digest 304 = .ok (.aload_n 0, 1) := by decide +kernel
theorem dX8_digest_305 : decode cX8_digest 305 = .ok (.getfield 7, 3) := by decide +kernel
theorem dX8_digest_308 : decode cX8_digest 308 = .ok (.sipush 313, 3) := by decide +kernel
theorem dX8_digest_311 : decode cX8_digest 311 = .ok (.bipush 10, 2) := by decide +kernel
theorem dX8_digest_313 : decode cX8_digest 313 = .ok (.iload_n 3, 1) := by decide +kernel
theorem dX8_digest_314 : decode cX8_digest 314 = .ok (.imul, 1) := by decide +kernel
theorem dX8_digest_315 : decode cX8_digest 315 = .ok (.iadd, 1) := by decide +kernel
theorem dX8_digest_316 : decode cX8_digest 316 = .ok (.iload 4, 2) := by decide +kernel
theorem dX8_digest_318 : decode cX8_digest 318 = .ok (.iadd, 1) := by decide +kernel
theorem dX8_digest_319 : decode cX8_digest 319 = .ok (.laload, 1) := by decide +kernel
theorem dX8_digest_320 : decode cX8_digest 320 = .ok (.ladd, 1) := by decide +kernel
theorem dX8_digest_321 : decode cX8_digest 321 = .ok (.lstore_n 1, 1) := by decide +kernel
theorem dX8_digest_322 : decode cX8_digest 322 = .ok (.iinc 4 1, 3) := by decide +kernel
theorem dX8_digest_325 : decode cX8_digest 325 = .ok (.goto (-60), 3) := by decide +kernel
theorem dX8_digest_328 : decode cX8_digest 328 = .ok (.iinc 3 1, 3) := by decide +kernel
theorem dX8_digest_331 : decode cX8_digest 331 = .ok (.goto (-81), 3) := by decide +kernel
theorem dX8_digest_334 : decode cX8_digest 334 = .ok (.iconst 0, 1) := by decide +kernel
theorem dX8_digest_335 : decode cX8_digest 335 = .ok (.istore_n 3, 1) := by decide +kernel
theorem dX8_digest_336 : decode cX8_digest 336 = .ok (.iload_n 3, 1) := by decide +kernel
theorem dX8_digest_337 : decode cX8_digest 337 = .ok (.bipush 8, 2) := by decide +kernel
theorem dX8_digest_339 : decode cX8_digest 339 = .ok (.if_icmp .ge 54, 3) := by decide +kernel
theorem dX8_digest_342 : decode cX8_digest 342 = .ok (.iconst 1, 1) := by decide +kernel
theorem dX8_digest_343 : decode cX8_digest 343 = .ok (.istore 4, 2) := by decide +kernel
theorem dX8_digest_345 : decode cX8_digest 345 = .ok (.iload 4, 2) := by decide +kernel
theorem dX8_digest_347 : decode cX8_digest 347 = .ok (.iconst 5, 1) := by decide +kernel
theorem dX8_digest_348 : decode cX8_digest 348 = .ok (.if_icmp .ge 39, 3) := by decide +kernel
theorem dX8_digest_351 : decode cX8_digest 351 = .ok (.aload_n 0, 1) := by decide +kernel
theorem dX8_digest_352 : decode cX8_digest 352 = .ok (.iload_n 3, 1) := by decide +kernel
theorem dX8_digest_353 : decode cX8_digest 353 = .ok (.invokevirtual 94, 3) := by decide +kernel
theorem dX8_digest_356 : decode cX8_digest 356 = .ok (.ifCond .eq 31, 3) := by decide +kernel
theorem dX8_digest_359 : decode cX8_digest 359 = .ok (.ldc2_w 193, 3) := by decide +kernel
theorem dX8_digest_362 : decode cX8_digest 362 = .ok (.lload_n 1, 1) := by decide +kernel
theorem dX8_digest_363 : decode cX8_digest 363 = .ok (.lmul, 1) := by decide +kernel
theorem dX8_digest_364 : decode cX8_digest 364 = .ok (.aload_n 0, 1) := by decide +kernel
theorem dX8_digest_365 : decode cX8_digest 365 = .ok (.getfield 7, 3) := by decide +kernel
theorem dX8_digest_368 : decode cX8_digest 368 = .ok (.sipush 173, 3) := by decide +kernel
theorem dX8_digest_371 : decode cX8_digest 371 = .ok (.iconst 5, 1) := by decide +kernel
theorem dX8_digest_372 : decode cX8_digest 372 = .ok (.iload_n 3, 1) := by decide +kernel
theorem dX8_digest_373 : decode cX8_digest 373 = .ok (.imul, 1) := by decide +kernel
theorem dX8_digest_374 : decode cX8_digest 374 = .ok (.iadd, 1) := by decide +kernel
theorem dX8_digest_375 : decode cX8_digest 375 = .ok (.iload 4, 2) := by decide +kernel
theorem dX8_digest_377 : decode cX8_digest 377 = .ok (.iadd, 1) := by decide +kernel
theorem dX8_digest_378 : decode cX8_digest 378 = .ok (.laload, 1) := by decide +kernel
theorem dX8_digest_379 : decode cX8_digest 379 = .ok (.ladd, 1) := by decide +kernel
theorem dX8_digest_380 : decode cX8_digest 380 = .ok (.lstore_n 1, 1) := by decide +kernel
theorem dX8_digest_381 : decode cX8_digest 381 = .ok (.iinc 4 1, 3) := by decide +kernel
theorem dX8_digest_384 : decode cX8_digest 384 = .ok (.goto (-39), 3) := by decide +kernel
theorem dX8_digest_387 : decode cX8_digest 387 = .ok (.iinc 3 1, 3) := by decide +kernel
theorem dX8_digest_390 : decode cX8_digest 390 = .ok (.goto (-54), 3) := by decide +kernel
theorem dX8_digest_393 : decode cX8_digest 393 = .ok (.ldc2_w 193, 3) := by decide +kernel
theorem dX8_digest_396 : decode cX8_digest 396 = .ok (.ldc2_w 193, 3) := by decide +kernel
theorem dX8_digest_399 : decode cX8_digest 399 = .ok (.ldc2_w 193, 3) := by decide +kernel
theorem dX8_digest_402 : decode cX8_digest 402 = .ok (.lload_n 1, 1) := by decide +kernel
theorem dX8_digest_403 : decode cX8_digest 403 = .ok (.lmul, 1) := by decide +kernel
theorem dX8_digest_404 : decode cX8_digest 404 = .ok (.aload_n 0, 1) := by decide +kernel
theorem dX8_digest_405 : decode cX8_digest 405 = .ok (.iconst 0, 1) := by decide +kernel
theorem dX8_digest_406 : decode cX8_digest 406 = .ok (.invokevirtual 167, 3) := by decide +kernel
theorem dX8_digest_409 : decode cX8_digest 409 = .ok (.ladd, 1) := by decide +kernel
theorem dX8_digest_410 : decode cX8_digest 410 = .ok (.lmul, 1) := by decide +kernel
theorem dX8_digest_411 : decode cX8_digest 411 = .ok (.aload_n 0, 1) := by decide +kernel
theorem dX8_digest_412 : decode cX8_digest 412 = .ok (.iconst 1, 1) := by decide +kernel
theorem dX8_digest_413 : decode cX8_digest 413 = .ok (.invokevirtual 167, 3) := by decide +kernel
theorem dX8_digest_416 : decode cX8_digest 416 = .ok (.ladd, 1) := by decide +kernel
theorem dX8_digest_417 : decode cX8_digest 417 = .ok (.lmul, 1) := by decide +kernel
theorem dX8_digest_418 : decode cX8_digest 418 = .ok (.aload_n 0, 1) := by decide +kernel
theorem dX8_digest_419 : decode cX8_digest 419 = .ok (.getfield 7, 3) := by decide +kernel
theorem dX8_digest_422 : decode cX8_digest 422 = .ok (.iconst 1, 1) := by decide +kernel
theorem dX8_digest_423 : decode cX8_digest 423 = .ok (.laload, 1) := by decide +kernel
theorem dX8_digest_424 : decode cX8_digest 424 = .ok (.ladd, 1) := by decide +kernel
theorem dX8_digest_425 : decode cX8_digest 425 = .ok (.lreturn, 1) := by decide +kernel
theorem dJxe99ae_isNaN_b9ae7_0 : decode cJxe99ae_isNaN_b9ae7 0 = .ok (.dload_n 0, 1) := by decide +kernel
theorem dJxe99ae_isNaN_b9ae7_1 : decode cJxe99ae_isNaN_b9ae7 1 = .ok (.dload_n 0, 1) := by decide +kernel
theorem dJxe99ae_isNaN_b9ae7_2 : decode cJxe99ae_isNaN_b9ae7 2 = .ok (.dcmp .l, 1) := by decide +kernel
theorem dJxe99ae_isNaN_b9ae7_3 : decode cJxe99ae_isNaN_b9ae7 3 = .ok (.ifCond .eq 7, 3) := by decide +kernel
theorem dJxe99ae_isNaN_b9ae7_6 : decode cJxe99ae_isNaN_b9ae7 6 = .ok (.iconst 1, 1) := by decide +kernel
theorem dJxe99ae_isNaN_b9ae7_7 : decode cJxe99ae_isNaN_b9ae7 7 = .ok (.goto 4, 3) := by decide +kernel
theorem dJxe99ae_isNaN_b9ae7_10 : decode cJxe99ae_isNaN_b9ae7 10 = .ok (.iconst 0, 1) := by decide +kernel
theorem dJxe99ae_isNaN_b9ae7_11 : decode cJxe99ae_isNaN_b9ae7 11 = .ok (.ireturn, 1) := by decide +kernel
set_option maxRecDepth 20000 in
theorem ggJxe99ae_doubleToLongBits_ccdee_Jxe99ae_isNaN_b9ae7 : GoodIn wsJxe99ae_doubleToLongBits_ccdee wsJxe99ae_isNaN_b9ae7 := goodIn_r _ [9] (by decide +kernel) (by decide +kernel)
set_option maxRecDepth 20000 in
theorem gJxe99ae_doubleToLongBits_ccdee_Jxe99ae_isNaN_b9ae7 : GoodIn wsJxe99ae_doubleToLongBits_ccdee (va_wsS RJxe99ae 122 yJxe99ae_isNaN_b9ae7 wsJxe99ae_isNaN_b9ae7) := goodIn_app (goodIn_of _ (by decide +kernel)) ggJxe99ae_doubleToLongBits_ccdee_Jxe99ae_isNaN_b9ae7
theorem dJxe99ae_doubleToLongBits_ccdee_0 : decode cJxe99ae_doubleToLongBits_ccdee 0 = .ok (.dload_n 0, 1) := by decide +kernel
theorem dJxe99ae_doubleToLongBits_ccdee_1 : decode cJxe99ae_doubleToLongBits_ccdee 1 = .ok (.invokestatic 122, 3) := by decide +kernel
theorem dJxe99ae_doubleToLongBits_ccdee_4 : decode cJxe99ae_doubleToLongBits_ccdee 4 = .ok (.ifCond .ne 8, 3) := by decide +kernel
theorem dJxe99ae_doubleToLongBits_ccdee_7 : decode cJxe99ae_doubleToLongBits_ccdee 7 = .ok (.dload_n 0, 1) := by decide +kernel
theorem dJxe99ae_doubleToLongBits_ccdee_8 : decode cJxe99ae_doubleToLongBits_ccdee 8 = .ok (.invokestatic 134, 3) := by decide +kernel
theorem dJxe99ae_doubleToLongBits_ccdee_11 : decode cJxe99ae_doubleToLongBits_ccdee 11 = .ok (.lreturn, 1) := by decide +kernel
theorem dJxe99ae_doubleToLongBits_ccdee_12 : decode cJxe99ae_doubleToLongBits_ccdee 12 = .ok (.ldc2_w 137, 3) := by decide +kernel
theorem dJxe99ae_doubleToLongBits_ccdee_15 : decode cJxe99ae_doubleToLongBits_ccdee 15 = .ok (.lreturn, 1) := by decide +kernel
theorem dJ6_bitCount_0f7a4_0 : decode cJ6_bitCount_0f7a4 0 = .ok (.iload_n 0, 1) := by decide +kernel
theorem dJ6_bitCount_0f7a4_1 : decode cJ6_bitCount_0f7a4 1 = .ok (.iload_n 0, 1) := by decide +kernel
theorem dJ6_bitCount_0f7a4_2 : decode cJ6_bitCount_0f7a4 2 = .ok (.iconst 1, 1) := by decide +kernel
theorem dJ6_bitCount_0f7a4_3 : decode cJ6_bitCount_0f7a4 3 = .ok (.iushr, 1) := by decide +kernel
theorem dJ6_bitCount_0f7a4_4 : decode cJ6_bitCount_0f7a4 4 = .ok (.ldc_w 265, 3) := by decide +kernel
theorem dJ6_bitCount_0f7a4_7 : decode cJ6_bitCount_0f7a4 7 = .ok (.iand, 1) := by decide +kernel
theorem dJ6_bitCount_0f7a4_8 : decode cJ6_bitCount_0f7a4 8 = .ok (.isub, 1) := by decide +kernel
theorem dJ6_bitCount_0f7a4_9 : decode cJ6_bitCount_0f7a4 9 = .ok (.istore_n 0, 1) := by decide +kernel
theorem dJ6_bitCount_0f7a4_10 : decode cJ6_bitCount_0f7a4 10 = .ok (.iload_n 0, 1) := by decide +kernel
theorem dJ6_bitCount_0f7a4_11 : decode cJ6_bitCount_0f7a4 11 = .ok (.ldc_w 266, 3) := by decide +kernel
theorem dJ6_bitCount_0f7a4_14 : decode cJ6_bitCount_0f7a4 14 = .ok (.iand, 1) := by decide +kernel
theorem dJ6_bitCount_0f7a4_15 : decode cJ6_bitCount_0f7a4 15 = .ok (.iload_n 0, 1) := by decide +kernel
theorem dJ6_bitCount_0f7a4_16 : decode cJ6_bitCount_0f7a4 16 = .ok (.iconst 2, 1) := by decide +kernel
theorem dJ6_bitCount_0f7a4_17 : decode cJ6_bitCount_0f7a4 17 = .ok (.iushr, 1) := by decide +kernel
theorem dJ6_bitCount_0f7a4_18 : decode cJ6_bitCount_0f7a4 18 = .ok (.ldc_w 266, 3) := by decide +kernel
theorem dJ6_bitCount_0f7a4_21 : decode cJ6_bitCount_0f7a4 21 = .ok (.iand, 1) := by decide +kernel
theorem dJ6_bitCount_0f7a4_22 : decode cJ6_bitCount_0f7a4 22 = .ok (.iadd, 1) := by decide +kernel
theorem dJ6_bitCount_0f7a4_23 : decode cJ6_bitCount_0f7a4 23 = .ok (.istore_n 0, 1) := by decide +kernel
theorem dJ6_bitCount_0f7a4_24 : decode cJ6_bitCount_0f7a4 24 = .ok (.iload_n 0, 1) := by decide +kernel
theorem dJ6_bitCount_0f7a4_25 : decode cJ6_bitCount_0f7a4 25 = .ok (.iload_n 0, 1) := by decide +kernel
theorem dJ6_bitCount_0f7a4_26 : decode cJ6_bitCount_0f7a4 26 = .ok (.iconst 4, 1) := by decide +kernel
theorem dJ6_bitCount_0f7a4_27 : decode cJ6_bitCount_0f7a4 27 = .ok (.iushr, 1) := by decide +kernel
theorem dJ6_bitCount_0f7a4_28 : decode cJ6_bitCount_0f7a4 28 = .ok (.iadd, 1) := by decide +kernel
theorem dJ6_bitCount_0f7a4_29 : decode cJ6_bitCount_0f7a4 29 = .ok (.ldc_w 267, 3) := by decide +kernel
theorem dJ6_bitCount_0f7a4_32 : decode cJ6_bitCount_0f7a4 32 = .ok (.iand, 1) := by decide +kernel
theorem dJ6_bitCount_0f7a4_33 : decode cJ6_bitCount_0f7a4 33 = .ok (.istore_n 0, 1) := by decide +kernel
theorem dJ6_bitCount_0f7a4_34 : decode cJ6_bitCount_0f7a4 34 = .ok (.iload_n 0, 1) := by decide +kernel
theorem dJ6_bitCount_0f7a4_35 : decode cJ6_bitCount_0f7a4 35 = .ok (.iload_n 0, 1) := by decide +kernel
theorem dJ6_bitCount_0f7a4_36 : decode cJ6_bitCount_0f7a4 36 = .ok (.bipush 8, 2) := by decide +kernel
theorem dJ6_bitCount_0f7a4_38 : decode cJ6_bitCount_0f7a4 38 = .ok (.iushr, 1) := by decide +kernel
theorem dJ6_bitCount_0f7a4_39 : decode cJ6_bitCount_0f7a4 39 = .ok (.iadd, 1) := by decide +kernel
theorem dJ6_bitCount_0f7a4_40 : decode cJ6_bitCount_0f7a4 40 = .ok (.istore_n 0, 1) := by decide +kernel
theorem dJ6_bitCount_0f7a4_41 : decode cJ6_bitCount_0f7a4 41 = .ok (.iload_n 0, 1) := by decide +kernel
theorem dJ6_bitCount_0f7a4_42 : decode cJ6_bitCount_0f7a4 42 = .ok (.iload_n 0, 1) := by decide +kernel
theorem dJ6_bitCount_0f7a4_43 : decode cJ6_bitCount_0f7a4 43 = .ok (.bipush 16, 2) := by decide +kernel
theorem dJ6_bitCount_0f7a4_45 : decode cJ6_bitCount_0f7a4 45 = .ok (.iushr, 1) := by decide +kernel
theorem dJ6_bitCount_0f7a4_46 : decode cJ6_bitCount_0f7a4 46 = .ok (.iadd, 1) := by decide +kernel
theorem dJ6_bitCount_0f7a4_47 : decode cJ6_bitCount_0f7a4 47 = .ok (.istore_n 0, 1) := by decide +kernel
theorem dJ6_bitCount_0f7a4_48 : decode cJ6_bitCount_0f7a4 48 = .ok (.iload_n 0, 1) := by decide +kernel
theorem dJ6_bitCount_0f7a4_49 : decode cJ6_bitCount_0f7a4 49 = .ok (.bipush 63, 2) := by decide +kernel
theorem dJ6_bitCount_0f7a4_51 : decode cJ6_bitCount_0f7a4 51 = .ok (.iand, 1) := by decide +kernel
theorem dJ6_bitCount_0f7a4_52 : decode cJ6_bitCount_0f7a4 52 = .ok (.ireturn, 1) := by decide +kernel
theorem dJ9_max_7cf53_0 : decode cJ9_max_7cf53 0 = .ok (.iload_n 0, 1) := by decide +kernel
theorem dJ9_max_7cf53_1 : decode cJ9_max_7cf53 1 = .ok (.iload_n 1, 1) := by decide +kernel
theorem dJ9_max_7cf53_2 : decode cJ9_max_7cf53 2 = .ok (.if_icmp .lt 7, 3) := by decide +kernel
theorem dJ9_max_7cf53_5 : decode cJ9_max_7cf53 5 = .ok (.iload_n 0, 1) := by decide +kernel
theorem dJ9_max_7cf53_6 : decode cJ9_max_7cf53 6 = .ok (.goto 4, 3) := by decide +kernel
theorem dJ9_max_7cf53_9 : decode cJ9_max_7cf53 9 = .ok (.iload_n 1, 1) := by decide +kernel
theorem dJ9_max_7cf53_10 : decode cJ9_max_7cf53 10 = .ok (.ireturn, 1) := by decide +kernel
theorem dJ9_min_7cf53_0 : decode cJ9_min_7cf53 0 = .ok (.iload_n 0, 1) := by decide +kernel
theorem dJ9_min_7cf53_1 : decode cJ9_min_7cf53 1 = .ok (.iload_n 1, 1) := by decide +kernel
theorem dJ9_min_7cf53_2 : decode cJ9_min_7cf53 2 = .ok (.if_icmp .gt 7, 3) := by decide +kernel
theorem dJ9_min_7cf53_5 : decode cJ9_min_7cf53 5 = .ok (.iload_n 0, 1) := by decide +kernel
theorem dJ9_min_7cf53_6 : decode cJ9_min_7cf53 6 = .ok (.goto 4, 3) := by decide +kernel
theorem dJ9_min_7cf53_9 : decode cJ9_min_7cf53 9 = .ok (.iload_n 1, 1) := by decide +kernel
theorem dJ9_min_7cf53_10 : decode cJ9_min_7cf53 10 = .ok (.ireturn, 1) := by decide +kernel
abbrev vwCl : List vw_C := [(RX0, TX0, 3), (RX1, TX1, 3), (RX2, TX2, 3), (RX3, TX3, 2), (RX4, TX4, 5), (RX5, TX5, 14), (RX6, TX6, 3), (RX7, TX7, 6), (RX8, TX8, 13)]

