theorem dX7_fall_0 : decode cX7_fall 0 = .ok (.aload_n 0, 1) := by decide +kernel
theorem dX7_fall_1 : decode cX7_fall 1 = .ok (.iload_n 1, 1) := by decide +kernel
theorem dX7_fall_2 : decode cX7_fall 2 = .ok (.invokevirtual 86, 3) := by decide +kernel
theorem dX7_fall_5 : decode cX7_fall 5 = .ok (.ifCond .ne 5, 3) := by decide +kernel
theorem dX7_fall_8 : decode cX7_fall 8 = .ok (.iconst (-1), 1) := by decide +kernel
theorem dX7_fall_9 : decode cX7_fall 9 = .ok (.ireturn, 1) := by decide +kernel
theorem dX7_fall_10 : decode cX7_fall 10 = .ok (.aload_n 0, 1) := by decide +kernel
theorem dX7_fall_11 : decode cX7_fall 11 = .ok (.getfield 19, 3) := by decide +kernel
theorem dX7_fall_14 : decode cX7_fall 14 = .ok (.aload_n 0, 1) := by decide +kernel
theorem dX7_fall_15 : decode cX7_fall 15 = .ok (.getfield 12, 3) := by decide +kernel
theorem dX7_fall_18 : decode cX7_fall 18 = .ok (.invokevirtual 52, 3) := by decide +kernel
theorem dX7_fall_21 : decode cX7_fall 21 = .ok (.aload_n 0, 1) := by decide +kernel
theorem dX7_fall_22 : decode cX7_fall 22 = .ok (.getfield 12, 3) := by decide +kernel
theorem dX7_fall_25 : decode cX7_fall 25 = .ok (.iload_n 1, 1) := by decide +kernel
theorem dX7_fall_26 : decode cX7_fall 26 = .ok (.invokevirtual 96, 3) := by decide +kernel
theorem dX7_fall_29 : decode cX7_fall 29 = .ok (.ireturn, 1) := by decide +kernel
set_option maxRecDepth 20000 in
theorem ggX7_leave_X7_isHere : GoodIn wsX7_leave wsX7_isHere := goodIn_r _ [8, 1, 9, 10, 11, 7, 12, 13, 14, 15, 16, 17, 18, 19, 159, 160, 161, 162, 163, 164, 165, 166, 167, 168, 169, 170, 171, 172, 173, 174, 175, 176, 177, 178] (by decide +kernel) (by decide +kernel)
set_option maxRecDepth 20000 in
theorem gX7_leave_X7_isHere : GoodIn wsX7_leave (wsV RX7 86 RX7 yX7_isHere wsX7_isHere) := goodIn_app (goodIn_of _ (by decide +kernel)) ggX7_leave_X7_isHere
set_option maxRecDepth 20000 in
theorem ggX7_leave_X5_isJoined : GoodIn wsX7_leave wsX5_isJoined := goodIn_r _ [23, 24, 165, 166, 167, 168, 169, 170, 171, 172, 173, 174, 175, 176, 177, 178] (by decide +kernel) (by decide +kernel)
set_option maxRecDepth 20000 in
theorem gX7_leave_X5_isJoined : GoodIn wsX7_leave (wsV RX7 64 RX5 yX5_isJoined wsX5_isJoined) := goodIn_app (goodIn_of _ (by decide +kernel)) ggX7_leave_X5_isJoined
set_option maxRecDepth 20000 in
theorem ggX7_leave_X1_countOf : GoodIn wsX7_leave wsX1_countOf := goodIn_r _ [29, 30, 31, 32, 28, 33, 34, 35, 36, 37, 38, 39, 179, 180, 181] (by decide +kernel) (by decide +kernel)
set_option maxRecDepth 20000 in
theorem gX7_leave_X1_countOf : GoodIn wsX7_leave (wsV RX7 100 RX1 yX1_countOf wsX1_countOf) := goodIn_app (goodIn_of _ (by decide +kernel)) ggX7_leave_X1_countOf
set_option maxRecDepth 20000 in
theorem ggX7_leave_X0_keep : GoodIn wsX7_leave wsX0_keep := goodIn_r _ [44, 45, 46, 47, 48, 17, 49, 50, 51, 52, 53, 54, 55, 19, 56, 57, 58, 59, 60, 61, 62, 24, 63, 64, 65, 66, 67, 68, 69, 70, 71, 72, 73, 74, 28, 75, 76, 77, 78, 79, 80, 81, 82, 83, 84, 85, 86, 87, 88, 89, 90, 91, 92, 34, 35, 93, 94, 95, 96, 97, 98, 99, 100, 101, 102, 103, 104, 105, 106, 107, 108, 109, 110, 111, 112, 113, 114, 115, 116, 117, 118, 119, 182, 183, 184, 165, 166, 167, 168, 169, 170, 171, 172, 173, 174, 175, 176, 177, 178, 185, 186, 187, 188, 189, 179, 180, 181] (by decide +kernel) (by decide +kernel)
set_option maxRecDepth 20000 in
theorem gX7_leave_X0_keep : GoodIn wsX7_leave (wsV RX7 52 RX0 yX0_keep wsX0_keep) := goodIn_app (goodIn_of _ (by decide +kernel)) ggX7_leave_X0_keep
set_option maxRecDepth 20000 in
theorem ggX7_leave_X5_handOver : GoodIn wsX7_leave wsX5_handOver := goodIn_r _ [123, 70, 59, 124, 125, 55, 71, 126, 127, 128, 69, 129, 87, 88, 130, 131, 132, 133, 134, 135, 7, 136, 137, 138, 139, 17, 140, 141, 142, 143, 144, 145, 146, 147, 148, 72, 149, 150, 151, 152, 153, 154, 155, 156, 157, 158, 19, 165, 166, 167, 168, 169, 170, 171, 172, 173, 174, 175, 176, 177, 178, 188, 189] (by decide +kernel) (by decide +kernel)
set_option maxRecDepth 20000 in
theorem gX7_leave_X5_handOver : GoodIn wsX7_leave (wsV RX7 103 RX5 yX5_handOver wsX5_handOver) := goodIn_app (goodIn_of _ (by decide +kernel)) ggX7_leave_X5_handOver
theorem dX7_leave_0 : decode cX7_leave 0 = .ok (.aload_n 0, 1) := by decide +kernel
theorem dX7_leave_1 : decode cX7_leave 1 = .ok (.iload_n 1, 1) := by decide +kernel
theorem dX7_leave_2 : decode cX7_leave 2 = .ok (.invokevirtual 86, 3) := by decide +kernel
theorem dX7_leave_5 : decode cX7_leave 5 = .ok (.ifCond .eq 16, 3) := by decide +kernel
theorem dX7_leave_8 : decode cX7_leave 8 = .ok (.aload_n 0, 1) := by decide +kernel
theorem dX7_leave_9 : decode cX7_leave 9 = .ok (.iload_n 2, 1) := by decide +kernel
theorem dX7_leave_10 : decode cX7_leave 10 = .ok (.invokevirtual 86, 3) := by decide +kernel
theorem dX7_leave_13 : decode cX7_leave 13 = .ok (.ifCond .eq 8, 3) := by decide +kernel
theorem dX7_leave_16 : decode cX7_leave 16 = .ok (.iload_n 1, 1) := by decide +kernel
theorem dX7_leave_17 : decode cX7_leave 17 = .ok (.iload_n 2, 1) := by decide +kernel
theorem dX7_leave_18 : decode cX7_leave 18 = .ok (.if_icmp .ne 5, 3) := by decide +kernel
theorem dX7_leave_21 : decode cX7_leave 21 = .ok (.iconst (-1), 1) := by decide +kernel
theorem dX7_leave_22 : decode cX7_leave 22 = .ok (.ireturn, 1) := by decide +kernel
theorem dX7_leave_23 : decode cX7_leave 23 = .ok (.aload_n 0, 1) := by decide +kernel
theorem dX7_leave_24 : decode cX7_leave 24 = .ok (.getfield 12, 3) := by decide +kernel
theorem dX7_leave_27 : decode cX7_leave 27 = .ok (.iload_n 1, 1) := by decide +kernel
theorem dX7_leave_28 : decode cX7_leave 28 = .ok (.iload_n 2, 1) := by decide +kernel
theorem dX7_leave_29 : decode cX7_leave 29 = .ok (.invokevirtual 64, 3) := by decide +kernel
theorem dX7_leave_32 : decode cX7_leave 32 = .ok (.ifCond .eq 17, 3) := by decide +kernel
theorem dX7_leave_35 : decode cX7_leave 35 = .ok (.aload_n 0, 1) := by decide +kernel
theorem dX7_leave_36 : decode cX7_leave 36 = .ok (.getfield 12, 3) := by decide +kernel
theorem dX7_leave_39 : decode cX7_leave 39 = .ok (.getfield 74, 3) := by decide +kernel
theorem dX7_leave_42 : decode cX7_leave 42 = .ok (.iload_n 1, 1) := by decide +kernel
theorem dX7_leave_43 : decode cX7_leave 43 = .ok (.invokevirtual 100, 3) := by decide +kernel
theorem dX7_leave_46 : decode cX7_leave 46 = .ok (.ifCond .le 6, 3) := by decide +kernel
theorem dX7_leave_49 : decode cX7_leave 49 = .ok (.bipush (-2), 2) := by decide +kernel
theorem dX7_leave_51 : decode cX7_leave 51 = .ok (.ireturn, 1) := by decide +kernel
theorem dX7_leave_52 : decode cX7_leave 52 = .ok (.aload_n 0, 1) := by decide +kernel
theorem dX7_leave_53 : decode cX7_leave 53 = .ok (.getfield 19, 3) := by decide +kernel
theorem dX7_leave_56 : decode cX7_leave 56 = .ok (.aload_n 0, 1) := by decide +kernel
theorem dX7_leave_57 : decode cX7_leave 57 = .ok (.getfield 12, 3) := by decide +kernel
theorem dX7_leave_60 : decode cX7_leave 60 = .ok (.invokevirtual 52, 3) := by decide +kernel
theorem dX7_leave_63 : decode cX7_leave 63 = .ok (.aload_n 0, 1) := by decide +kernel
theorem dX7_leave_64 : decode cX7_leave 64 = .ok (.getfield 12, 3) := by decide +kernel
theorem dX7_leave_67 : decode cX7_leave 67 = .ok (.iload_n 1, 1) := by decide +kernel
theorem dX7_leave_68 : decode cX7_leave 68 = .ok (.iload_n 2, 1) := by decide +kernel
theorem dX7_leave_69 : decode cX7_leave 69 = .ok (.invokevirtual 103, 3) := by decide +kernel
theorem dX7_leave_72 : decode cX7_leave 72 = .ok (.iconst 1, 1) := by decide +kernel
theorem dX7_leave_73 : decode cX7_leave 73 = .ok (.ireturn, 1) := by decide +kernel
set_option maxRecDepth 20000 in
theorem ggX7_talk_X7_isKind : GoodIn wsX7_talk wsX7_isKind := goodIn_r _ [6] (by decide +kernel) (by decide +kernel)
set_option maxRecDepth 20000 in
theorem gX7_talk_X7_isKind : GoodIn wsX7_talk (va_wsS RX7 106 yX7_isKind wsX7_isKind) := goodIn_app (goodIn_of _ (by decide +kernel)) ggX7_talk_X7_isKind
set_option maxRecDepth 20000 in
theorem ggX7_talk_X7_isHere : GoodIn wsX7_talk wsX7_isHere := goodIn_r _ [10, 1, 11, 12, 13, 5, 14, 15, 16, 17, 18, 19, 20, 21, 169, 170, 171, 172, 173, 174, 175, 176, 177, 178, 179, 180, 181, 182, 183, 184, 185, 186, 187, 188] (by decide +kernel) (by decide +kernel)
set_option maxRecDepth 20000 in
theorem gX7_talk_X7_isHere : GoodIn wsX7_talk (wsV RX7 86 RX7 yX7_isHere wsX7_isHere) := goodIn_app (goodIn_of _ (by decide +kernel)) ggX7_talk_X7_isHere
set_option maxRecDepth 20000 in
theorem ggX7_talk_X5_isJoined : GoodIn wsX7_talk wsX5_isJoined := goodIn_r _ [25, 26, 175, 176, 177, 178, 179, 180, 181, 182, 183, 184, 185, 186, 187, 188] (by decide +kernel) (by decide +kernel)
set_option maxRecDepth 20000 in
theorem gX7_talk_X5_isJoined : GoodIn wsX7_talk (wsV RX7 64 RX5 yX5_isJoined wsX5_isJoined) := goodIn_app (goodIn_of _ (by decide +kernel)) ggX7_talk_X5_isJoined
set_option maxRecDepth 20000 in
theorem ggX7_talk_X0_keep : GoodIn wsX7_talk wsX0_keep := goodIn_r _ [31, 32, 33, 34, 35, 19, 36, 37, 38, 39, 40, 41, 42, 21, 43, 44, 45, 46, 47, 48, 49, 26, 50, 51, 52, 53, 54, 55, 56, 57, 58, 59, 60, 61, 62, 63, 64, 65, 66, 67, 68, 69, 70, 71, 72, 73, 74, 75, 76, 77, 78, 79, 80, 81, 82, 83, 84, 85, 86, 87, 88, 89, 90, 91, 92, 93, 94, 95, 96, 97, 98, 99, 100, 101, 102, 103, 104, 105, 106, 107, 108, 109, 189, 190, 191, 175, 176, 177, 178, 179, 180, 181, 182, 183, 184, 185, 186, 187, 188, 192, 193, 194, 195, 196, 197, 198, 199] (by decide +kernel) (by decide +kernel)
set_option maxRecDepth 20000 in
theorem gX7_talk_X0_keep : GoodIn wsX7_talk (wsV RX7 52 RX0 yX0_keep wsX0_keep) := goodIn_app (goodIn_of _ (by decide +kernel)) ggX7_talk_X0_keep
set_option maxRecDepth 20000 in
theorem ggX7_talk_X5_converse : GoodIn wsX7_talk wsX5_converse := goodIn_r _ [113, 44, 53, 114, 115, 116, 19, 117, 57, 118, 119, 58, 120, 121, 122, 56, 123, 75, 76, 124, 125, 126, 127, 128, 5, 129, 130, 131, 132, 133, 134, 135, 136, 137, 47, 138, 139, 140, 141, 48, 142, 143, 144, 49, 145, 146, 147, 52, 148, 67, 69, 149, 150, 151, 152, 68, 153, 154, 155, 156, 157, 158, 159, 160, 161, 162, 163, 164, 165, 166, 167, 168, 98, 91, 92, 93, 175, 176, 177, 178, 179, 180, 181, 182, 183, 184, 185, 186, 187, 188, 195, 196, 192, 193, 194] (by decide +kernel) (by decide +kernel)
set_option maxRecDepth 20000 in
theorem gX7_talk_X5_converse : GoodIn wsX7_talk (wsV RX7 109 RX5 yX5_converse wsX5_converse) := goodIn_app (goodIn_of _ (by decide +kernel)) ggX7_talk_X5_converse
theorem dX7_talk_0 : decode cX7_talk 0 = .ok (.iload_n 1, 1) := by decide +kernel
theorem dX7_talk_1 : decode cX7_talk 1 = .ok (.invokestatic 106, 3) := by decide +kernel
theorem dX7_talk_4 : decode cX7_talk 4 = .ok (.ifCond .eq 19, 3) := by decide +kernel
theorem dX7_talk_7 : decode cX7_talk 7 = .ok (.aload_n 0, 1) := by decide +kernel
theorem dX7_talk_8 : decode cX7_talk 8 = .ok (.iload_n 2, 1) := by decide +kernel
theorem dX7_talk_9 : decode cX7_talk 9 = .ok (.invokevirtual 86, 3) := by decide +kernel
theorem dX7_talk_12 : decode cX7_talk 12 = .ok (.ifCond .eq 11, 3) := by decide +kernel
theorem dX7_talk_15 : decode cX7_talk 15 = .ok (.aload_n 0, 1) := by decide +kernel
theorem dX7_talk_16 : decode cX7_talk 16 = .ok (.iload_n 3, 1) := by decide +kernel
theorem dX7_talk_17 : decode cX7_talk 17 = .ok (.invokevirtual 86, 3) := by decide +kernel
theorem dX7_talk_20 : decode cX7_talk 20 = .ok (.ifCond .ne 5, 3) := by decide +kernel
theorem dX7_talk_23 : decode cX7_talk 23 = .ok (.iconst (-1), 1) := by decide +kernel
theorem dX7_talk_24 : decode cX7_talk 24 = .ok (.ireturn, 1) := by decide +kernel
theorem dX7_talk_25 : decode cX7_talk 25 = .ok (.aload_n 0, 1) := by decide +kernel
theorem dX7_talk_26 : decode cX7_talk 26 = .ok (.getfield 12, 3) := by decide +kernel
theorem dX7_talk_29 : decode cX7_talk 29 = .ok (.iload_n 2, 1) := by decide +kernel
theorem dX7_talk_30 : decode cX7_talk 30 = .ok (.iload_n 3, 1) := by decide +kernel
theorem dX7_talk_31 : decode cX7_talk 31 = .ok (.invokevirtual 64, 3) := by decide +kernel
theorem dX7_talk_34 : decode cX7_talk 34 = .ok (.ifCond .ne 6, 3) := by decide +kernel
theorem dX7_talk_37 : decode cX7_talk 37 = .ok (.bipush (-2), 2) := by decide +kernel
theorem dX7_talk_39 : decode cX7_talk 39 = .ok (.ireturn, 1) := by decide +kernel
theorem dX7_talk_40 : decode cX7_talk 40 = .ok (.aload_n 0, 1) := by decide +kernel
theorem dX7_talk_41 : decode cX7_talk 41 = .ok (.getfield 19, 3) := by decide +kernel
theorem dX7_talk_44 : decode cX7_talk 44 = .ok (.aload_n 0, 1) := by decide +kernel
theorem dX7_talk_45 : decode cX7_talk 45 = .ok (.getfield 12, 3) := by decide +kernel
theorem dX7_talk_48 : decode cX7_talk 48 = .ok (.invokevirtual 52, 3) := by decide +kernel
theorem dX7_talk_51 : decode cX7_talk 51 = .ok (.aload_n 0, 1) := by decide +kernel
theorem dX7_talk_52 : decode cX7_talk 52 = .ok (.getfield 12, 3) := by decide +kernel
theorem dX7_talk_55 : decode cX7_talk 55 = .ok (.iload_n 1, 1) := by decide +kernel
theorem dX7_talk_56 : decode cX7_talk 56 = .ok (.iload_n 2, 1) := by decide +kernel
theorem dX7_talk_57 : decode cX7_talk 57 = .ok (.iload_n 3, 1) := by decide +kernel
theorem dX7_talk_58 : decode cX7_talk 58 = .ok (.invokevirtual 109, 3) := by decide +kernel
theorem dX7_talk_61 : decode cX7_talk 61 = .ok (.iconst 1, 1) := by decide +kernel
theorem dX7_talk_62 : decode cX7_talk 62 = .ok (.ireturn, 1) := by decide +kernel
set_option maxRecDepth 20000 in
theorem ggX7_send_X7_isHere : GoodIn wsX7_send wsX7_isHere := goodIn_r _ [8, 1, 9, 10, 11, 7, 12, 13, 14, 15, 16, 17, 18, 19, 136, 137, 138, 139, 140, 141, 142, 143, 144, 145, 146, 147, 148, 149, 150, 151, 152, 153, 154, 155] (by decide +kernel) (by decide +kernel)
set_option maxRecDepth 20000 in
theorem gX7_send_X7_isHere : GoodIn wsX7_send (wsV RX7 86 RX7 yX7_isHere wsX7_isHere) := goodIn_app (goodIn_of _ (by decide +kernel)) ggX7_send_X7_isHere
set_option maxRecDepth 20000 in
theorem ggX7_send_X5_isJoined : GoodIn wsX7_send wsX5_isJoined := goodIn_r _ [23, 24, 142, 143, 144, 145, 146, 147, 148, 149, 150, 151, 152, 153, 154, 155] (by decide +kernel) (by decide +kernel)
set_option maxRecDepth 20000 in
theorem gX7_send_X5_isJoined : GoodIn wsX7_send (wsV RX7 64 RX5 yX5_isJoined wsX5_isJoined) := goodIn_app (goodIn_of _ (by decide +kernel)) ggX7_send_X5_isJoined
set_option maxRecDepth 20000 in
theorem ggX7_send_X1_firstFree : GoodIn wsX7_send wsX1_firstFree := goodIn_r _ [29, 30, 31, 32, 28, 33, 34, 156, 157, 158] (by decide +kernel) (by decide +kernel)
set_option maxRecDepth 20000 in
theorem gX7_send_X1_firstFree : GoodIn wsX7_send (wsV RX7 113 RX1 yX1_firstFree wsX1_firstFree) := goodIn_app (goodIn_of _ (by decide +kernel)) ggX7_send_X1_firstFree
set_option maxRecDepth 20000 in
theorem ggX7_send_X0_keep : GoodIn wsX7_send wsX0_keep := goodIn_r _ [39, 40, 41, 42, 43, 17, 44, 45, 46, 47, 48, 49, 50, 19, 51, 52, 53, 54, 55, 56, 57, 24, 58, 59, 60, 61, 62, 63, 64, 65, 66, 67, 68, 69, 28, 70, 71, 72, 73, 74, 75, 76, 77, 78, 79, 80, 81, 82, 83, 84, 85, 86, 87, 34, 88, 89, 90, 91, 92, 93, 94, 95, 96, 97, 98, 99, 100, 101, 102, 103, 104, 105, 106, 107, 108, 109, 110, 111, 112, 113, 114, 115, 159, 160, 161, 142, 143, 144, 145, 146, 147, 148, 149, 150, 151, 152, 153, 154, 155, 162, 163, 164, 165, 166, 156, 157, 158] (by decide +kernel) (by decide +kernel)
set_option maxRecDepth 20000 in
theorem gX7_send_X0_keep : GoodIn wsX7_send (wsV RX7 52 RX0 yX0_keep wsX0_keep) := goodIn_app (goodIn_of _ (by decide +kernel)) ggX7_send_X0_keep
set_option maxRecDepth 20000 in
theorem ggX7_send_X5_post : GoodIn wsX7_send wsX5_post := goodIn_r _ [119, 65, 120, 121, 66, 70, 122, 123, 124, 64, 125, 82, 83, 126, 7, 127, 128, 129, 130, 28, 131, 34, 88, 90, 132, 133, 134, 135, 142, 143, 144, 145, 146, 147, 148, 149, 150, 151, 152, 153, 154, 155, 165, 166, 156, 157, 158] (by decide +kernel) (by decide +kernel)
set_option maxRecDepth 20000 in
theorem gX7_send_X5_post : GoodIn wsX7_send (wsV RX7 116 RX5 yX5_post wsX5_post) := goodIn_app (goodIn_of _ (by decide +kernel)) ggX7_send_X5_post
theorem dX7_send_0 : decode cX7_send 0 = .ok (.aload_n 0, 1) := by decide +kernel
theorem dX7_send_1 : decode cX7_send 1 = .ok (.iload_n 1, 1) := by decide +kernel
theorem dX7_send_2 : decode cX7_send 2 = .ok (.invokevirtual 86, 3) := by decide +kernel
theorem dX7_send_5 : decode cX7_send 5 = .ok (.ifCond .eq 11, 3) := by decide +kernel
theorem dX7_send_8 : decode cX7_send 8 = .ok (.aload_n 0, 1) := by decide +kernel
theorem dX7_send_9 : decode cX7_send 9 = .ok (.iload_n 2, 1) := by decide +kernel
theorem dX7_send_10 : decode cX7_send 10 = .ok (.invokevirtual 86, 3) := by decide +kernel
theorem dX7_send_13 : decode cX7_send 13 = .ok (.ifCond .ne 5, 3) := by decide +kernel
theorem dX7_send_16 : decode cX7_send 16 = .ok (.iconst (-1), 1) := by decide +kernel
theorem dX7_send_17 : decode cX7_send 17 = .ok (.ireturn, 1) := by decide +kernel
theorem dX7_send_18 : decode cX7_send 18 = .ok (.aload_n 0, 1) := by decide +kernel
theorem dX7_send_19 : decode cX7_send 19 = .ok (.getfield 12, 3) := by decide +kernel
theorem dX7_send_22 : decode cX7_send 22 = .ok (.iload_n 1, 1) := by decide +kernel
theorem dX7_send_23 : decode cX7_send 23 = .ok (.iload_n 2, 1) := by decide +kernel
theorem dX7_send_24 : decode cX7_send 24 = .ok (.invokevirtual 64, 3) := by decide +kernel
theorem dX7_send_27 : decode cX7_send 27 = .ok (.ifCond .ne 6, 3) := by decide +kernel
theorem dX7_send_30 : decode cX7_send 30 = .ok (.bipush (-2), 2) := by decide +kernel
theorem dX7_send_32 : decode cX7_send 32 = .ok (.ireturn, 1) := by decide +kernel
theorem dX7_send_33 : decode cX7_send 33 = .ok (.aload_n 0, 1) := by decide +kernel
theorem dX7_send_34 : decode cX7_send 34 = .ok (.getfield 12, 3) := by decide +kernel
theorem dX7_send_37 : decode cX7_send 37 = .ok (.getfield 74, 3) := by decide +kernel
theorem dX7_send_40 : decode cX7_send 40 = .ok (.invokevirtual 113, 3) := by decide +kernel
theorem dX7_send_43 : decode cX7_send 43 = .ok (.istore_n 3, 1) := by decide +kernel
theorem dX7_send_44 : decode cX7_send 44 = .ok (.iload_n 3, 1) := by decide +kernel
theorem dX7_send_45 : decode cX7_send 45 = .ok (.bipush 8, 2) := by decide +kernel
theorem dX7_send_47 : decode cX7_send 47 = .ok (.if_icmp .lt 6, 3) := by decide +kernel
theorem dX7_send_50 : decode cX7_send 50 = .ok (.bipush (-3), 2) := by decide +kernel
theorem dX7_send_52 : decode cX7_send 52 = .ok (.ireturn, 1) := by decide +kernel
theorem dX7_send_53 : decode cX7_send 53 = .ok (.aload_n 0, 1) := by decide +kernel
theorem dX7_send_54 : decode cX7_send 54 = .ok (.getfield 19, 3) := by decide +kernel
theorem dX7_send_57 : decode cX7_send 57 = .ok (.aload_n 0, 1) := by decide +kernel
theorem dX7_send_58 : decode cX7_send 58 = .ok (.getfield 12, 3) := by decide +kernel
theorem dX7_send_61 : decode cX7_send 61 = .ok (.invokevirtual 52, 3) := by decide +kernel
theorem dX7_send_64 : decode cX7_send 64 = .ok (.aload_n 0, 1) := by decide +kernel
theorem dX7_send_65 : decode cX7_send 65 = .ok (.getfield 12, 3) := by decide +kernel
theorem dX7_send_68 : decode cX7_send 68 = .ok (.iload_n 3, 1) := by decide +kernel
theorem dX7_send_69 : decode cX7_send 69 = .ok (.iload_n 1, 1) := by decide +kernel
theorem dX7_send_70 : decode cX7_send 70 = .ok (.iload_n 2, 1) := by decide +kernel
theorem dX7_send_71 : decode cX7_send 71 = .ok (.invokevirtual 116, 3) := by decide +kernel
theorem dX7_send_74 : decode cX7_send 74 = .ok (.iload_n 3, 1) := by decide +kernel
theorem dX7_send_75 : decode cX7_send 75 = .ok (.ireturn, 1) := by decide +kernel
set_option maxRecDepth 20000 in
theorem ggX7_bring_X1_isUnderWay : GoodIn wsX7_bring wsX1_isUnderWay := goodIn_r _ [9, 10, 145, 146, 147] (by decide +kernel) (by decide +kernel)
set_option maxRecDepth 20000 in
theorem gX7_bring_X1_isUnderWay : GoodIn wsX7_bring (wsV RX7 119 RX1 yX1_isUnderWay wsX1_isUnderWay) := goodIn_app (goodIn_of _ (by decide +kernel)) ggX7_bring_X1_isUnderWay
set_option maxRecDepth 20000 in
theorem ggX7_bring_X0_keep : GoodIn wsX7_bring wsX0_keep := goodIn_r _ [15, 16, 17, 18, 19, 20, 21, 22, 23, 24, 25, 26, 27, 28, 29, 30, 31, 32, 33, 34, 35, 36, 37, 38, 39, 40, 41, 42, 43, 44, 45, 46, 47, 48, 8, 49, 50, 51, 52, 53, 54, 55, 56, 57, 58, 59, 60, 61, 62, 63, 64, 65, 66, 10, 67, 68, 69, 70, 71, 72, 73, 74, 75, 76, 77, 78, 79, 80, 81, 82, 83, 84, 85, 86, 87, 88, 89, 90, 91, 92, 93, 94, 148, 149, 150, 131, 132, 133, 134, 135, 136, 137, 138, 139, 140, 141, 142, 143, 144, 151, 152, 153, 154, 155, 145, 146, 147] (by decide +kernel) (by decide +kernel)
set_option maxRecDepth 20000 in
theorem gX7_bring_X0_keep : GoodIn wsX7_bring (wsV RX7 52 RX0 yX0_keep wsX0_keep) := goodIn_app (goodIn_of _ (by decide +kernel)) ggX7_bring_X0_keep
set_option maxRecDepth 20000 in
theorem ggX7_bring_X5_deliver : GoodIn wsX7_bring wsX5_deliver := goodIn_r _ [98, 49, 99, 100, 101, 44, 45, 102, 103, 104, 43, 105, 62, 61, 106, 107, 108, 109, 110, 111, 112, 113, 114, 115, 8, 116, 117, 118, 119, 120, 10, 67, 69, 121, 122, 123, 124, 131, 132, 133, 134, 135, 136, 137, 138, 139, 140, 141, 142, 143, 144, 145, 146, 147, 154, 155] (by decide +kernel) (by decide +kernel)
set_option maxRecDepth 20000 in
theorem gX7_bring_X5_deliver : GoodIn wsX7_bring (wsV RX7 125 RX5 yX5_deliver wsX5_deliver) := goodIn_app (goodIn_of _ (by decide +kernel)) ggX7_bring_X5_deliver
theorem dX7_bring_0 : decode cX7_bring 0 = .ok (.aload_n 0, 1) := by decide +kernel
theorem dX7_bring_1 : decode cX7_bring 1 = .ok (.getfield 12, 3) := by decide +kernel
theorem dX7_bring_4 : decode cX7_bring 4 = .ok (.getfield 74, 3) := by decide +kernel
theorem dX7_bring_7 : decode cX7_bring 7 = .ok (.iload_n 1, 1) := by decide +kernel
theorem dX7_bring_8 : decode cX7_bring 8 = .ok (.invokevirtual 119, 3) := by decide +kernel
theorem dX7_bring_11 : decode cX7_bring 11 = .ok (.ifCond .ne 5, 3) := by decide +kernel
theorem dX7_bring_14 : decode cX7_bring 14 = .ok (.iconst (-1), 1) := by decide +kernel
theorem dX7_bring_15 : decode cX7_bring 15 = .ok (.ireturn, 1) := by decide +kernel
theorem dX7_bring_16 : decode cX7_bring 16 = .ok (.aload_n 0, 1) := by decide +kernel
theorem dX7_bring_17 : decode cX7_bring 17 = .ok (.getfield 19, 3) := by decide +kernel
theorem dX7_bring_20 : decode cX7_bring 20 = .ok (.aload_n 0, 1) := by decide +kernel
theorem dX7_bring_21 : decode cX7_bring 21 = .ok (.getfield 12, 3) := by decide +kernel
theorem dX7_bring_24 : decode cX7_bring 24 = .ok (.invokevirtual 52, 3) := by decide +kernel
theorem dX7_bring_27 : decode cX7_bring 27 = .ok (.aload_n 0, 1) := by decide +kernel
theorem dX7_bring_28 : decode cX7_bring 28 = .ok (.getfield 12, 3) := by decide +kernel
theorem dX7_bring_31 : decode cX7_bring 31 = .ok (.getfield 74, 3) := by decide +kernel
theorem dX7_bring_34 : decode cX7_bring 34 = .ok (.getfield 122, 3) := by decide +kernel
theorem dX7_bring_37 : decode cX7_bring 37 = .ok (.iload_n 1, 1) := by decide +kernel
theorem dX7_bring_38 : decode cX7_bring 38 = .ok (.iaload, 1) := by decide +kernel
theorem dX7_bring_39 : decode cX7_bring 39 = .ok (.istore_n 2, 1) := by decide +kernel
theorem dX7_bring_40 : decode cX7_bring 40 = .ok (.aload_n 0, 1) := by decide +kernel
theorem dX7_bring_41 : decode cX7_bring 41 = .ok (.getfield 12, 3) := by decide +kernel
theorem dX7_bring_44 : decode cX7_bring 44 = .ok (.iload_n 1, 1) := by decide +kernel
theorem dX7_bring_45 : decode cX7_bring 45 = .ok (.invokevirtual 125, 3) := by decide +kernel
theorem dX7_bring_48 : decode cX7_bring 48 = .ok (.iload_n 2, 1) := by decide +kernel
theorem dX7_bring_49 : decode cX7_bring 49 = .ok (.ireturn, 1) := by decide +kernel
set_option maxRecDepth 20000 in
theorem ggX7_lose_X1_isUnderWay : GoodIn wsX7_lose wsX1_isUnderWay := goodIn_r _ [9, 10, 145, 146, 147] (by decide +kernel) (by decide +kernel)
set_option maxRecDepth 20000 in
theorem gX7_lose_X1_isUnderWay : GoodIn wsX7_lose (wsV RX7 119 RX1 yX1_isUnderWay wsX1_isUnderWay) := goodIn_app (goodIn_of _ (by decide +kernel)) ggX7_lose_X1_isUnderWay
set_option maxRecDepth 20000 in
theorem ggX7_lose_X0_keep : GoodIn wsX7_lose wsX0_keep := goodIn_r _ [15, 16, 17, 18, 19, 20, 21, 22, 23, 24, 25, 26, 27, 28, 29, 30, 31, 32, 33, 34, 35, 36, 37, 38, 39, 40, 41, 42, 43, 44, 45, 46, 47, 48, 8, 49, 50, 51, 52, 53, 54, 55, 56, 57, 58, 59, 60, 61, 62, 63, 64, 65, 66, 10, 67, 68, 69, 70, 71, 72, 73, 74, 75, 76, 77, 78, 79, 80, 81, 82, 83, 84, 85, 86, 87, 88, 89, 90, 91, 92, 93, 94, 148, 149, 150, 131, 132, 133, 134, 135, 136, 137, 138, 139, 140, 141, 142, 143, 144, 151, 152, 153, 154, 155, 145, 146, 147] (by decide +kernel) (by decide +kernel)
set_option maxRecDepth 20000 in
theorem gX7_lose_X0_keep : GoodIn wsX7_lose (wsV RX7 52 RX0 yX0_keep wsX0_keep) := goodIn_app (goodIn_of _ (by decide +kernel)) ggX7_lose_X0_keep
set_option maxRecDepth 20000 in
theorem ggX7_lose_X5_mislay : GoodIn wsX7_lose wsX5_mislay := goodIn_r _ [98, 49, 99, 100, 46, 101, 102, 103, 104, 105, 106, 107, 43, 108, 61, 62, 109, 110, 111, 112, 113, 114, 115, 8, 116, 117, 118, 119, 120, 10, 67, 69, 121, 122, 123, 124, 131, 132, 133, 134, 135, 136, 137, 138, 139, 140, 141, 142, 143, 144, 145, 146, 147, 154, 155] (by decide +kernel) (by decide +kernel)
set_option maxRecDepth 20000 in
theorem gX7_lose_X5_mislay : GoodIn wsX7_lose (wsV RX7 132 RX5 yX5_mislay wsX5_mislay) := goodIn_app (goodIn_of _ (by decide +kernel)) ggX7_lose_X5_mislay
theorem dX7_lose_0 : decode cX7_lose 0 = .ok (.aload_n 0, 1) := by decide +kernel
theorem dX7_lose_1 : decode cX7_lose 1 = .ok (.getfield 12, 3) := by decide +kernel
theorem dX7_lose_4 : decode cX7_lose 4 = .ok (.getfield 74, 3) := by decide +kernel
theorem dX7_lose_7 : decode cX7_lose 7 = .ok (.iload_n 1, 1) := by decide +kernel
theorem dX7_lose_8 : decode cX7_lose 8 = .ok (.invokevirtual 119, 3) := by decide +kernel
theorem dX7_lose_11 : decode cX7_lose 11 = .ok (.ifCond .ne 5, 3) := by decide +kernel
theorem dX7_lose_14 : decode cX7_lose 14 = .ok (.iconst (-1), 1) := by decide +kernel
theorem dX7_lose_15 : decode cX7_lose 15 = .ok (.ireturn, 1) := by decide +kernel
theorem dX7_lose_16 : decode cX7_lose 16 = .ok (.aload_n 0, 1) := by decide +kernel
theorem dX7_lose_17 : decode cX7_lose 17 = .ok (.getfield 19, 3) := by decide +kernel
theorem dX7_lose_20 : decode cX7_lose 20 = .ok (.aload_n 0, 1) := by decide +kernel
theorem dX7_lose_21 : decode cX7_lose 21 = .ok (.getfield 12, 3) := by decide +kernel
theorem dX7_lose_24 : decode cX7_lose 24 = .ok (.invokevirtual 52, 3) := by decide +kernel
theorem dX7_lose_27 : decode cX7_lose 27 = .ok (.aload_n 0, 1) := by decide +kernel
theorem dX7_lose_28 : decode cX7_lose 28 = .ok (.getfield 12, 3) := by decide +kernel
theorem dX7_lose_31 : decode cX7_lose 31 = .ok (.getfield 74, 3) := by decide +kernel
theorem dX7_lose_34 : decode cX7_lose 34 = .ok (.getfield 129, 3) := by decide +kernel
theorem dX7_lose_37 : decode cX7_lose 37 = .ok (.iload_n 1, 1) := by decide +kernel
theorem dX7_lose_38 : decode cX7_lose 38 = .ok (.iaload, 1) := by decide +kernel
theorem dX7_lose_39 : decode cX7_lose 39 = .ok (.istore_n 2, 1) := by decide +kernel
theorem dX7_lose_40 : decode cX7_lose 40 = .ok (.aload_n 0, 1) := by decide +kernel
theorem dX7_lose_41 : decode cX7_lose 41 = .ok (.getfield 12, 3) := by decide +kernel
theorem dX7_lose_44 : decode cX7_lose 44 = .ok (.iload_n 1, 1) := by decide +kernel
theorem dX7_lose_45 : decode cX7_lose 45 = .ok (.invokevirtual 132, 3) := by decide +kernel
theorem dX7_lose_48 : decode cX7_lose 48 = .ok (.iload_n 2, 1) := by decide +kernel
theorem dX7_lose_49 : decode cX7_lose 49 = .ok (.ireturn, 1) := by decide +kernel
set_option maxRecDepth 20000 in
theorem ggX7_seed_X0_keep : GoodIn wsX7_seed wsX0_keep := goodIn_r _ [8, 9, 10, 11, 12, 13, 14, 15, 16, 17, 18, 19, 20, 21, 22, 23, 24, 25, 26, 27, 28, 29, 30, 31, 32, 33, 34, 35, 36, 37, 38, 39, 40, 41, 42, 43, 44, 45, 46, 47, 48, 49, 50, 51, 52, 53, 54, 55, 56, 57, 58, 59, 60, 61, 62, 63, 64, 65, 66, 67, 68, 69, 70, 71, 72, 73, 74, 75, 76, 77, 78, 79, 80, 81, 82, 83, 84, 85, 86, 87, 88, 89, 110, 111, 112, 96, 97, 98, 99, 100, 101, 102, 103, 104, 105, 106, 107, 108, 109, 113, 114, 115, 116, 117, 118, 119, 120] (by decide +kernel) (by decide +kernel)
set_option maxRecDepth 20000 in
theorem gX7_seed_X0_keep : GoodIn wsX7_seed (wsV RX7 52 RX0 yX0_keep wsX0_keep) := goodIn_app (goodIn_of _ (by decide +kernel)) ggX7_seed_X0_keep
theorem dX7_seed_0 : decode cX7_seed 0 = .ok (.iload_n 1, 1) := by decide +kernel
theorem dX7_seed_1 : decode cX7_seed 1 = .ok (.ifCond .ge 5, 3) := by decide +kernel
theorem dX7_seed_4 : decode cX7_seed 4 = .ok (.iconst (-1), 1) := by decide +kernel
theorem dX7_seed_5 : decode cX7_seed 5 = .ok (.ireturn, 1) := by decide +kernel
theorem dX7_seed_6 : decode cX7_seed 6 = .ok (.aload_n 0, 1) := by decide +kernel
theorem dX7_seed_7 : decode cX7_seed 7 = .ok (.getfield 19, 3) := by decide +kernel
theorem dX7_seed_10 : decode cX7_seed 10 = .ok (.aload_n 0, 1) := by decide +kernel
theorem dX7_seed_11 : decode cX7_seed 11 = .ok (.getfield 12, 3) := by decide +kernel
theorem dX7_seed_14 : decode cX7_seed 14 = .ok (.invokevirtual 52, 3) := by decide +kernel
theorem dX7_seed_17 : decode cX7_seed 17 = .ok (.aload_n 0, 1) := by decide +kernel
theorem dX7_seed_18 : decode cX7_seed 18 = .ok (.getfield 12, 3) := by decide +kernel
theorem dX7_seed_21 : decode cX7_seed 21 = .ok (.iload_n 1, 1) := by decide +kernel
theorem dX7_seed_22 : decode cX7_seed 22 = .ok (.putfield 135, 3) := by decide +kernel
theorem dX7_seed_25 : decode cX7_seed 25 = .ok (.iconst 1, 1) := by decide +kernel
theorem dX7_seed_26 : decode cX7_seed 26 = .ok (.ireturn, 1) := by decide +kernel
set_option maxRecDepth 20000 in
theorem ggX7_draw_X7_isKind : GoodIn wsX7_draw wsX7_isKind := goodIn_r _ [8] (by decide +kernel) (by decide +kernel)
set_option maxRecDepth 20000 in
theorem gX7_draw_X7_isKind : GoodIn wsX7_draw (va_wsS RX7 106 yX7_isKind wsX7_isKind) := goodIn_app (goodIn_of _ (by decide +kernel)) ggX7_draw_X7_isKind
set_option maxRecDepth 20000 in
theorem ggX7_draw_X2_listOf : GoodIn wsX7_draw wsX2_listOf := goodIn_r _ [13, 14, 15, 16, 17, 18, 19, 20, 21, 22, 23, 24, 25, 26, 27, 28, 29, 12, 30, 31, 32, 193, 194, 195, 196, 197, 198, 199, 200, 201, 202, 203, 204, 205, 206, 207, 208, 209] (by decide +kernel) (by decide +kernel)
set_option maxRecDepth 20000 in
theorem gX7_draw_X2_listOf : GoodIn wsX7_draw (wsV RX7 138 RX2 yX2_listOf wsX2_listOf) := goodIn_app (goodIn_of _ (by decide +kernel)) ggX7_draw_X2_listOf
set_option maxRecDepth 20000 in
theorem ggX7_draw_X0_keep : GoodIn wsX7_draw wsX0_keep := goodIn_r _ [37, 38, 39, 40, 41, 19, 42, 43, 44, 45, 46, 47, 48, 26, 49, 50, 51, 52, 53, 54, 55, 21, 56, 57, 58, 59, 60, 61, 62, 63, 64, 65, 66, 67, 68, 69, 70, 71, 72, 73, 74, 75, 76, 77, 78, 79, 80, 81, 82, 83, 84, 85, 86, 87, 88, 89, 90, 91, 92, 93, 94, 95, 96, 97, 98, 99, 100, 101, 102, 103, 104, 105, 106, 107, 108, 109, 110, 111, 112, 113, 114, 115, 210, 211, 212, 196, 197, 198, 199, 200, 201, 202, 203, 204, 205, 206, 207, 208, 209, 213, 214, 215, 216, 217, 218, 219, 220] (by decide +kernel) (by decide +kernel)
set_option maxRecDepth 20000 in
theorem gX7_draw_X0_keep : GoodIn wsX7_draw (wsV RX7 52 RX0 yX0_keep wsX0_keep) := goodIn_app (goodIn_of _ (by decide +kernel)) ggX7_draw_X0_keep
set_option maxRecDepth 20000 in
theorem ggX7_draw_X7_converseByTheSeed : GoodIn wsX7_draw wsX7_converseByTheSeed := goodIn_r _ [119, 1, 3, 2, 120, 121, 122, 123, 124, 19, 125, 49, 126, 127, 128, 129, 130, 131, 50, 59, 132, 133, 134, 135, 63, 136, 137, 64, 138, 139, 140, 62, 141, 81, 82, 142, 143, 144, 145, 146, 7, 147, 148, 149, 150, 151, 152, 153, 154, 155, 53, 156, 157, 158, 159, 54, 160, 161, 162, 55, 163, 164, 165, 58, 166, 73, 75, 167, 168, 169, 170, 74, 171, 172, 173, 174, 175, 176, 177, 178, 179, 180, 181, 182, 183, 184, 185, 186, 104, 97, 98, 99, 187, 188, 189, 190, 191, 192, 193, 194, 195, 196, 197, 198, 199, 200, 201, 202, 203, 204, 205, 206, 207, 208, 209, 216, 217, 213, 214, 215] (by decide +kernel) (by decide +kernel)
set_option maxRecDepth 20000 in
theorem gX7_draw_X7_converseByTheSeed : GoodIn wsX7_draw (wsV RX7 144 RX7 yX7_converseByTheSeed wsX7_converseByTheSeed) := goodIn_app (goodIn_of _ (by decide +kernel)) ggX7_draw_X7_converseByTheSeed
theorem dX7_draw_0 : decode cX7_draw 0 = .ok (.iload_n 1, 1) := by decide +kernel
theorem dX7_draw_1 : decode cX7_draw 1 = .ok (.invokestatic 106, 3) := by decide +kernel
theorem dX7_draw_4 : decode cX7_draw 4 = .ok (.ifCond .eq 14, 3) := by decide +kernel
theorem dX7_draw_7 : decode cX7_draw 7 = .ok (.iload_n 2, 1) := by decide +kernel
theorem dX7_draw_8 : decode cX7_draw 8 = .ok (.iconst 1, 1) := by decide +kernel
theorem dX7_draw_9 : decode cX7_draw 9 = .ok (.if_icmp .lt 9, 3) := by decide +kernel
theorem dX7_draw_12 : decode cX7_draw 12 = .ok (.iload_n 2, 1) := by decide +kernel
theorem dX7_draw_13 : decode cX7_draw 13 = .ok (.bipush 60, 2) := by decide +kernel
theorem dX7_draw_15 : decode cX7_draw 15 = .ok (.if_icmp .le 5, 3) := by decide +kernel
theorem dX7_draw_18 : decode cX7_draw 18 = .ok (.iconst (-1), 1) := by decide +kernel
theorem dX7_draw_19 : decode cX7_draw 19 = .ok (.ireturn, 1) := by decide +kernel
theorem dX7_draw_20 : decode cX7_draw 20 = .ok (.aload_n 0, 1) := by decide +kernel
theorem dX7_draw_21 : decode cX7_draw 21 = .ok (.getfield 26, 3) := by decide +kernel
theorem dX7_draw_24 : decode cX7_draw 24 = .ok (.aload_n 0, 1) := by decide +kernel
theorem dX7_draw_25 : decode cX7_draw 25 = .ok (.getfield 12, 3) := by decide +kernel
theorem dX7_draw_28 : decode cX7_draw 28 = .ok (.invokevirtual 138, 3) := by decide +kernel
theorem dX7_draw_31 : decode cX7_draw 31 = .ok (.aload_n 0, 1) := by decide +kernel
theorem dX7_draw_32 : decode cX7_draw 32 = .ok (.getfield 26, 3) := by decide +kernel
theorem dX7_draw_35 : decode cX7_draw 35 = .ok (.getfield 141, 3) := by decide +kernel
theorem dX7_draw_38 : decode cX7_draw 38 = .ok (.ifCond .gt 6, 3) := by decide +kernel
theorem dX7_draw_41 : decode cX7_draw 41 = .ok (.bipush (-2), 2) := by decide +kernel
theorem dX7_draw_43 : decode cX7_draw 43 = .ok (.ireturn, 1) := by decide +kernel
theorem dX7_draw_44 : decode cX7_draw 44 = .ok (.aload_n 0, 1) := by decide +kernel
theorem dX7_draw_45 : decode cX7_draw 45 = .ok (.getfield 19, 3) := by decide +kernel
theorem dX7_draw_48 : decode cX7_draw 48 = .ok (.aload_n 0, 1) := by decide +kernel
theorem dX7_draw_49 : decode cX7_draw 49 = .ok (.getfield 12, 3) := by decide +kernel
theorem dX7_draw_52 : decode cX7_draw 52 = .ok (.invokevirtual 52, 3) := by decide +kernel
theorem dX7_draw_55 : decode cX7_draw 55 = .ok (.iconst 0, 1) := by decide +kernel
theorem dX7_draw_56 : decode cX7_draw 56 = .ok (.istore_n 3, 1) := by decide +kernel
theorem dX7_draw_57 : decode cX7_draw 57 = .ok (.iload_n 3, 1) := by decide +kernel
theorem dX7_draw_58 : decode cX7_draw 58 = .ok (.iload_n 2, 1) := by decide +kernel
theorem dX7_draw_59 : decode cX7_draw 59 = .ok (.if_icmp .ge 14, 3) := by decide +kernel
theorem dX7_draw_62 : decode cX7_draw 62 = .ok (.aload_n 0, 1) := by decide +kernel
theorem dX7_draw_63 : decode cX7_draw 63 = .ok (.iload_n 1, 1) := by decide +kernel
theorem dX7_draw_64 : decode cX7_draw 64 = .ok (.invokevirtual 144, 3) := by decide +kernel
theorem dX7_draw_67 : decode cX7_draw 67 = .ok (.iinc 3 1, 3) := by decide +kernel
theorem dX7_draw_70 : decode cX7_draw 70 = .ok (.goto (-13), 3) := by decide +kernel
theorem dX7_draw_73 : decode cX7_draw 73 = .ok (.iconst 1, 1) := by decide +kernel
theorem dX7_draw_74 : decode cX7_draw 74 = .ok (.ireturn, 1) := by decide +kernel
set_option maxRecDepth 20000 in
theorem ggX7_round_X7_isKind : GoodIn wsX7_round wsX7_isKind := goodIn_r _ [8] (by decide +kernel) (by decide +kernel)
set_option maxRecDepth 20000 in
theorem gX7_round_X7_isKind : GoodIn wsX7_round (va_wsS RX7 106 yX7_isKind wsX7_isKind) := goodIn_app (goodIn_of _ (by decide +kernel)) ggX7_round_X7_isKind
set_option maxRecDepth 20000 in
theorem ggX7_round_X2_listOf : GoodIn wsX7_round wsX2_listOf := goodIn_r _ [13, 14, 15, 16, 17, 18, 19, 20, 21, 22, 23, 24, 25, 26, 27, 28, 29, 12, 30, 31, 32, 187, 188, 189, 190, 191, 192, 193, 194, 195, 196, 197, 198, 199, 200, 201, 202, 203] (by decide +kernel) (by decide +kernel)
set_option maxRecDepth 20000 in
theorem gX7_round_X2_listOf : GoodIn wsX7_round (wsV RX7 138 RX2 yX2_listOf wsX2_listOf) := goodIn_app (goodIn_of _ (by decide +kernel)) ggX7_round_X2_listOf
set_option maxRecDepth 20000 in
theorem ggX7_round_X0_keep : GoodIn wsX7_round wsX0_keep := goodIn_r _ [37, 38, 39, 40, 41, 19, 42, 43, 44, 45, 46, 47, 48, 26, 49, 50, 51, 52, 53, 54, 55, 21, 56, 57, 58, 59, 60, 61, 62, 63, 64, 65, 66, 67, 68, 69, 70, 71, 72, 73, 74, 75, 76, 77, 78, 79, 80, 81, 82, 83, 84, 85, 86, 87, 88, 89, 90, 91, 92, 93, 94, 95, 96, 97, 98, 99, 100, 101, 102, 103, 104, 105, 106, 107, 108, 109, 110, 111, 112, 113, 114, 115, 204, 205, 206, 190, 191, 192, 193, 194, 195, 196, 197, 198, 199, 200, 201, 202, 203, 207, 208, 209, 210, 211, 212, 213, 214] (by decide +kernel) (by decide +kernel)
set_option maxRecDepth 20000 in
theorem gX7_round_X0_keep : GoodIn wsX7_round (wsV RX7 52 RX0 yX0_keep wsX0_keep) := goodIn_app (goodIn_of _ (by decide +kernel)) ggX7_round_X0_keep
set_option maxRecDepth 20000 in
theorem ggX7_round_X7_converseOverAll : GoodIn wsX7_round wsX7_converseOverAll := goodIn_r _ [119, 1, 3, 2, 120, 121, 122, 123, 124, 19, 125, 50, 59, 126, 127, 128, 129, 63, 130, 131, 64, 132, 133, 134, 62, 135, 81, 82, 136, 137, 138, 139, 140, 7, 141, 142, 143, 144, 145, 146, 147, 148, 149, 53, 150, 151, 152, 153, 54, 154, 155, 156, 55, 157, 158, 159, 58, 160, 73, 75, 161, 162, 163, 164, 74, 165, 166, 167, 168, 169, 170, 171, 172, 173, 174, 175, 176, 177, 178, 179, 180, 104, 97, 98, 99, 181, 182, 183, 184, 185, 186, 187, 188, 189, 190, 191, 192, 193, 194, 195, 196, 197, 198, 199, 200, 201, 202, 203, 210, 211, 207, 208, 209] (by decide +kernel) (by decide +kernel)
set_option maxRecDepth 20000 in
theorem gX7_round_X7_converseOverAll : GoodIn wsX7_round (wsV RX7 147 RX7 yX7_converseOverAll wsX7_converseOverAll) := goodIn_app (goodIn_of _ (by decide +kernel)) ggX7_round_X7_converseOverAll
theorem dX7_round_0 : decode cX7_round 0 = .ok (.iload_n 1, 1) := by decide +kernel
theorem dX7_round_1 : decode cX7_round 1 = .ok (.invokestatic 106, 3) := by decide +kernel
theorem dX7_round_4 : decode cX7_round 4 = .ok (.ifCond .eq 14, 3) := by decide +kernel
theorem dX7_round_7 : decode cX7_round 7 = .ok (.iload_n 2, 1) := by decide +kernel
theorem dX7_round_8 : decode cX7_round 8 = .ok (.iconst 1, 1) := by decide +kernel
theorem dX7_round_9 : decode cX7_round 9 = .ok (.if_icmp .lt 9, 3) := by decide +kernel
theorem dX7_round_12 : decode cX7_round 12 = .ok (.iload_n 2, 1) := by decide +kernel
theorem dX7_round_13 : decode cX7_round 13 = .ok (.bipush 20, 2) := by decide +kernel
theorem dX7_round_15 : decode cX7_round 15 = .ok (.if_icmp .le 5, 3) := by decide +kernel
theorem dX7_round_18 : decode cX7_round 18 = .ok (.iconst (-1), 1) := by decide +kernel
theorem dX7_round_19 : decode cX7_round 19 = .ok (.ireturn, 1) := by decide +kernel
theorem dX7_round_20 : decode cX7_round 20 = .ok (.aload_n 0, 1) := by decide +kernel
theorem dX7_round_21 : decode cX7_round 21 = .ok (.getfield 26, 3) := by decide +kernel
theorem dX7_round_24 : decode cX7_round 24 = .ok (.aload_n 0, 1) := by decide +kernel
theorem dX7_round_25 : decode cX7_round 25 = .ok (.getfield 12, 3) := by decide +kernel
theorem dX7_round_28 : decode cX7_round 28 = .ok (.invokevirtual 138, 3) := by decide +kernel
theorem dX7_round_31 : decode cX7_round 31 = .ok (.aload_n 0, 1) := by decide +kernel
theorem dX7_round_32 : decode cX7_round 32 = .ok (.getfield 26, 3) := by decide +kernel
theorem dX7_round_35 : decode cX7_round 35 = .ok (.getfield 141, 3) := by decide +kernel
theorem dX7_round_38 : decode cX7_round 38 = .ok (.ifCond .gt 6, 3) := by decide +kernel
theorem dX7_round_41 : decode cX7_round 41 = .ok (.bipush (-2), 2) := by decide +kernel
theorem dX7_round_43 : decode cX7_round 43 = .ok (.ireturn, 1) := by decide +kernel
theorem dX7_round_44 : decode cX7_round 44 = .ok (.aload_n 0, 1) := by decide +kernel
theorem dX7_round_45 : decode cX7_round 45 = .ok (.getfield 19, 3) := by decide +kernel
theorem dX7_round_48 : decode cX7_round 48 = .ok (.aload_n 0, 1) := by decide +kernel
theorem dX7_round_49 : decode cX7_round 49 = .ok (.getfield 12, 3) := by decide +kernel
theorem dX7_round_52 : decode cX7_round 52 = .ok (.invokevirtual 52, 3) := by decide +kernel
theorem dX7_round_55 : decode cX7_round 55 = .ok (.iconst 0, 1) := by decide +kernel
theorem dX7_round_56 : decode cX7_round 56 = .ok (.istore_n 3, 1) := by decide +kernel
theorem dX7_round_57 : decode cX7_round 57 = .ok (.iload_n 3, 1) := by decide +kernel
theorem dX7_round_58 : decode cX7_round 58 = .ok (.iload_n 2, 1) := by decide +kernel
theorem dX7_round_59 : decode cX7_round 59 = .ok (.if_icmp .ge 14, 3) := by decide +kernel
theorem dX7_round_62 : decode cX7_round 62 = .ok (.aload_n 0, 1) := by decide +kernel
theorem dX7_round_63 : decode cX7_round 63 = .ok (.iload_n 1, 1) := by decide +kernel
theorem dX7_round_64 : decode cX7_round 64 = .ok (.invokevirtual 147, 3) := by decide +kernel
theorem dX7_round_67 : decode cX7_round 67 = .ok (.iinc 3 1, 3) := by decide +kernel
theorem dX7_round_70 : decode cX7_round 70 = .ok (.goto (-13), 3) := by decide +kernel
theorem dX7_round_73 : decode cX7_round 73 = .ok (.iconst 1, 1) := by decide +kernel
theorem dX7_round_74 : decode cX7_round 74 = .ok (.ireturn, 1) := by decide +kernel
set_option maxRecDepth 20000 in
theorem ggX7_fresh_X0_keep : GoodIn wsX7_fresh wsX0_keep := goodIn_r _ [9, 10, 11, 12, 13, 14, 15, 16, 17, 18, 19, 20, 21, 22, 23, 24, 25, 26, 27, 28, 29, 30, 31, 32, 33, 34, 35, 36, 37, 38, 39, 40, 41, 42, 43, 44, 45, 46, 47, 48, 49, 50, 51, 52, 53, 54, 55, 56, 57, 58, 59, 60, 61, 62, 63, 64, 65, 66, 67, 68, 69, 70, 71, 72, 73, 74, 75, 76, 77, 78, 79, 80, 81, 82, 83, 84, 85, 86, 87, 88, 89, 90, 148, 149, 150, 134, 135, 136, 137, 138, 139, 140, 141, 142, 143, 144, 145, 146, 147, 151, 152, 153, 154, 155, 156, 157, 158] (by decide +kernel) (by decide +kernel)
set_option maxRecDepth 20000 in
theorem gX7_fresh_X0_keep : GoodIn wsX7_fresh (wsV RX7 52 RX0 yX0_keep wsX0_keep) := goodIn_app (goodIn_of _ (by decide +kernel)) ggX7_fresh_X0_keep
set_option maxRecDepth 20000 in
theorem ggX7_fresh_X5_isHere : GoodIn wsX7_fresh wsX5_isHere := goodIn_r _ [94, 22, 134, 135, 136, 137, 138, 139, 140, 141, 142, 143, 144, 145, 146, 147] (by decide +kernel) (by decide +kernel)
set_option maxRecDepth 20000 in
theorem gX7_fresh_X5_isHere : GoodIn wsX7_fresh (wsV RX7 95 RX5 yX5_isHere wsX5_isHere) := goodIn_app (goodIn_of _ (by decide +kernel)) ggX7_fresh_X5_isHere
set_option maxRecDepth 20000 in
theorem ggX7_fresh_X5_knowItselfAlone : GoodIn wsX7_fresh wsX5_knowItselfAlone := goodIn_r _ [98, 27, 26, 28, 29, 134, 135, 136, 137, 138, 139, 140, 141, 142, 143, 144, 145, 146, 147] (by decide +kernel) (by decide +kernel)
set_option maxRecDepth 20000 in
theorem gX7_fresh_X5_knowItselfAlone : GoodIn wsX7_fresh (wsV RX7 150 RX5 yX5_knowItselfAlone wsX5_knowItselfAlone) := goodIn_app (goodIn_of _ (by decide +kernel)) ggX7_fresh_X5_knowItselfAlone
set_option maxRecDepth 20000 in
theorem ggX7_fresh_X5_nextDrawn : GoodIn wsX7_fresh wsX5_nextDrawn := goodIn_r _ [102, 23, 103, 104, 134, 135, 136, 137, 138, 139, 140, 141, 142, 143, 144, 145, 146, 147] (by decide +kernel) (by decide +kernel)
set_option maxRecDepth 20000 in
theorem gX7_fresh_X5_nextDrawn : GoodIn wsX7_fresh (wsV RX7 157 RX5 yX5_nextDrawn wsX5_nextDrawn) := goodIn_app (goodIn_of _ (by decide +kernel)) ggX7_fresh_X5_nextDrawn
set_option maxRecDepth 20000 in
theorem ggX7_fresh_X6_knowAlone : GoodIn wsX7_fresh wsX6_knowAlone := goodIn_r _ [108, 48, 109, 110, 111, 33, 112, 49, 50, 113, 114, 115, 116, 151, 152, 153] (by decide +kernel) (by decide +kernel)
set_option maxRecDepth 20000 in
theorem gX7_fresh_X6_knowAlone : GoodIn wsX7_fresh (wsV RX7 160 RX6 yX6_knowAlone wsX6_knowAlone) := goodIn_app (goodIn_of _ (by decide +kernel)) ggX7_fresh_X6_knowAlone
set_option maxRecDepth 20000 in
theorem ggX7_fresh_X5_hereCount : GoodIn wsX7_fresh wsX5_hereCount := goodIn_r _ [120, 22, 121, 122, 123, 124, 125, 126, 127, 134, 135, 136, 137, 138, 139, 140, 141, 142, 143, 144, 145, 146, 147] (by decide +kernel) (by decide +kernel)
set_option maxRecDepth 20000 in
theorem gX7_fresh_X5_hereCount : GoodIn wsX7_fresh (wsV RX7 165 RX5 yX5_hereCount wsX5_hereCount) := goodIn_app (goodIn_of _ (by decide +kernel)) ggX7_fresh_X5_hereCount
theorem dX7_fresh_0 : decode cX7_fresh 0 = .ok (.aload_n 0, 1) := by decide +kernel
theorem dX7_fresh_1 : decode cX7_fresh 1 = .ok (.getfield 19, 3) := by decide +kernel
theorem dX7_fresh_4 : decode cX7_fresh 4 = .ok (.aload_n 0, 1) := by decide +kernel
theorem dX7_fresh_5 : decode cX7_fresh 5 = .ok (.getfield 12, 3) := by decide +kernel
theorem dX7_fresh_8 : decode cX7_fresh 8 = .ok (.invokevirtual 52, 3) := by decide +kernel
theorem dX7_fresh_11 : decode cX7_fresh 11 = .ok (.iconst 0, 1) := by decide +kernel
theorem dX7_fresh_12 : decode cX7_fresh 12 = .ok (.istore_n 1, 1) := by decide +kernel
theorem dX7_fresh_13 : decode cX7_fresh 13 = .ok (.iload_n 1, 1) := by decide +kernel
theorem dX7_fresh_14 : decode cX7_fresh 14 = .ok (.aload_n 0, 1) := by decide +kernel
theorem dX7_fresh_15 : decode cX7_fresh 15 = .ok (.getfield 12, 3) := by decide +kernel
theorem dX7_fresh_18 : decode cX7_fresh 18 = .ok (.getfield 49, 3) := by decide +kernel
theorem dX7_fresh_21 : decode cX7_fresh 21 = .ok (.if_icmp .ge 46, 3) := by decide +kernel
theorem dX7_fresh_24 : decode cX7_fresh 24 = .ok (.aload_n 0, 1) := by decide +kernel
theorem dX7_fresh_25 : decode cX7_fresh 25 = .ok (.getfield 12, 3) := by decide +kernel
theorem dX7_fresh_28 : decode cX7_fresh 28 = .ok (.iload_n 1, 1) := by decide +kernel
theorem dX7_fresh_29 : decode cX7_fresh 29 = .ok (.invokevirtual 95, 3) := by decide +kernel
theorem dX7_fresh_32 : decode cX7_fresh 32 = .ok (.ifCond .eq 29, 3) := by decide +kernel
theorem dX7_fresh_35 : decode cX7_fresh 35 = .ok (.aload_n 0, 1) := by decide +kernel
theorem dX7_fresh_36 : decode cX7_fresh 36 = .ok (.getfield 12, 3) := by decide +kernel
theorem dX7_fresh_39 : decode cX7_fresh 39 = .ok (.iload_n 1, 1) := by decide +kernel
theorem dX7_fresh_40 : decode cX7_fresh 40 = .ok (.invokevirtual 150, 3) := by decide +kernel
theorem dX7_fresh_43 : decode cX7_fresh 43 = .ok (.aload_n 0, 1) := by decide +kernel
theorem dX7_fresh_44 : decode cX7_fresh 44 = .ok (.getfield 12, 3) := by decide +kernel
theorem dX7_fresh_47 : decode cX7_fresh 47 = .ok (.getfield 153, 3) := by decide +kernel
theorem dX7_fresh_50 : decode cX7_fresh 50 = .ok (.iload_n 1, 1) := by decide +kernel
theorem dX7_fresh_51 : decode cX7_fresh 51 = .ok (.aload_n 0, 1) := by decide +kernel
theorem dX7_fresh_52 : decode cX7_fresh 52 = .ok (.getfield 12, 3) := by decide +kernel
theorem dX7_fresh_55 : decode cX7_fresh 55 = .ok (.invokevirtual 157, 3) := by decide +kernel
theorem dX7_fresh_58 : decode cX7_fresh 58 = .ok (.invokevirtual 160, 3) := by decide +kernel
theorem dX7_fresh_61 : decode cX7_fresh 61 = .ok (.iinc 1 1, 3) := by decide +kernel
theorem dX7_fresh_64 : decode cX7_fresh 64 = .ok (.goto (-51), 3) := by decide +kernel
theorem dX7_fresh_67 : decode cX7_fresh 67 = .ok (.aload_n 0, 1) := by decide +kernel
theorem dX7_fresh_68 : decode cX7_fresh 68 = .ok (.getfield 12, 3) := by decide +kernel
theorem dX7_fresh_71 : decode cX7_fresh 71 = .ok (.invokevirtual 165, 3) := by decide +kernel
theorem dX7_fresh_74 : decode cX7_fresh 74 = .ok (.ireturn, 1) := by decide +kernel
set_option maxRecDepth 20000 in
theorem ggX7_undo_X0_restore : GoodIn wsX7_undo wsX0_restore := goodIn_r _ [8, 9, 10, 11, 12, 13, 14, 15, 16, 17, 18, 19, 20, 21, 22, 23, 24, 25, 26, 27, 28, 29, 30, 31, 32, 33, 34, 35, 36, 37, 38, 39, 40, 41, 42, 43, 44, 45, 46, 47, 48, 49, 50, 51, 52, 53, 54, 55, 56, 57, 58, 59, 60, 61, 68, 69, 70, 71, 72, 73, 74, 75, 76, 77, 78, 79, 80, 81, 82, 83, 84, 85, 86, 87, 88, 89, 90, 91, 92] (by decide +kernel) (by decide +kernel)
set_option maxRecDepth 20000 in
theorem gX7_undo_X0_restore : GoodIn wsX7_undo (wsV RX7 168 RX0 yX0_restore wsX0_restore) := goodIn_app (goodIn_of _ (by decide +kernel)) ggX7_undo_X0_restore
theorem dX7_undo_0 : decode cX7_undo 0 = .ok (.aload_n 0, 1) := by decide +kernel
theorem dX7_undo_1 : decode cX7_undo 1 = .ok (.getfield 19, 3) := by decide +kernel
theorem dX7_undo_4 : decode cX7_undo 4 = .ok (.aload_n 0, 1) := by decide +kernel
theorem dX7_undo_5 : decode cX7_undo 5 = .ok (.getfield 12, 3) := by decide +kernel
theorem dX7_undo_8 : decode cX7_undo 8 = .ok (.invokevirtual 168, 3) := by decide +kernel
theorem dX7_undo_11 : decode cX7_undo 11 = .ok (.ifCond .eq 13, 3) := by decide +kernel
theorem dX7_undo_14 : decode cX7_undo 14 = .ok (.aload_n 0, 1) := by decide +kernel
theorem dX7_undo_15 : decode cX7_undo 15 = .ok (.getfield 19, 3) := by decide +kernel
theorem dX7_undo_18 : decode cX7_undo 18 = .ok (.getfield 172, 3) := by decide +kernel
theorem dX7_undo_21 : decode cX7_undo 21 = .ok (.goto 5, 3) := by decide +kernel
theorem dX7_undo_24 : decode cX7_undo 24 = .ok (.bipush (-2), 2) := by decide +kernel
theorem dX7_undo_26 : decode cX7_undo 26 = .ok (.ireturn, 1) := by decide +kernel
set_option maxRecDepth 20000 in
theorem ggX7_about_X7_isMember : GoodIn wsX7_about wsX7_isMember := goodIn_r _ [12, 1, 13, 20, 21, 22, 23, 24, 25, 26, 27, 28, 29, 30, 31, 32, 33, 34, 35, 36, 37, 38, 39] (by decide +kernel) (by decide +kernel)
set_option maxRecDepth 20000 in
theorem gX7_about_X7_isMember : GoodIn wsX7_about (wsV RX7 92 RX7 yX7_isMember wsX7_isMember) := goodIn_app (goodIn_of _ (by decide +kernel)) ggX7_about_X7_isMember
set_option maxRecDepth 20000 in
theorem ggX7_about_X5_isHere : GoodIn wsX7_about wsX5_isHere := goodIn_r _ [18, 19, 26, 27, 28, 29, 30, 31, 32, 33, 34, 35, 36, 37, 38, 39] (by decide +kernel) (by decide +kernel)
set_option maxRecDepth 20000 in
theorem gX7_about_X5_isHere : GoodIn wsX7_about (wsV RX7 95 RX5 yX5_isHere wsX5_isHere) := goodIn_app (goodIn_of _ (by decide +kernel)) ggX7_about_X5_isHere
theorem dX7_about_0 : decode cX7_about 0 = .ok (.aload_n 0, 1) := by decide +kernel
theorem dX7_about_1 : decode cX7_about 1 = .ok (.iload_n 1, 1) := by decide +kernel
theorem dX7_about_2 : decode cX7_about 2 = .ok (.invokevirtual 92, 3) := by decide +kernel
theorem dX7_about_5 : decode cX7_about 5 = .ok (.ifCond .eq 12, 3) := by decide +kernel
theorem dX7_about_8 : decode cX7_about 8 = .ok (.iload_n 2, 1) := by decide +kernel
theorem dX7_about_9 : decode cX7_about 9 = .ok (.ifCond .lt 8, 3) := by decide +kernel
theorem dX7_about_12 : decode cX7_about 12 = .ok (.iload_n 2, 1) := by decide +kernel
theorem dX7_about_13 : decode cX7_about 13 = .ok (.iconst 5, 1) := by decide +kernel
theorem dX7_about_14 : decode cX7_about 14 = .ok (.if_icmp .le 5, 3) := by decide +kernel
theorem dX7_about_17 : decode cX7_about 17 = .ok (.iconst (-1), 1) := by decide +kernel
theorem dX7_about_18 : decode cX7_about 18 = .ok (.ireturn, 1) := by decide +kernel
theorem dX7_about_19 : decode cX7_about 19 = .ok (.iload_n 2, 1) := by decide +kernel
theorem dX7_about_20 : decode cX7_about 20 = .ok (.ifCond .ne 20, 3) := by decide +kernel
theorem dX7_about_23 : decode cX7_about 23 = .ok (.aload_n 0, 1) := by decide +kernel
theorem dX7_about_24 : decode cX7_about 24 = .ok (.getfield 12, 3) := by decide +kernel
theorem dX7_about_27 : decode cX7_about 27 = .ok (.iload_n 1, 1) := by decide +kernel
theorem dX7_about_28 : decode cX7_about 28 = .ok (.invokevirtual 95, 3) := by decide +kernel
theorem dX7_about_31 : decode cX7_about 31 = .ok (.ifCond .eq 7, 3) := by decide +kernel
theorem dX7_about_34 : decode cX7_about 34 = .ok (.iconst 1, 1) := by decide +kernel
theorem dX7_about_35 : decode cX7_about 35 = .ok (.goto 4, 3) := by decide +kernel
theorem dX7_about_38 : decode cX7_about 38 = .ok (.iconst 0, 1) := by decide +kernel
theorem dX7_about_39 : decode cX7_about 39 = .ok (.ireturn, 1) := by decide +kernel
theorem dX7_about_40 : decode cX7_about 40 = .ok (.aload_n 0, 1) := by decide +kernel
theorem dX7_about_41 : decode cX7_about 41 = .ok (.getfield 12, 3) := by decide +kernel
theorem dX7_about_44 : decode cX7_about 44 = .ok (.iload_n 1, 1) := by decide +kernel
theorem dX7_about_45 : decode cX7_about 45 = .ok (.invokevirtual 95, 3) := by decide +kernel
theorem dX7_about_48 : decode cX7_about 48 = .ok (.ifCond .ne 6, 3) := by decide +kernel
theorem dX7_about_51 : decode cX7_about 51 = .ok (.bipush (-2), 2) := by decide +kernel
theorem dX7_about_53 : decode cX7_about 53 = .ok (.ireturn, 1) := by decide +kernel
theorem dX7_about_54 : decode cX7_about 54 = .ok (.iload_n 2, 1) := by decide +kernel
theorem dX7_about_55 : decode cX7_about 55 = .ok (.tableswitch 69 1 4 #[29, 39, 49, 59], 29) := by decide +kernel
theorem dX7_about_84 : decode cX7_about 84 = .ok (.aload_n 0, 1) := by decide +kernel
theorem dX7_about_85 : decode cX7_about 85 = .ok (.getfield 12, 3) := by decide +kernel
theorem dX7_about_88 : decode cX7_about 88 = .ok (.getfield 173, 3) := by decide +kernel
theorem dX7_about_91 : decode cX7_about 91 = .ok (.iload_n 1, 1) := by decide +kernel
theorem dX7_about_92 : decode cX7_about 92 = .ok (.iaload, 1) := by decide +kernel
theorem dX7_about_93 : decode cX7_about 93 = .ok (.ireturn, 1) := by decide +kernel
theorem dX7_about_94 : decode cX7_about 94 = .ok (.aload_n 0, 1) := by decide +kernel
theorem dX7_about_95 : decode cX7_about 95 = .ok (.getfield 12, 3) := by decide +kernel
theorem dX7_about_98 : decode cX7_about 98 = .ok (.getfield 176, 3) := by decide +kernel
theorem dX7_about_101 : decode cX7_about 101 = .ok (.iload_n 1, 1) := by decide +kernel
theorem dX7_about_102 : decode cX7_about 102 = .ok (.iaload, 1) := by decide +kernel
theorem dX7_about_103 : decode cX7_about 103 = .ok (.ireturn, 1) := by decide +kernel
theorem dX7_about_104 : decode cX7_about 104 = .ok (.aload_n 0, 1) := by decide +kernel
theorem dX7_about_105 : decode cX7_about 105 = .ok (.getfield 12, 3) := by decide +kernel
theorem dX7_about_108 : decode cX7_about 108 = .ok (.getfield 179, 3) := by decide +kernel
theorem dX7_about_111 : decode cX7_about 111 = .ok (.iload_n 1, 1) := by decide +kernel
theorem dX7_about_112 : decode cX7_about 112 = .ok (.iaload, 1) := by decide +kernel
theorem dX7_about_113 : decode cX7_about 113 = .ok (.ireturn, 1) := by decide +kernel
theorem dX7_about_114 : decode cX7_about 114 = .ok (.aload_n 0, 1) := by decide +kernel
theorem dX7_about_115 : decode cX7_about 115 = .ok (.getfield 12, 3) := by decide +kernel
theorem dX7_about_118 : decode cX7_about 118 = .ok (.getfield 182, 3) := by decide +kernel
theorem dX7_about_121 : decode cX7_about 121 = .ok (.iload_n 1, 1) := by decide +kernel
theorem dX7_about_122 : decode cX7_about 122 = .ok (.iaload, 1) := by decide +kernel
theorem dX7_about_123 : decode cX7_about 123 = .ok (.ireturn, 1) := by decide +kernel
theorem dX7_about_124 : decode cX7_about 124 = .ok (.aload_n 0, 1) := by decide +kernel
theorem dX7_about_125 : decode cX7_about 125 = .ok (.getfield 12, 3) := by decide +kernel
theorem dX7_about_128 : decode cX7_about 128 = .ok (.getfield 153, 3) := by decide +kernel
theorem dX7_about_131 : decode cX7_about 131 = .ok (.getfield 185, 3) := by decide +kernel
theorem dX7_about_134 : decode cX7_about 134 = .ok (.iload_n 1, 1) := by decide +kernel
theorem dX7_about_135 : decode cX7_about 135 = .ok (.iaload, 1) := by decide +kernel
theorem dX7_about_136 : decode cX7_about 136 = .ok (.ireturn, 1) := by decide +kernel
set_option maxRecDepth 20000 in
theorem ggX7_mass_X7_isHere : GoodIn wsX7_mass wsX7_isHere := goodIn_r _ [7, 1, 8, 9, 10, 6, 11, 12, 13, 14, 15, 16, 17, 18, 26, 27, 28, 29, 30, 31, 32, 33, 34, 35, 36, 37, 38, 39, 40, 41, 42, 43, 44, 45] (by decide +kernel) (by decide +kernel)
set_option maxRecDepth 20000 in
theorem gX7_mass_X7_isHere : GoodIn wsX7_mass (wsV RX7 86 RX7 yX7_isHere wsX7_isHere) := goodIn_app (goodIn_of _ (by decide +kernel)) ggX7_mass_X7_isHere
set_option maxRecDepth 20000 in
theorem ggX7_mass_X3_at : GoodIn wsX7_mass wsX3_at := goodIn_r _ [23, 24, 25, 46, 47] (by decide +kernel) (by decide +kernel)
set_option maxRecDepth 20000 in
theorem gX7_mass_X3_at : GoodIn wsX7_mass (wsV RX7 192 RX3 yX3_at wsX3_at) := goodIn_app (goodIn_of _ (by decide +kernel)) ggX7_mass_X3_at
theorem dX7_mass_0 : decode cX7_mass 0 = .ok (.aload_n 0, 1) := by decide +kernel
theorem dX7_mass_1 : decode cX7_mass 1 = .ok (.iload_n 1, 1) := by decide +kernel
theorem dX7_mass_2 : decode cX7_mass 2 = .ok (.invokevirtual 86, 3) := by decide +kernel
theorem dX7_mass_5 : decode cX7_mass 5 = .ok (.ifCond .eq 18, 3) := by decide +kernel
theorem dX7_mass_8 : decode cX7_mass 8 = .ok (.aload_n 0, 1) := by decide +kernel
theorem dX7_mass_9 : decode cX7_mass 9 = .ok (.getfield 12, 3) := by decide +kernel
theorem dX7_mass_12 : decode cX7_mass 12 = .ok (.getfield 188, 3) := by decide +kernel
theorem dX7_mass_15 : decode cX7_mass 15 = .ok (.iload_n 1, 1) := by decide +kernel
theorem dX7_mass_16 : decode cX7_mass 16 = .ok (.iload_n 2, 1) := by decide +kernel
theorem dX7_mass_17 : decode cX7_mass 17 = .ok (.invokevirtual 192, 3) := by decide +kernel
theorem dX7_mass_20 : decode cX7_mass 20 = .ok (.goto 4, 3) := by decide +kernel
theorem dX7_mass_23 : decode cX7_mass 23 = .ok (.lconst 0, 1) := by decide +kernel
theorem dX7_mass_24 : decode cX7_mass 24 = .ok (.lreturn, 1) := by decide +kernel
set_option maxRecDepth 20000 in
theorem ggX7_guess_X7_hasGuess : GoodIn wsX7_guess wsX7_hasGuess := goodIn_r _ [6, 7, 8, 9, 10, 11, 5, 12, 13, 14, 15, 16, 17, 18, 19, 20, 21, 22, 23, 24, 25, 26, 27, 28, 29, 30, 42, 43, 44, 45, 46, 47, 48, 49, 50, 51, 52, 53, 54, 55, 56, 57, 58, 59, 60, 61, 62, 63] (by decide +kernel) (by decide +kernel)
set_option maxRecDepth 20000 in
theorem gX7_guess_X7_hasGuess : GoodIn wsX7_guess (wsV RX7 198 RX7 yX7_hasGuess wsX7_hasGuess) := goodIn_app (goodIn_of _ (by decide +kernel)) ggX7_guess_X7_hasGuess
set_option maxRecDepth 20000 in
theorem ggX7_guess_X7_guessOf : GoodIn wsX7_guess wsX7_guessOf := goodIn_r _ [34, 7, 8, 24, 25, 26, 27, 28, 29, 30, 42, 43, 44, 45, 46, 47, 48, 49, 50, 51, 52, 53, 54, 55, 56, 57, 58, 59, 60, 61, 62, 63] (by decide +kernel) (by decide +kernel)
set_option maxRecDepth 20000 in
theorem gX7_guess_X7_guessOf : GoodIn wsX7_guess (wsV RX7 201 RX7 yX7_guessOf wsX7_guessOf) := goodIn_app (goodIn_of _ (by decide +kernel)) ggX7_guess_X7_guessOf
set_option maxRecDepth 20000 in
theorem ggX7_guess_X7_bitsOf : GoodIn wsX7_guess wsX7_bitsOf := goodIn_r _ [37, 38, 39, 40, 41] (by decide +kernel) (by decide +kernel)
set_option maxRecDepth 20000 in
theorem gX7_guess_X7_bitsOf : GoodIn wsX7_guess (va_wsS RX7 205 yX7_bitsOf wsX7_bitsOf) := goodIn_app (goodIn_of _ (by decide +kernel)) ggX7_guess_X7_bitsOf
theorem dX7_guess_0 : decode cX7_guess 0 = .ok (.aload_n 0, 1) := by decide +kernel
theorem dX7_guess_1 : decode cX7_guess 1 = .ok (.iload_n 1, 1) := by decide +kernel
theorem dX7_guess_2 : decode cX7_guess 2 = .ok (.invokevirtual 198, 3) := by decide +kernel
theorem dX7_guess_5 : decode cX7_guess 5 = .ok (.ifCond .eq 14, 3) := by decide +kernel
theorem dX7_guess_8 : decode cX7_guess 8 = .ok (.aload_n 0, 1) := by decide +kernel
theorem dX7_guess_9 : decode cX7_guess 9 = .ok (.iload_n 1, 1) := by decide +kernel
theorem dX7_guess_10 : decode cX7_guess 10 = .ok (.invokevirtual 201, 3) := by decide +kernel
theorem dX7_guess_13 : decode cX7_guess 13 = .ok (.invokestatic 205, 3) := by decide +kernel
theorem dX7_guess_16 : decode cX7_guess 16 = .ok (.goto 6, 3) := by decide +kernel
theorem dX7_guess_19 : decode cX7_guess 19 = .ok (.ldc2_w 209, 3) := by decide +kernel
theorem dX7_guess_22 : decode cX7_guess 22 = .ok (.lreturn, 1) := by decide +kernel
set_option maxRecDepth 20000 in
theorem ggX7_book_X7_isMember : GoodIn wsX7_book wsX7_isMember := goodIn_r _ [7, 1, 8, 19, 20, 21, 22, 23, 24, 25, 26, 27, 28, 29, 30, 31, 32, 33, 34, 35, 36, 37, 38] (by decide +kernel) (by decide +kernel)
set_option maxRecDepth 20000 in
theorem gX7_book_X7_isMember : GoodIn wsX7_book (wsV RX7 92 RX7 yX7_isMember wsX7_isMember) := goodIn_app (goodIn_of _ (by decide +kernel)) ggX7_book_X7_isMember
set_option maxRecDepth 20000 in
theorem ggX7_book_X7_pair : GoodIn wsX7_book wsX7_pair := goodIn_r _ [11] (by decide +kernel) (by decide +kernel)
set_option maxRecDepth 20000 in
theorem gX7_book_X7_pair : GoodIn wsX7_book (va_wsS RX7 214 yX7_pair wsX7_pair) := goodIn_app (goodIn_of _ (by decide +kernel)) ggX7_book_X7_pair
set_option maxRecDepth 20000 in
theorem ggX7_book_X3_at : GoodIn wsX7_book wsX3_at := goodIn_r _ [16, 17, 18, 39, 40] (by decide +kernel) (by decide +kernel)
set_option maxRecDepth 20000 in
theorem gX7_book_X3_at : GoodIn wsX7_book (wsV RX7 192 RX3 yX3_at wsX3_at) := goodIn_app (goodIn_of _ (by decide +kernel)) ggX7_book_X3_at
theorem dX7_book_0 : decode cX7_book 0 = .ok (.aload_n 0, 1) := by decide +kernel
theorem dX7_book_1 : decode cX7_book 1 = .ok (.iload_n 1, 1) := by decide +kernel
theorem dX7_book_2 : decode cX7_book 2 = .ok (.invokevirtual 92, 3) := by decide +kernel
theorem dX7_book_5 : decode cX7_book 5 = .ok (.ifCond .eq 30, 3) := by decide +kernel
theorem dX7_book_8 : decode cX7_book 8 = .ok (.aload_n 0, 1) := by decide +kernel
theorem dX7_book_9 : decode cX7_book 9 = .ok (.iload_n 2, 1) := by decide +kernel
theorem dX7_book_10 : decode cX7_book 10 = .ok (.invokevirtual 92, 3) := by decide +kernel
theorem dX7_book_13 : decode cX7_book 13 = .ok (.ifCond .eq 22, 3) := by decide +kernel
theorem dX7_book_16 : decode cX7_book 16 = .ok (.aload_n 0, 1) := by decide +kernel
theorem dX7_book_17 : decode cX7_book 17 = .ok (.getfield 12, 3) := by decide +kernel
theorem dX7_book_20 : decode cX7_book 20 = .ok (.getfield 211, 3) := by decide +kernel
theorem dX7_book_23 : decode cX7_book 23 = .ok (.iload_n 1, 1) := by decide +kernel
theorem dX7_book_24 : decode cX7_book 24 = .ok (.iload_n 2, 1) := by decide +kernel
theorem dX7_book_25 : decode cX7_book 25 = .ok (.invokestatic 214, 3) := by decide +kernel
theorem dX7_book_28 : decode cX7_book 28 = .ok (.iload_n 3, 1) := by decide +kernel
theorem dX7_book_29 : decode cX7_book 29 = .ok (.invokevirtual 192, 3) := by decide +kernel
theorem dX7_book_32 : decode cX7_book 32 = .ok (.goto 4, 3) := by decide +kernel
theorem dX7_book_35 : decode cX7_book 35 = .ok (.lconst 0, 1) := by decide +kernel
theorem dX7_book_36 : decode cX7_book 36 = .ok (.lreturn, 1) := by decide +kernel
set_option maxRecDepth 20000 in
theorem ggX7_letter_X1_isUnderWay : GoodIn wsX7_letter wsX1_isUnderWay := goodIn_r _ [11, 12, 40, 41, 42] (by decide +kernel) (by decide +kernel)
set_option maxRecDepth 20000 in
theorem gX7_letter_X1_isUnderWay : GoodIn wsX7_letter (wsV RX7 119 RX1 yX1_isUnderWay wsX1_isUnderWay) := goodIn_app (goodIn_of _ (by decide +kernel)) ggX7_letter_X1_isUnderWay
set_option maxRecDepth 20000 in
theorem ggX7_letter_X3_at : GoodIn wsX7_letter wsX3_at := goodIn_r _ [17, 18, 19, 43, 44] (by decide +kernel) (by decide +kernel)
set_option maxRecDepth 20000 in
theorem gX7_letter_X3_at : GoodIn wsX7_letter (wsV RX7 192 RX3 yX3_at wsX3_at) := goodIn_app (goodIn_of _ (by decide +kernel)) ggX7_letter_X3_at
theorem dX7_letter_0 : decode cX7_letter 0 = .ok (.aload_n 0, 1) := by decide +kernel
theorem dX7_letter_1 : decode cX7_letter 1 = .ok (.getfield 12, 3) := by decide +kernel
theorem dX7_letter_4 : decode cX7_letter 4 = .ok (.getfield 74, 3) := by decide +kernel
theorem dX7_letter_7 : decode cX7_letter 7 = .ok (.iload_n 1, 1) := by decide +kernel
theorem dX7_letter_8 : decode cX7_letter 8 = .ok (.invokevirtual 119, 3) := by decide +kernel
theorem dX7_letter_11 : decode cX7_letter 11 = .ok (.ifCond .ne 7, 3) := by decide +kernel
theorem dX7_letter_14 : decode cX7_letter 14 = .ok (.ldc2_w 209, 3) := by decide +kernel
theorem dX7_letter_17 : decode cX7_letter 17 = .ok (.lreturn, 1) := by decide +kernel
theorem dX7_letter_18 : decode cX7_letter 18 = .ok (.iload_n 2, 1) := by decide +kernel
theorem dX7_letter_19 : decode cX7_letter 19 = .ok (.tableswitch 89 0 3 #[29, 43, 57, 73], 29) := by decide +kernel
theorem dX7_letter_48 : decode cX7_letter 48 = .ok (.aload_n 0, 1) := by decide +kernel
theorem dX7_letter_49 : decode cX7_letter 49 = .ok (.getfield 12, 3) := by decide +kernel
theorem dX7_letter_52 : decode cX7_letter 52 = .ok (.getfield 74, 3) := by decide +kernel
theorem dX7_letter_55 : decode cX7_letter 55 = .ok (.getfield 129, 3) := by decide +kernel
theorem dX7_letter_58 : decode cX7_letter 58 = .ok (.iload_n 1, 1) := by decide +kernel
theorem dX7_letter_59 : decode cX7_letter 59 = .ok (.iaload, 1) := by decide +kernel
theorem dX7_letter_60 : decode cX7_letter 60 = .ok (.i2l, 1) := by decide +kernel
theorem dX7_letter_61 : decode cX7_letter 61 = .ok (.lreturn, 1) := by decide +kernel
theorem dX7_letter_62 : decode cX7_letter 62 = .ok (.aload_n 0, 1) := by decide +kernel
theorem dX7_letter_63 : decode cX7_letter 63 = .ok (.getfield 12, 3) := by decide +kernel
theorem dX7_letter_66 : decode cX7_letter 66 = .ok (.getfield 74, 3) := by decide +kernel
theorem dX7_letter_69 : decode cX7_letter 69 = .ok (.getfield 122, 3) := by decide +kernel
theorem dX7_letter_72 : decode cX7_letter 72 = .ok (.iload_n 1, 1) := by decide +kernel
theorem dX7_letter_73 : decode cX7_letter 73 = .ok (.iaload, 1) := by decide +kernel
theorem dX7_letter_74 : decode cX7_letter 74 = .ok (.i2l, 1) := by decide +kernel
theorem dX7_letter_75 : decode cX7_letter 75 = .ok (.lreturn, 1) := by decide +kernel
theorem dX7_letter_76 : decode cX7_letter 76 = .ok (.aload_n 0, 1) := by decide +kernel
theorem dX7_letter_77 : decode cX7_letter 77 = .ok (.getfield 12, 3) := by decide +kernel
theorem dX7_letter_80 : decode cX7_letter 80 = .ok (.getfield 74, 3) := by decide +kernel
theorem dX7_letter_83 : decode cX7_letter 83 = .ok (.getfield 218, 3) := by decide +kernel
theorem dX7_letter_86 : decode cX7_letter 86 = .ok (.iload_n 1, 1) := by decide +kernel
theorem dX7_letter_87 : decode cX7_letter 87 = .ok (.iconst 0, 1) := by decide +kernel
theorem dX7_letter_88 : decode cX7_letter 88 = .ok (.invokevirtual 192, 3) := by decide +kernel
theorem dX7_letter_91 : decode cX7_letter 91 = .ok (.lreturn, 1) := by decide +kernel
theorem dX7_letter_92 : decode cX7_letter 92 = .ok (.aload_n 0, 1) := by decide +kernel
theorem dX7_letter_93 : decode cX7_letter 93 = .ok (.getfield 12, 3) := by decide +kernel
theorem dX7_letter_96 : decode cX7_letter 96 = .ok (.getfield 74, 3) := by decide +kernel
theorem dX7_letter_99 : decode cX7_letter 99 = .ok (.getfield 218, 3) := by decide +kernel
theorem dX7_letter_102 : decode cX7_letter 102 = .ok (.iload_n 1, 1) := by decide +kernel
theorem dX7_letter_103 : decode cX7_letter 103 = .ok (.iconst 1, 1) := by decide +kernel
theorem dX7_letter_104 : decode cX7_letter 104 = .ok (.invokevirtual 192, 3) := by decide +kernel
theorem dX7_letter_107 : decode cX7_letter 107 = .ok (.lreturn, 1) := by decide +kernel
theorem dX7_letter_108 : decode cX7_letter 108 = .ok (.ldc2_w 209, 3) := by decide +kernel
theorem dX7_letter_111 : decode cX7_letter 111 = .ok (.lreturn, 1) := by decide +kernel
set_option maxRecDepth 20000 in
theorem ggX7_owed_X3_total : GoodIn wsX7_owed wsX3_total := goodIn_r _ [7, 8, 9, 30, 31] (by decide +kernel) (by decide +kernel)
set_option maxRecDepth 20000 in
theorem gX7_owed_X3_total : GoodIn wsX7_owed (wsV RX7 224 RX3 yX3_total wsX3_total) := goodIn_app (goodIn_of _ (by decide +kernel)) ggX7_owed_X3_total
theorem dX7_owed_0 : decode cX7_owed 0 = .ok (.aload_n 0, 1) := by decide +kernel
theorem dX7_owed_1 : decode cX7_owed 1 = .ok (.getfield 12, 3) := by decide +kernel
theorem dX7_owed_4 : decode cX7_owed 4 = .ok (.getfield 221, 3) := by decide +kernel
theorem dX7_owed_7 : decode cX7_owed 7 = .ok (.iload_n 1, 1) := by decide +kernel
theorem dX7_owed_8 : decode cX7_owed 8 = .ok (.invokevirtual 224, 3) := by decide +kernel
theorem dX7_owed_11 : decode cX7_owed 11 = .ok (.lreturn, 1) := by decide +kernel
set_option maxRecDepth 20000 in
theorem ggX7_all_X3_total : GoodIn wsX7_all wsX3_total := goodIn_r _ [10, 11, 12, 36, 37] (by decide +kernel) (by decide +kernel)
set_option maxRecDepth 20000 in
theorem gX7_all_X3_total : GoodIn wsX7_all (wsV RX7 224 RX3 yX3_total wsX3_total) := goodIn_app (goodIn_of _ (by decide +kernel)) ggX7_all_X3_total
theorem dX7_all_0 : decode cX7_all 0 = .ok (.aload_n 0, 1) := by decide +kernel
theorem dX7_all_1 : decode cX7_all 1 = .ok (.getfield 12, 3) := by decide +kernel
theorem dX7_all_4 : decode cX7_all 4 = .ok (.getfield 188, 3) := by decide +kernel
theorem dX7_all_7 : decode cX7_all 7 = .ok (.iload_n 1, 1) := by decide +kernel
theorem dX7_all_8 : decode cX7_all 8 = .ok (.invokevirtual 224, 3) := by decide +kernel
theorem dX7_all_11 : decode cX7_all 11 = .ok (.aload_n 0, 1) := by decide +kernel
theorem dX7_all_12 : decode cX7_all 12 = .ok (.getfield 12, 3) := by decide +kernel
theorem dX7_all_15 : decode cX7_all 15 = .ok (.getfield 74, 3) := by decide +kernel
theorem dX7_all_18 : decode cX7_all 18 = .ok (.getfield 218, 3) := by decide +kernel
theorem dX7_all_21 : decode cX7_all 21 = .ok (.iload_n 1, 1) := by decide +kernel
theorem dX7_all_22 : decode cX7_all 22 = .ok (.invokevirtual 224, 3) := by decide +kernel
theorem dX7_all_25 : decode cX7_all 25 = .ok (.ladd, 1) := by decide +kernel
theorem dX7_all_26 : decode cX7_all 26 = .ok (.aload_n 0, 1) := by decide +kernel
theorem dX7_all_27 : decode cX7_all 27 = .ok (.getfield 12, 3) := by decide +kernel
theorem dX7_all_30 : decode cX7_all 30 = .ok (.getfield 221, 3) := by decide +kernel
theorem dX7_all_33 : decode cX7_all 33 = .ok (.iload_n 1, 1) := by decide +kernel
theorem dX7_all_34 : decode cX7_all 34 = .ok (.invokevirtual 224, 3) := by decide +kernel
theorem dX7_all_37 : decode cX7_all 37 = .ok (.ladd, 1) := by decide +kernel
theorem dX7_all_38 : decode cX7_all 38 = .ok (.lreturn, 1) := by decide +kernel
set_option maxRecDepth 20000 in
theorem ggX7_far_X7_hasGuess : GoodIn wsX7_far wsX7_hasGuess := goodIn_r _ [8, 1, 9, 10, 11, 12, 7, 13, 14, 15, 16, 17, 2, 18, 19, 20, 21, 22, 23, 24, 25, 26, 27, 28, 29, 30, 42, 43, 44, 45, 46, 47, 48, 49, 50, 51, 52, 53, 54, 55, 56, 57, 58, 59, 60, 61, 62, 63] (by decide +kernel) (by decide +kernel)
set_option maxRecDepth 20000 in
theorem gX7_far_X7_hasGuess : GoodIn wsX7_far (wsV RX7 198 RX7 yX7_hasGuess wsX7_hasGuess) := goodIn_app (goodIn_of _ (by decide +kernel)) ggX7_far_X7_hasGuess
set_option maxRecDepth 20000 in
theorem ggX7_far_X7_guessOf : GoodIn wsX7_far wsX7_guessOf := goodIn_r _ [34, 1, 9, 24, 25, 26, 27, 28, 29, 30, 42, 43, 44, 45, 46, 47, 48, 49, 50, 51, 52, 53, 54, 55, 56, 57, 58, 59, 60, 61, 62, 63] (by decide +kernel) (by decide +kernel)
set_option maxRecDepth 20000 in
theorem gX7_far_X7_guessOf : GoodIn wsX7_far (wsV RX7 201 RX7 yX7_guessOf wsX7_guessOf) := goodIn_app (goodIn_of _ (by decide +kernel)) ggX7_far_X7_guessOf
set_option maxRecDepth 20000 in
theorem ggX7_far_X7_bitsOf : GoodIn wsX7_far wsX7_bitsOf := goodIn_r _ [37, 38, 39, 40, 41] (by decide +kernel) (by decide +kernel)
set_option maxRecDepth 20000 in
theorem gX7_far_X7_bitsOf : GoodIn wsX7_far (va_wsS RX7 205 yX7_bitsOf wsX7_bitsOf) := goodIn_app (goodIn_of _ (by decide +kernel)) ggX7_far_X7_bitsOf
theorem dX7_far_0 : decode cX7_far 0 = .ok (.iconst 0, 1) := by decide +kernel
theorem dX7_far_1 : decode cX7_far 1 = .ok (.istore_n 1, 1) := by decide +kernel
theorem dX7_far_2 : decode cX7_far 2 = .ok (.dconst 0, 1) := by decide +kernel
theorem dX7_far_3 : decode cX7_far 3 = .ok (.dstore_n 2, 1) := by decide +kernel
theorem dX7_far_4 : decode cX7_far 4 = .ok (.dconst 0, 1) := by decide +kernel
theorem dX7_far_5 : decode cX7_far 5 = .ok (.dstore 4, 2) := by decide +kernel
theorem dX7_far_7 : decode cX7_far 7 = .ok (.iconst 0, 1) := by decide +kernel
theorem dX7_far_8 : decode cX7_far 8 = .ok (.istore 6, 2) := by decide +kernel
theorem dX7_far_10 : decode cX7_far 10 = .ok (.iload 6, 2) := by decide +kernel
theorem dX7_far_12 : decode cX7_far 12 = .ok (.aload_n 0, 1) := by decide +kernel
theorem dX7_far_13 : decode cX7_far 13 = .ok (.getfield 12, 3) := by decide +kernel
theorem dX7_far_16 : decode cX7_far 16 = .ok (.getfield 49, 3) := by decide +kernel
theorem dX7_far_19 : decode cX7_far 19 = .ok (.if_icmp .ge 67, 3) := by decide +kernel
theorem dX7_far_22 : decode cX7_far 22 = .ok (.aload_n 0, 1) := by decide +kernel
theorem dX7_far_23 : decode cX7_far 23 = .ok (.iload 6, 2) := by decide +kernel
theorem dX7_far_25 : decode cX7_far 25 = .ok (.invokevirtual 198, 3) := by decide +kernel
theorem dX7_far_28 : decode cX7_far 28 = .ok (.ifCond .eq 52, 3) := by decide +kernel
theorem dX7_far_31 : decode cX7_far 31 = .ok (.aload_n 0, 1) := by decide +kernel
theorem dX7_far_32 : decode cX7_far 32 = .ok (.iload 6, 2) := by decide +kernel
theorem dX7_far_34 : decode cX7_far 34 = .ok (.invokevirtual 201, 3) := by decide +kernel
theorem dX7_far_37 : decode cX7_far 37 = .ok (.dstore 7, 2) := by decide +kernel
theorem dX7_far_39 : decode cX7_far 39 = .ok (.iload_n 1, 1) := by decide +kernel
theorem dX7_far_40 : decode cX7_far 40 = .ok (.ifCond .eq 10, 3) := by decide +kernel
theorem dX7_far_43 : decode cX7_far 43 = .ok (.dload 7, 2) := by decide +kernel
theorem dX7_far_45 : decode cX7_far 45 = .ok (.dload_n 2, 1) := by decide +kernel
theorem dX7_far_46 : decode cX7_far 46 = .ok (.dcmp .l, 1) := by decide +kernel
theorem dX7_far_47 : decode cX7_far 47 = .ok (.ifCond .le 8, 3) := by decide +kernel
theorem dX7_far_50 : decode cX7_far 50 = .ok (.dload 7, 2) := by decide +kernel
theorem dX7_far_52 : decode cX7_far 52 = .ok (.goto 4, 3) := by decide +kernel
theorem dX7_far_55 : decode cX7_far 55 = .ok (.dload_n 2, 1) := by decide +kernel
theorem dX7_far_56 : decode cX7_far 56 = .ok (.dstore_n 2, 1) := by decide +kernel
theorem dX7_far_57 : decode cX7_far 57 = .ok (.iload_n 1, 1) := by decide +kernel
theorem dX7_far_58 : decode cX7_far 58 = .ok (.ifCond .eq 11, 3) := by decide +kernel
theorem dX7_far_61 : decode cX7_far 61 = .ok (.dload 7, 2) := by decide +kernel
theorem dX7_far_63 : decode cX7_far 63 = .ok (.dload 4, 2) := by decide +kernel
theorem dX7_far_65 : decode cX7_far 65 = .ok (.dcmp .g, 1) := by decide +kernel
theorem dX7_far_66 : decode cX7_far 66 = .ok (.ifCond .ge 8, 3) := by decide +kernel
theorem dX7_far_69 : decode cX7_far 69 = .ok (.dload 7, 2) := by decide +kernel
theorem dX7_far_71 : decode cX7_far 71 = .ok (.goto 5, 3) := by decide +kernel
theorem dX7_far_74 : decode cX7_far 74 = .ok (.dload 4, 2) := by decide +kernel
theorem dX7_far_76 : decode cX7_far 76 = .ok (.dstore 4, 2) := by decide +kernel
theorem dX7_far_78 : decode cX7_far 78 = .ok (.iconst 1, 1) := by decide +kernel
theorem dX7_far_79 : decode cX7_far 79 = .ok (.istore_n 1, 1) := by decide +kernel
theorem dX7_far_80 : decode cX7_far 80 = .ok (.iinc 6 1, 3) := by decide +kernel
theorem dX7_far_83 : decode cX7_far 83 = .ok (.goto (-73), 3) := by decide +kernel
theorem dX7_far_86 : decode cX7_far 86 = .ok (.iload_n 1, 1) := by decide +kernel
theorem dX7_far_87 : decode cX7_far 87 = .ok (.ifCond .eq 13, 3) := by decide +kernel
theorem dX7_far_90 : decode cX7_far 90 = .ok (.dload_n 2, 1) := by decide +kernel
theorem dX7_far_91 : decode cX7_far 91 = .ok (.dload 4, 2) := by decide +kernel
theorem dX7_far_93 : decode cX7_far 93 = .ok (.dsub, 1) := by decide +kernel
theorem dX7_far_94 : decode cX7_far 94 = .ok (.invokestatic 205, 3) := by decide +kernel
theorem dX7_far_97 : decode cX7_far 97 = .ok (.goto 6, 3) := by decide +kernel
theorem dX7_far_100 : decode cX7_far 100 = .ok (.ldc2_w 209, 3) := by decide +kernel
theorem dX7_far_103 : decode cX7_far 103 = .ok (.lreturn, 1) := by decide +kernel
set_option maxRecDepth 20000 in
theorem ggX7_unsure_X5_isHere : GoodIn wsX7_unsure wsX5_isHere := goodIn_r _ [9, 10, 17, 18, 19, 20, 21, 22, 23, 24, 25, 26, 27, 28, 29, 30] (by decide +kernel) (by decide +kernel)
set_option maxRecDepth 20000 in
theorem gX7_unsure_X5_isHere : GoodIn wsX7_unsure (wsV RX7 95 RX5 yX5_isHere wsX5_isHere) := goodIn_app (goodIn_of _ (by decide +kernel)) ggX7_unsure_X5_isHere
theorem dX7_unsure_0 : decode cX7_unsure 0 = .ok (.iconst 0, 1) := by decide +kernel
theorem dX7_unsure_1 : decode cX7_unsure 1 = .ok (.istore_n 1, 1) := by decide +kernel
theorem dX7_unsure_2 : decode cX7_unsure 2 = .ok (.iload_n 1, 1) := by decide +kernel
theorem dX7_unsure_3 : decode cX7_unsure 3 = .ok (.aload_n 0, 1) := by decide +kernel
theorem dX7_unsure_4 : decode cX7_unsure 4 = .ok (.getfield 12, 3) := by decide +kernel
theorem dX7_unsure_7 : decode cX7_unsure 7 = .ok (.getfield 49, 3) := by decide +kernel
theorem dX7_unsure_10 : decode cX7_unsure 10 = .ok (.if_icmp .ge 44, 3) := by decide +kernel
theorem dX7_unsure_13 : decode cX7_unsure 13 = .ok (.aload_n 0, 1) := by decide +kernel
theorem dX7_unsure_14 : decode cX7_unsure 14 = .ok (.getfield 12, 3) := by decide +kernel
theorem dX7_unsure_17 : decode cX7_unsure 17 = .ok (.iload_n 1, 1) := by decide +kernel
theorem dX7_unsure_18 : decode cX7_unsure 18 = .ok (.invokevirtual 95, 3) := by decide +kernel
theorem dX7_unsure_21 : decode cX7_unsure 21 = .ok (.ifCond .eq 27, 3) := by decide +kernel
theorem dX7_unsure_24 : decode cX7_unsure 24 = .ok (.aload_n 0, 1) := by decide +kernel
theorem dX7_unsure_25 : decode cX7_unsure 25 = .ok (.getfield 12, 3) := by decide +kernel
theorem dX7_unsure_28 : decode cX7_unsure 28 = .ok (.getfield 228, 3) := by decide +kernel
theorem dX7_unsure_31 : decode cX7_unsure 31 = .ok (.aload_n 0, 1) := by decide +kernel
theorem dX7_unsure_32 : decode cX7_unsure 32 = .ok (.getfield 12, 3) := by decide +kernel
theorem dX7_unsure_35 : decode cX7_unsure 35 = .ok (.getfield 182, 3) := by decide +kernel
theorem dX7_unsure_38 : decode cX7_unsure 38 = .ok (.iload_n 1, 1) := by decide +kernel
theorem dX7_unsure_39 : decode cX7_unsure 39 = .ok (.iaload, 1) := by decide +kernel
theorem dX7_unsure_40 : decode cX7_unsure 40 = .ok (.iconst (-1), 1) := by decide +kernel
theorem dX7_unsure_41 : decode cX7_unsure 41 = .ok (.ixor, 1) := by decide +kernel
theorem dX7_unsure_42 : decode cX7_unsure 42 = .ok (.iand, 1) := by decide +kernel
theorem dX7_unsure_43 : decode cX7_unsure 43 = .ok (.ifCond .eq 5, 3) := by decide +kernel
theorem dX7_unsure_46 : decode cX7_unsure 46 = .ok (.iload_n 1, 1) := by decide +kernel
theorem dX7_unsure_47 : decode cX7_unsure 47 = .ok (.ireturn, 1) := by decide +kernel
theorem dX7_unsure_48 : decode cX7_unsure 48 = .ok (.iinc 1 1, 3) := by decide +kernel
theorem dX7_unsure_51 : decode cX7_unsure 51 = .ok (.goto (-49), 3) := by decide +kernel
theorem dX7_unsure_54 : decode cX7_unsure 54 = .ok (.bipush (-4), 2) := by decide +kernel
theorem dX7_unsure_56 : decode cX7_unsure 56 = .ok (.ireturn, 1) := by decide +kernel
set_option maxRecDepth 20000 in
theorem ggX7_many_X7_isHere : GoodIn wsX7_many wsX7_isHere := goodIn_r _ [11, 2, 12, 13, 14, 10, 15, 16, 17, 18, 19, 20, 21, 22, 36, 37, 38, 39, 40, 41, 42, 43, 44, 45, 46, 47, 48, 49, 50, 51, 52, 53, 54, 55] (by decide +kernel) (by decide +kernel)
set_option maxRecDepth 20000 in
theorem gX7_many_X7_isHere : GoodIn wsX7_many (wsV RX7 86 RX7 yX7_isHere wsX7_isHere) := goodIn_app (goodIn_of _ (by decide +kernel)) ggX7_many_X7_isHere
set_option maxRecDepth 20000 in
theorem ggX7_many_X7_bitsOf : GoodIn wsX7_many wsX7_bitsOf := goodIn_r _ [25, 26, 27, 28, 29] (by decide +kernel) (by decide +kernel)
set_option maxRecDepth 20000 in
theorem gX7_many_X7_bitsOf : GoodIn wsX7_many (va_wsS RX7 205 yX7_bitsOf wsX7_bitsOf) := goodIn_app (goodIn_of _ (by decide +kernel)) ggX7_many_X7_bitsOf
set_option maxRecDepth 20000 in
theorem ggX7_many_X6_numberAt : GoodIn wsX7_many wsX6_numberAt := goodIn_r _ [34, 35, 56, 57, 58] (by decide +kernel) (by decide +kernel)
set_option maxRecDepth 20000 in
theorem gX7_many_X6_numberAt : GoodIn wsX7_many (wsV RX7 231 RX6 yX6_numberAt wsX6_numberAt) := goodIn_app (goodIn_of _ (by decide +kernel)) ggX7_many_X6_numberAt
theorem dX7_many_0 : decode cX7_many 0 = .ok (.aload_n 0, 1) := by decide +kernel
theorem dX7_many_1 : decode cX7_many 1 = .ok (.iload_n 1, 1) := by decide +kernel
theorem dX7_many_2 : decode cX7_many 2 = .ok (.invokevirtual 86, 3) := by decide +kernel
theorem dX7_many_5 : decode cX7_many 5 = .ok (.ifCond .ne 7, 3) := by decide +kernel
theorem dX7_many_8 : decode cX7_many 8 = .ok (.ldc2_w 209, 3) := by decide +kernel
theorem dX7_many_11 : decode cX7_many 11 = .ok (.lreturn, 1) := by decide +kernel
theorem dX7_many_12 : decode cX7_many 12 = .ok (.aload_n 0, 1) := by decide +kernel
theorem dX7_many_13 : decode cX7_many 13 = .ok (.getfield 12, 3) := by decide +kernel
theorem dX7_many_16 : decode cX7_many 16 = .ok (.getfield 153, 3) := by decide +kernel
theorem dX7_many_19 : decode cX7_many 19 = .ok (.getfield 185, 3) := by decide +kernel
theorem dX7_many_22 : decode cX7_many 22 = .ok (.iload_n 1, 1) := by decide +kernel
theorem dX7_many_23 : decode cX7_many 23 = .ok (.iaload, 1) := by decide +kernel
theorem dX7_many_24 : decode cX7_many 24 = .ok (.istore_n 2, 1) := by decide +kernel
theorem dX7_many_25 : decode cX7_many 25 = .ok (.iload_n 2, 1) := by decide +kernel
theorem dX7_many_26 : decode cX7_many 26 = .ok (.iconst 4, 1) := by decide +kernel
theorem dX7_many_27 : decode cX7_many 27 = .ok (.if_icmp .ge 9, 3) := by decide +kernel
theorem dX7_many_30 : decode cX7_many 30 = .ok (.iload_n 2, 1) := by decide +kernel
theorem dX7_many_31 : decode cX7_many 31 = .ok (.i2d, 1) := by decide +kernel
theorem dX7_many_32 : decode cX7_many 32 = .ok (.invokestatic 205, 3) := by decide +kernel
theorem dX7_many_35 : decode cX7_many 35 = .ok (.lreturn, 1) := by decide +kernel
theorem dX7_many_36 : decode cX7_many 36 = .ok (.aload_n 0, 1) := by decide +kernel
theorem dX7_many_37 : decode cX7_many 37 = .ok (.getfield 12, 3) := by decide +kernel
theorem dX7_many_40 : decode cX7_many 40 = .ok (.getfield 153, 3) := by decide +kernel
theorem dX7_many_43 : decode cX7_many 43 = .ok (.iload_n 1, 1) := by decide +kernel
theorem dX7_many_44 : decode cX7_many 44 = .ok (.iconst 3, 1) := by decide +kernel
theorem dX7_many_45 : decode cX7_many 45 = .ok (.invokevirtual 231, 3) := by decide +kernel
theorem dX7_many_48 : decode cX7_many 48 = .ok (.istore_n 3, 1) := by decide +kernel
theorem dX7_many_49 : decode cX7_many 49 = .ok (.iload_n 3, 1) := by decide +kernel
theorem dX7_many_50 : decode cX7_many 50 = .ok (.ifCond .ne 9, 3) := by decide +kernel
theorem dX7_many_53 : decode cX7_many 53 = .ok (.ldc2_w 234, 3) := by decide +kernel
theorem dX7_many_56 : decode cX7_many 56 = .ok (.goto 12, 3) := by decide +kernel
theorem dX7_many_59 : decode cX7_many 59 = .ok (.ldc2_w 236, 3) := by decide +kernel
theorem dX7_many_62 : decode cX7_many 62 = .ok (.iload_n 3, 1) := by decide +kernel
theorem dX7_many_63 : decode cX7_many 63 = .ok (.i2d, 1) := by decide +kernel
theorem dX7_many_64 : decode cX7_many 64 = .ok (.ddiv, 1) := by decide +kernel
theorem dX7_many_65 : decode cX7_many 65 = .ok (.invokestatic 205, 3) := by decide +kernel
theorem dX7_many_68 : decode cX7_many 68 = .ok (.lreturn, 1) := by decide +kernel
set_option maxRecDepth 20000 in
theorem ggX7_ticket_X7_isMember : GoodIn wsX7_ticket wsX7_isMember := goodIn_r _ [8, 1, 9, 22, 23, 24, 25, 26, 27, 28, 29, 30, 31, 32, 33, 34, 35, 36, 37, 38, 39, 40, 41] (by decide +kernel) (by decide +kernel)
set_option maxRecDepth 20000 in
theorem gX7_ticket_X7_isMember : GoodIn wsX7_ticket (wsV RX7 92 RX7 yX7_isMember wsX7_isMember) := goodIn_app (goodIn_of _ (by decide +kernel)) ggX7_ticket_X7_isMember
set_option maxRecDepth 20000 in
theorem ggX7_ticket_X5_isHere : GoodIn wsX7_ticket wsX5_isHere := goodIn_r _ [14, 15, 28, 29, 30, 31, 32, 33, 34, 35, 36, 37, 38, 39, 40, 41] (by decide +kernel) (by decide +kernel)
set_option maxRecDepth 20000 in
theorem gX7_ticket_X5_isHere : GoodIn wsX7_ticket (wsV RX7 95 RX5 yX5_isHere wsX5_isHere) := goodIn_app (goodIn_of _ (by decide +kernel)) ggX7_ticket_X5_isHere
set_option maxRecDepth 20000 in
theorem ggX7_ticket_X6_numberAt : GoodIn wsX7_ticket wsX6_numberAt := goodIn_r _ [20, 21, 42, 43, 44] (by decide +kernel) (by decide +kernel)
set_option maxRecDepth 20000 in
theorem gX7_ticket_X6_numberAt : GoodIn wsX7_ticket (wsV RX7 231 RX6 yX6_numberAt wsX6_numberAt) := goodIn_app (goodIn_of _ (by decide +kernel)) ggX7_ticket_X6_numberAt
theorem dX7_ticket_0 : decode cX7_ticket 0 = .ok (.aload_n 0, 1) := by decide +kernel
theorem dX7_ticket_1 : decode cX7_ticket 1 = .ok (.iload_n 1, 1) := by decide +kernel
theorem dX7_ticket_2 : decode cX7_ticket 2 = .ok (.invokevirtual 92, 3) := by decide +kernel
theorem dX7_ticket_5 : decode cX7_ticket 5 = .ok (.ifCond .ne 5, 3) := by decide +kernel
theorem dX7_ticket_8 : decode cX7_ticket 8 = .ok (.iconst (-1), 1) := by decide +kernel
theorem dX7_ticket_9 : decode cX7_ticket 9 = .ok (.ireturn, 1) := by decide +kernel
theorem dX7_ticket_10 : decode cX7_ticket 10 = .ok (.aload_n 0, 1) := by decide +kernel
theorem dX7_ticket_11 : decode cX7_ticket 11 = .ok (.getfield 12, 3) := by decide +kernel
theorem dX7_ticket_14 : decode cX7_ticket 14 = .ok (.iload_n 1, 1) := by decide +kernel
theorem dX7_ticket_15 : decode cX7_ticket 15 = .ok (.invokevirtual 95, 3) := by decide +kernel
theorem dX7_ticket_18 : decode cX7_ticket 18 = .ok (.ifCond .ne 6, 3) := by decide +kernel
theorem dX7_ticket_21 : decode cX7_ticket 21 = .ok (.bipush (-2), 2) := by decide +kernel
theorem dX7_ticket_23 : decode cX7_ticket 23 = .ok (.ireturn, 1) := by decide +kernel
theorem dX7_ticket_24 : decode cX7_ticket 24 = .ok (.iload_n 2, 1) := by decide +kernel
theorem dX7_ticket_25 : decode cX7_ticket 25 = .ok (.ifCond .lt 34, 3) := by decide +kernel
theorem dX7_ticket_28 : decode cX7_ticket 28 = .ok (.iload_n 2, 1) := by decide +kernel
theorem dX7_ticket_29 : decode cX7_ticket 29 = .ok (.aload_n 0, 1) := by decide +kernel
theorem dX7_ticket_30 : decode cX7_ticket 30 = .ok (.getfield 12, 3) := by decide +kernel
theorem dX7_ticket_33 : decode cX7_ticket 33 = .ok (.getfield 153, 3) := by decide +kernel
theorem dX7_ticket_36 : decode cX7_ticket 36 = .ok (.getfield 185, 3) := by decide +kernel
theorem dX7_ticket_39 : decode cX7_ticket 39 = .ok (.iload_n 1, 1) := by decide +kernel
theorem dX7_ticket_40 : decode cX7_ticket 40 = .ok (.iaload, 1) := by decide +kernel
theorem dX7_ticket_41 : decode cX7_ticket 41 = .ok (.if_icmp .ge 18, 3) := by decide +kernel
theorem dX7_ticket_44 : decode cX7_ticket 44 = .ok (.aload_n 0, 1) := by decide +kernel
theorem dX7_ticket_45 : decode cX7_ticket 45 = .ok (.getfield 12, 3) := by decide +kernel
theorem dX7_ticket_48 : decode cX7_ticket 48 = .ok (.getfield 153, 3) := by decide +kernel
theorem dX7_ticket_51 : decode cX7_ticket 51 = .ok (.iload_n 1, 1) := by decide +kernel
theorem dX7_ticket_52 : decode cX7_ticket 52 = .ok (.iload_n 2, 1) := by decide +kernel
theorem dX7_ticket_53 : decode cX7_ticket 53 = .ok (.invokevirtual 231, 3) := by decide +kernel
theorem dX7_ticket_56 : decode cX7_ticket 56 = .ok (.goto 5, 3) := by decide +kernel
theorem dX7_ticket_59 : decode cX7_ticket 59 = .ok (.bipush (-4), 2) := by decide +kernel
theorem dX7_ticket_61 : decode cX7_ticket 61 = .ok (.ireturn, 1) := by decide +kernel
set_option maxRecDepth 20000 in
theorem ggX7_fewest_X2_listOf : GoodIn wsX7_fewest wsX2_listOf := goodIn_r _ [15, 16, 17, 18, 19, 20, 21, 22, 23, 24, 25, 26, 27, 28, 29, 30, 31, 14, 32, 33, 34, 105, 106, 107, 108, 109, 110, 111, 112, 113, 114, 115, 116, 117, 118, 119, 120, 121] (by decide +kernel) (by decide +kernel)
set_option maxRecDepth 20000 in
theorem gX7_fewest_X2_listOf : GoodIn wsX7_fewest (wsV RX7 138 RX2 yX2_listOf wsX2_listOf) := goodIn_app (goodIn_of _ (by decide +kernel)) ggX7_fewest_X2_listOf
set_option maxRecDepth 20000 in
theorem ggX7_fewest_X4_start : GoodIn wsX7_fewest wsX4_start := goodIn_r _ [39, 40, 41, 42, 43, 44, 45, 46, 47, 48, 49, 50, 51, 52, 7, 8, 9, 53, 54, 25, 26, 21, 27, 28, 100, 101, 102, 103, 104, 108, 109, 110, 111, 112, 113, 114, 115, 116, 117, 118, 119, 120, 121, 122, 123] (by decide +kernel) (by decide +kernel)
set_option maxRecDepth 20000 in
theorem gX7_fewest_X4_start : GoodIn wsX7_fewest (wsV RX7 238 RX4 yX4_start wsX4_start) := goodIn_app (goodIn_of _ (by decide +kernel)) ggX7_fewest_X4_start
set_option maxRecDepth 20000 in
theorem ggX7_fewest_X4_finds : GoodIn wsX7_fewest wsX4_finds := goodIn_r _ [58, 59, 60, 61, 38, 62, 40, 63, 64, 65, 66, 67, 68, 69, 70, 43, 45, 71, 72, 73, 74, 75, 76, 77, 78, 41, 79, 80, 81, 82, 83, 84, 85, 86, 87, 49, 88, 51, 53, 89, 90, 91, 92, 93, 100, 101, 102, 103, 104, 105, 106, 107, 122, 123] (by decide +kernel) (by decide +kernel)
set_option maxRecDepth 20000 in
theorem gX7_fewest_X4_finds : GoodIn wsX7_fewest (wsV RX7 242 RX4 yX4_finds wsX4_finds) := goodIn_app (goodIn_of _ (by decide +kernel)) ggX7_fewest_X4_finds
theorem dX7_fewest_0 : decode cX7_fewest 0 = .ok (.iload_n 1, 1) := by decide +kernel
theorem dX7_fewest_1 : decode cX7_fewest 1 = .ok (.ifCond .lt 8, 3) := by decide +kernel
theorem dX7_fewest_4 : decode cX7_fewest 4 = .ok (.iload_n 1, 1) := by decide +kernel
theorem dX7_fewest_5 : decode cX7_fewest 5 = .ok (.iconst 3, 1) := by decide +kernel
theorem dX7_fewest_6 : decode cX7_fewest 6 = .ok (.if_icmp .le 5, 3) := by decide +kernel
theorem dX7_fewest_9 : decode cX7_fewest 9 = .ok (.iconst (-1), 1) := by decide +kernel
theorem dX7_fewest_10 : decode cX7_fewest 10 = .ok (.ireturn, 1) := by decide +kernel
theorem dX7_fewest_11 : decode cX7_fewest 11 = .ok (.aload_n 0, 1) := by decide +kernel
theorem dX7_fewest_12 : decode cX7_fewest 12 = .ok (.getfield 26, 3) := by decide +kernel
theorem dX7_fewest_15 : decode cX7_fewest 15 = .ok (.aload_n 0, 1) := by decide +kernel
theorem dX7_fewest_16 : decode cX7_fewest 16 = .ok (.getfield 12, 3) := by decide +kernel
theorem dX7_fewest_19 : decode cX7_fewest 19 = .ok (.invokevirtual 138, 3) := by decide +kernel
theorem dX7_fewest_22 : decode cX7_fewest 22 = .ok (.aload_n 0, 1) := by decide +kernel
theorem dX7_fewest_23 : decode cX7_fewest 23 = .ok (.getfield 33, 3) := by decide +kernel
theorem dX7_fewest_26 : decode cX7_fewest 26 = .ok (.aload_n 0, 1) := by decide +kernel
theorem dX7_fewest_27 : decode cX7_fewest 27 = .ok (.getfield 12, 3) := by decide +kernel
theorem dX7_fewest_30 : decode cX7_fewest 30 = .ok (.aload_n 0, 1) := by decide +kernel
theorem dX7_fewest_31 : decode cX7_fewest 31 = .ok (.getfield 26, 3) := by decide +kernel
theorem dX7_fewest_34 : decode cX7_fewest 34 = .ok (.invokevirtual 238, 3) := by decide +kernel
theorem dX7_fewest_37 : decode cX7_fewest 37 = .ok (.iconst 0, 1) := by decide +kernel
theorem dX7_fewest_38 : decode cX7_fewest 38 = .ok (.istore_n 2, 1) := by decide +kernel
theorem dX7_fewest_39 : decode cX7_fewest 39 = .ok (.iload_n 2, 1) := by decide +kernel
theorem dX7_fewest_40 : decode cX7_fewest 40 = .ok (.iload_n 1, 1) := by decide +kernel
theorem dX7_fewest_41 : decode cX7_fewest 41 = .ok (.if_icmp .gt 44, 3) := by decide +kernel
theorem dX7_fewest_44 : decode cX7_fewest 44 = .ok (.aload_n 0, 1) := by decide +kernel
theorem dX7_fewest_45 : decode cX7_fewest 45 = .ok (.getfield 33, 3) := by decide +kernel
theorem dX7_fewest_48 : decode cX7_fewest 48 = .ok (.iload_n 2, 1) := by decide +kernel
theorem dX7_fewest_49 : decode cX7_fewest 49 = .ok (.invokevirtual 242, 3) := by decide +kernel
theorem dX7_fewest_52 : decode cX7_fewest 52 = .ok (.ifCond .eq 27, 3) := by decide +kernel
theorem dX7_fewest_55 : decode cX7_fewest 55 = .ok (.aload_n 0, 1) := by decide +kernel
theorem dX7_fewest_56 : decode cX7_fewest 56 = .ok (.getfield 33, 3) := by decide +kernel
theorem dX7_fewest_59 : decode cX7_fewest 59 = .ok (.getfield 245, 3) := by decide +kernel
theorem dX7_fewest_62 : decode cX7_fewest 62 = .ok (.iconst 0, 1) := by decide +kernel
theorem dX7_fewest_63 : decode cX7_fewest 63 = .ok (.aload_n 0, 1) := by decide +kernel
theorem dX7_fewest_64 : decode cX7_fewest 64 = .ok (.getfield 37, 3) := by decide +kernel
theorem dX7_fewest_67 : decode cX7_fewest 67 = .ok (.iconst 0, 1) := by decide +kernel
theorem dX7_fewest_68 : decode cX7_fewest 68 = .ok (.iload_n 2, 1) := by decide +kernel
theorem dX7_fewest_69 : decode cX7_fewest 69 = .ok (.invokestatic 248, 3) := by decide +kernel
theorem dX7_fewest_72 : decode cX7_fewest 72 = .ok (.aload_n 0, 1) := by decide +kernel
theorem dX7_fewest_73 : decode cX7_fewest 73 = .ok (.iload_n 2, 1) := by decide +kernel
theorem dX7_fewest_74 : decode cX7_fewest 74 = .ok (.putfield 41, 3) := by decide +kernel
theorem dX7_fewest_77 : decode cX7_fewest 77 = .ok (.iload_n 2, 1) := by decide +kernel
theorem dX7_fewest_78 : decode cX7_fewest 78 = .ok (.ireturn, 1) := by decide +kernel
theorem dX7_fewest_79 : decode cX7_fewest 79 = .ok (.iinc 2 1, 3) := by decide +kernel
theorem dX7_fewest_82 : decode cX7_fewest 82 = .ok (.goto (-43), 3) := by decide +kernel
theorem dX7_fewest_85 : decode cX7_fewest 85 = .ok (.bipush (-4), 2) := by decide +kernel
theorem dX7_fewest_87 : decode cX7_fewest 87 = .ok (.ireturn, 1) := by decide +kernel
theorem dX7_plan_0 : decode cX7_plan 0 = .ok (.iload_n 1, 1) := by decide +kernel
theorem dX7_plan_1 : decode cX7_plan 1 = .ok (.ifCond .lt 20, 3) := by decide +kernel
theorem dX7_plan_4 : decode cX7_plan 4 = .ok (.iload_n 1, 1) := by decide +kernel
theorem dX7_plan_5 : decode cX7_plan 5 = .ok (.aload_n 0, 1) := by decide +kernel
theorem dX7_plan_6 : decode cX7_plan 6 = .ok (.getfield 41, 3) := by decide +kernel
theorem dX7_plan_9 : decode cX7_plan 9 = .ok (.if_icmp .ge 12, 3) := by decide +kernel
theorem dX7_plan_12 : decode cX7_plan 12 = .ok (.aload_n 0, 1) := by decide +kernel
theorem dX7_plan_13 : decode cX7_plan 13 = .ok (.getfield 37, 3) := by decide +kernel
theorem dX7_plan_16 : decode cX7_plan 16 = .ok (.iload_n 1, 1) := by decide +kernel
theorem dX7_plan_17 : decode cX7_plan 17 = .ok (.iaload, 1) := by decide +kernel
theorem dX7_plan_18 : decode cX7_plan 18 = .ok (.goto 5, 3) := by decide +kernel
theorem dX7_plan_21 : decode cX7_plan 21 = .ok (.bipush (-4), 2) := by decide +kernel
theorem dX7_plan_23 : decode cX7_plan 23 = .ok (.ireturn, 1) := by decide +kernel
set_option maxRecDepth 20000 in
theorem ggX7_count_X5_hereCount : GoodIn wsX7_count wsX5_hereCount := goodIn_r _ [12, 13, 14, 15, 16, 17, 18, 19, 20, 43, 44, 45, 46, 47, 48, 49, 50, 51, 52, 53, 54, 55, 56] (by decide +kernel) (by decide +kernel)
set_option maxRecDepth 20000 in
theorem gX7_count_X5_hereCount : GoodIn wsX7_count (wsV RX7 165 RX5 yX5_hereCount wsX5_hereCount) := goodIn_app (goodIn_of _ (by decide +kernel)) ggX7_count_X5_hereCount
set_option maxRecDepth 20000 in
theorem ggX7_count_X5_lineCount : GoodIn wsX7_count wsX5_lineCount := goodIn_r _ [24, 25, 26, 14, 15, 16, 17, 18, 19, 20, 43, 44, 45, 46, 47, 48, 49, 50, 51, 52, 53, 54, 55, 56] (by decide +kernel) (by decide +kernel)
set_option maxRecDepth 20000 in
theorem gX7_count_X5_lineCount : GoodIn wsX7_count (wsV RX7 70 RX5 yX5_lineCount wsX5_lineCount) := goodIn_app (goodIn_of _ (by decide +kernel)) ggX7_count_X5_lineCount
set_option maxRecDepth 20000 in
theorem ggX7_count_X1_underWayCount : GoodIn wsX7_count wsX1_underWayCount := goodIn_r _ [31, 32, 33, 34, 30, 35, 36, 60, 61, 62] (by decide +kernel) (by decide +kernel)
set_option maxRecDepth 20000 in
theorem gX7_count_X1_underWayCount : GoodIn wsX7_count (wsV RX7 254 RX1 yX1_underWayCount wsX1_underWayCount) := goodIn_app (goodIn_of _ (by decide +kernel)) ggX7_count_X1_underWayCount
theorem dX7_count_0 : decode cX7_count 0 = .ok (.iload_n 1, 1) := by decide +kernel
theorem dX7_count_1 : decode cX7_count 1 = .ok (.tableswitch 102 0 6 #[43, 51, 59, 67, 78, 86, 94], 43) := by decide +kernel
theorem dX7_count_44 : decode cX7_count 44 = .ok (.aload_n 0, 1) := by decide +kernel
theorem dX7_count_45 : decode cX7_count 45 = .ok (.getfield 12, 3) := by decide +kernel
theorem dX7_count_48 : decode cX7_count 48 = .ok (.getfield 49, 3) := by decide +kernel
theorem dX7_count_51 : decode cX7_count 51 = .ok (.ireturn, 1) := by decide +kernel
theorem dX7_count_52 : decode cX7_count 52 = .ok (.aload_n 0, 1) := by decide +kernel
theorem dX7_count_53 : decode cX7_count 53 = .ok (.getfield 12, 3) := by decide +kernel
theorem dX7_count_56 : decode cX7_count 56 = .ok (.invokevirtual 165, 3) := by decide +kernel
theorem dX7_count_59 : decode cX7_count 59 = .ok (.ireturn, 1) := by decide +kernel
theorem dX7_count_60 : decode cX7_count 60 = .ok (.aload_n 0, 1) := by decide +kernel
theorem dX7_count_61 : decode cX7_count 61 = .ok (.getfield 12, 3) := by decide +kernel
theorem dX7_count_64 : decode cX7_count 64 = .ok (.invokevirtual 70, 3) := by decide +kernel
theorem dX7_count_67 : decode cX7_count 67 = .ok (.ireturn, 1) := by decide +kernel
theorem dX7_count_68 : decode cX7_count 68 = .ok (.aload_n 0, 1) := by decide +kernel
theorem dX7_count_69 : decode cX7_count 69 = .ok (.getfield 12, 3) := by decide +kernel
theorem dX7_count_72 : decode cX7_count 72 = .ok (.getfield 74, 3) := by decide +kernel
theorem dX7_count_75 : decode cX7_count 75 = .ok (.invokevirtual 254, 3) := by decide +kernel
theorem dX7_count_78 : decode cX7_count 78 = .ok (.ireturn, 1) := by decide +kernel
theorem dX7_count_79 : decode cX7_count 79 = .ok (.aload_n 0, 1) := by decide +kernel
theorem dX7_count_80 : decode cX7_count 80 = .ok (.getfield 12, 3) := by decide +kernel
theorem dX7_count_83 : decode cX7_count 83 = .ok (.getfield 257, 3) := by decide +kernel
theorem dX7_count_86 : decode cX7_count 86 = .ok (.ireturn, 1) := by decide +kernel
theorem dX7_count_87 : decode cX7_count 87 = .ok (.aload_n 0, 1) := by decide +kernel
theorem dX7_count_88 : decode cX7_count 88 = .ok (.getfield 19, 3) := by decide +kernel
theorem dX7_count_91 : decode cX7_count 91 = .ok (.getfield 172, 3) := by decide +kernel
theorem dX7_count_94 : decode cX7_count 94 = .ok (.ireturn, 1) := by decide +kernel
theorem dX7_count_95 : decode cX7_count 95 = .ok (.aload_n 0, 1) := by decide +kernel
theorem dX7_count_96 : decode cX7_count 96 = .ok (.getfield 12, 3) := by decide +kernel
theorem dX7_count_99 : decode cX7_count 99 = .ok (.getfield 135, 3) := by decide +kernel
theorem dX7_count_102 : decode cX7_count 102 = .ok (.ireturn, 1) := by decide +kernel
theorem dX7_count_103 : decode cX7_count 103 = .ok (.iconst (-1), 1) := by decide +kernel
theorem dX7_count_104 : decode cX7_count 104 = .ok (.ireturn, 1) := by decide +kernel
set_option maxRecDepth 20000 in
theorem ggX7_digest_X7_digestOfMember : GoodIn wsX7_digest wsX7_digestOfMember := goodIn_r _ [10, 2, 11, 12, 13, 14, 15, 16, 17, 18, 19, 20, 21, 22, 23, 24, 25, 9, 26, 27, 28, 29, 30, 31, 32, 33, 34, 35, 36, 37, 38, 39, 40, 76, 77, 78, 79, 80, 81, 82, 83, 84, 85, 86, 87, 88, 89, 90, 91, 92, 93, 94, 95, 96, 97, 98, 99, 100] (by decide +kernel) (by decide +kernel)
set_option maxRecDepth 20000 in
theorem gX7_digest_X7_digestOfMember : GoodIn wsX7_digest (wsV RX7 262 RX7 yX7_digestOfMember wsX7_digestOfMember) := goodIn_app (goodIn_of _ (by decide +kernel)) ggX7_digest_X7_digestOfMember
set_option maxRecDepth 20000 in
theorem ggX7_digest_X7_digestOfLines : GoodIn wsX7_digest wsX7_digestOfLines := goodIn_r _ [44, 2, 3, 45, 46, 47, 21, 48, 49, 24, 25, 9, 26, 27, 76, 77, 78, 79, 80, 81, 82, 83, 84, 85, 86, 87, 88, 89, 90, 91, 92, 93, 94, 95] (by decide +kernel) (by decide +kernel)
set_option maxRecDepth 20000 in
theorem gX7_digest_X7_digestOfLines : GoodIn wsX7_digest (wsV RX7 266 RX7 yX7_digestOfLines wsX7_digestOfLines) := goodIn_app (goodIn_of _ (by decide +kernel)) ggX7_digest_X7_digestOfLines
set_option maxRecDepth 20000 in
theorem ggX7_digest_X7_digestOfBooks : GoodIn wsX7_digest wsX7_digestOfBooks := goodIn_r _ [53, 2, 3, 54, 55, 56, 9, 57, 28, 29, 30, 31, 32, 33, 34, 24, 25, 26, 27, 76, 77, 78, 79, 80, 81, 82, 83, 84, 85, 86, 87, 88, 89, 90, 91, 92, 93, 94, 95, 99, 100] (by decide +kernel) (by decide +kernel)
set_option maxRecDepth 20000 in
theorem gX7_digest_X7_digestOfBooks : GoodIn wsX7_digest (wsV RX7 270 RX7 yX7_digestOfBooks wsX7_digestOfBooks) := goodIn_app (goodIn_of _ (by decide +kernel)) ggX7_digest_X7_digestOfBooks
set_option maxRecDepth 20000 in
theorem ggX7_digest_X7_digestOfLetters : GoodIn wsX7_digest wsX7_digestOfLetters := goodIn_r _ [61, 2, 62, 63, 64, 65, 66, 67, 68, 69, 70, 71, 24, 25, 9, 26, 27, 28, 29, 30, 31, 32, 33, 34, 76, 77, 78, 79, 80, 81, 82, 83, 84, 85, 86, 87, 88, 89, 90, 91, 92, 93, 94, 95, 101, 102, 103, 99, 100] (by decide +kernel) (by decide +kernel)
set_option maxRecDepth 20000 in
theorem gX7_digest_X7_digestOfLetters : GoodIn wsX7_digest (wsV RX7 273 RX7 yX7_digestOfLetters wsX7_digestOfLetters) := goodIn_app (goodIn_of _ (by decide +kernel)) ggX7_digest_X7_digestOfLetters
set_option maxRecDepth 20000 in
theorem ggX7_digest_X3_total : GoodIn wsX7_digest wsX3_total := goodIn_r _ [75, 33, 34, 99, 100] (by decide +kernel) (by decide +kernel)
set_option maxRecDepth 20000 in
theorem gX7_digest_X3_total : GoodIn wsX7_digest (wsV RX7 224 RX3 yX3_total wsX3_total) := goodIn_app (goodIn_of _ (by decide +kernel)) ggX7_digest_X3_total
set_option maxRecDepth 20000 in
theorem ggX7_digest_X7_mixed : GoodIn wsX7_digest wsX7_mixed := goodIn_r _ [26, 27] (by decide +kernel) (by decide +kernel)
set_option maxRecDepth 20000 in
theorem gX7_digest_X7_mixed : GoodIn wsX7_digest (va_wsS RX7 276 yX7_mixed wsX7_mixed) := goodIn_app (goodIn_of _ (by decide +kernel)) ggX7_digest_X7_mixed
theorem dX7_digest_0 : decode cX7_digest 0 = .ok (.ldc2_w 260, 3) := by decide +kernel
theorem dX7_digest_3 : decode cX7_digest 3 = .ok (.lstore_n 1, 1) := by decide +kernel
theorem dX7_digest_4 : decode cX7_digest 4 = .ok (.iconst 0, 1) := by decide +kernel
theorem dX7_digest_5 : decode cX7_digest 5 = .ok (.istore_n 3, 1) := by decide +kernel
theorem dX7_digest_6 : decode cX7_digest 6 = .ok (.iload_n 3, 1) := by decide +kernel
theorem dX7_digest_7 : decode cX7_digest 7 = .ok (.aload_n 0, 1) := by decide +kernel
theorem dX7_digest_8 : decode cX7_digest 8 = .ok (.getfield 12, 3) := by decide +kernel
theorem dX7_digest_11 : decode cX7_digest 11 = .ok (.getfield 49, 3) := by decide +kernel
theorem dX7_digest_14 : decode cX7_digest 14 = .ok (.if_icmp .ge 16, 3) := by decide +kernel
theorem dX7_digest_17 : decode cX7_digest 17 = .ok (.aload_n 0, 1) := by decide +kernel
theorem dX7_digest_18 : decode cX7_digest 18 = .ok (.lload_n 1, 1) := by decide +kernel
theorem dX7_digest_19 : decode cX7_digest 19 = .ok (.iload_n 3, 1) := by decide +kernel
theorem dX7_digest_20 : decode cX7_digest 20 = .ok (.invokevirtual 262, 3) := by decide +kernel
theorem dX7_digest_23 : decode cX7_digest 23 = .ok (.lstore_n 1, 1) := by decide +kernel
theorem dX7_digest_24 : decode cX7_digest 24 = .ok (.iinc 3 1, 3) := by decide +kernel
theorem dX7_digest_27 : decode cX7_digest 27 = .ok (.goto (-21), 3) := by decide +kernel
theorem dX7_digest_30 : decode cX7_digest 30 = .ok (.aload_n 0, 1) := by decide +kernel
theorem dX7_digest_31 : decode cX7_digest 31 = .ok (.lload_n 1, 1) := by decide +kernel
theorem dX7_digest_32 : decode cX7_digest 32 = .ok (.invokevirtual 266, 3) := by decide +kernel
theorem dX7_digest_35 : decode cX7_digest 35 = .ok (.lstore_n 1, 1) := by decide +kernel
theorem dX7_digest_36 : decode cX7_digest 36 = .ok (.aload_n 0, 1) := by decide +kernel
theorem dX7_digest_37 : decode cX7_digest 37 = .ok (.lload_n 1, 1) := by decide +kernel
theorem dX7_digest_38 : decode cX7_digest 38 = .ok (.invokevirtual 270, 3) := by decide +kernel
theorem dX7_digest_41 : decode cX7_digest 41 = .ok (.lstore_n 1, 1) := by decide +kernel
theorem dX7_digest_42 : decode cX7_digest 42 = .ok (.aload_n 0, 1) := by decide +kernel
theorem dX7_digest_43 : decode cX7_digest 43 = .ok (.lload_n 1, 1) := by decide +kernel
theorem dX7_digest_44 : decode cX7_digest 44 = .ok (.invokevirtual 273, 3) := by decide +kernel
theorem dX7_digest_47 : decode cX7_digest 47 = .ok (.lstore_n 1, 1) := by decide +kernel
theorem dX7_digest_48 : decode cX7_digest 48 = .ok (.lload_n 1, 1) := by decide +kernel
theorem dX7_digest_49 : decode cX7_digest 49 = .ok (.aload_n 0, 1) := by decide +kernel
theorem dX7_digest_50 : decode cX7_digest 50 = .ok (.getfield 12, 3) := by decide +kernel
theorem dX7_digest_53 : decode cX7_digest 53 = .ok (.getfield 221, 3) := by decide +kernel
theorem dX7_digest_56 : decode cX7_digest 56 = .ok (.iconst 0, 1) := by decide +kernel
theorem dX7_digest_57 : decode cX7_digest 57 = .ok (.invokevirtual 224, 3) := by decide +kernel
theorem dX7_digest_60 : decode cX7_digest 60 = .ok (.invokestatic 276, 3) := by decide +kernel
theorem dX7_digest_63 : decode cX7_digest 63 = .ok (.lstore_n 1, 1) := by decide +kernel
theorem dX7_digest_64 : decode cX7_digest 64 = .ok (.lload_n 1, 1) := by decide +kernel
theorem dX7_digest_65 : decode cX7_digest 65 = .ok (.aload_n 0, 1) := by decide +kernel
theorem dX7_digest_66 : decode cX7_digest 66 = .ok (.getfield 12, 3) := by decide +kernel
theorem dX7_digest_69 : decode cX7_digest 69 = .ok (.getfield 221, 3) := by decide +kernel
theorem dX7_digest_72 : decode cX7_digest 72 = .ok (.iconst 1, 1) := by decide +kernel
theorem dX7_digest_73 : decode cX7_digest 73 = .ok (.invokevirtual 224, 3) := by decide +kernel
theorem dX7_digest_76 : decode cX7_digest 76 = .ok (.invokestatic 276, 3) := by decide +kernel
theorem dX7_digest_79 : decode cX7_digest 79 = .ok (.lstore_n 1, 1) := by decide +kernel
theorem dX7_digest_80 : decode cX7_digest 80 = .ok (.lload_n 1, 1) := by decide +kernel
theorem dX7_digest_81 : decode cX7_digest 81 = .ok (.aload_n 0, 1) := by decide +kernel
theorem dX7_digest_82 : decode cX7_digest 82 = .ok (.getfield 12, 3) := by decide +kernel
theorem dX7_digest_85 : decode cX7_digest 85 = .ok (.getfield 135, 3) := by decide +kernel
theorem dX7_digest_88 : decode cX7_digest 88 = .ok (.i2l, 1) := by decide +kernel
theorem dX7_digest_89 : decode cX7_digest 89 = .ok (.invokestatic 276, 3) := by decide +kernel
theorem dX7_digest_92 : decode cX7_digest 92 = .ok (.lreturn, 1) := by decide +kernel
theorem dX7_isValue_0 : decode cX7_isValue 0 = .ok (.iload_n 0, 1) := by decide +kernel
theorem dX7_isValue_1 : decode cX7_isValue 1 = .ok (.ldc_w 280, 3) := by decide +kernel
theorem dX7_isValue_4 : decode cX7_isValue 4 = .ok (.if_icmp .lt 14, 3) := by decide +kernel
theorem dX7_isValue_7 : decode cX7_isValue 7 = .ok (.iload_n 0, 1) := by decide +kernel
theorem dX7_isValue_8 : decode cX7_isValue 8 = .ok (.ldc_w 281, 3) := by decide +kernel
theorem dX7_isValue_11 : decode cX7_isValue 11 = .ok (.if_icmp .gt 7, 3) := by decide +kernel
theorem dX7_isValue_14 : decode cX7_isValue 14 = .ok (.iconst 1, 1) := by decide +kernel
theorem dX7_isValue_15 : decode cX7_isValue 15 = .ok (.goto 4, 3) := by decide +kernel
theorem dX7_isValue_18 : decode cX7_isValue 18 = .ok (.iconst 0, 1) := by decide +kernel
theorem dX7_isValue_19 : decode cX7_isValue 19 = .ok (.ireturn, 1) := by decide +kernel
theorem dX7_isKind_0 : decode cX7_isKind 0 = .ok (.iload_n 0, 1) := by decide +kernel
theorem dX7_isKind_1 : decode cX7_isKind 1 = .ok (.ifCond .eq 13, 3) := by decide +kernel
theorem dX7_isKind_4 : decode cX7_isKind 4 = .ok (.iload_n 0, 1) := by decide +kernel
theorem dX7_isKind_5 : decode cX7_isKind 5 = .ok (.iconst 1, 1) := by decide +kernel
theorem dX7_isKind_6 : decode cX7_isKind 6 = .ok (.if_icmp .eq 8, 3) := by decide +kernel
theorem dX7_isKind_9 : decode cX7_isKind 9 = .ok (.iload_n 0, 1) := by decide +kernel
theorem dX7_isKind_10 : decode cX7_isKind 10 = .ok (.iconst 2, 1) := by decide +kernel
theorem dX7_isKind_11 : decode cX7_isKind 11 = .ok (.if_icmp .ne 7, 3) := by decide +kernel
theorem dX7_isKind_14 : decode cX7_isKind 14 = .ok (.iconst 1, 1) := by decide +kernel
theorem dX7_isKind_15 : decode cX7_isKind 15 = .ok (.goto 4, 3) := by decide +kernel
theorem dX7_isKind_18 : decode cX7_isKind 18 = .ok (.iconst 0, 1) := by decide +kernel
theorem dX7_isKind_19 : decode cX7_isKind 19 = .ok (.ireturn, 1) := by decide +kernel
theorem dX7_pair_0 : decode cX7_pair 0 = .ok (.iload_n 0, 1) := by decide +kernel
theorem dX7_pair_1 : decode cX7_pair 1 = .ok (.bipush 10, 2) := by decide +kernel
theorem dX7_pair_3 : decode cX7_pair 3 = .ok (.imul, 1) := by decide +kernel
theorem dX7_pair_4 : decode cX7_pair 4 = .ok (.iload_n 1, 1) := by decide +kernel
theorem dX7_pair_5 : decode cX7_pair 5 = .ok (.iadd, 1) := by decide +kernel
theorem dX7_pair_6 : decode cX7_pair 6 = .ok (.ireturn, 1) := by decide +kernel
theorem dX7_isMember_0 : decode cX7_isMember 0 = .ok (.iload_n 1, 1) := by decide +kernel
theorem dX7_isMember_1 : decode cX7_isMember 1 = .ok (.ifCond .lt 18, 3) := by decide +kernel
theorem dX7_isMember_4 : decode cX7_isMember 4 = .ok (.iload_n 1, 1) := by decide +kernel
theorem dX7_isMember_5 : decode cX7_isMember 5 = .ok (.aload_n 0, 1) := by decide +kernel
theorem dX7_isMember_6 : decode cX7_isMember 6 = .ok (.getfield 12, 3) := by decide +kernel
theorem dX7_isMember_9 : decode cX7_isMember 9 = .ok (.getfield 49, 3) := by decide +kernel
theorem dX7_isMember_12 : decode cX7_isMember 12 = .ok (.if_icmp .ge 7, 3) := by decide +kernel
theorem dX7_isMember_15 : decode cX7_isMember 15 = .ok (.iconst 1, 1) := by decide +kernel
theorem dX7_isMember_16 : decode cX7_isMember 16 = .ok (.goto 4, 3) := by decide +kernel
theorem dX7_isMember_19 : decode cX7_isMember 19 = .ok (.iconst 0, 1) := by decide +kernel
theorem dX7_isMember_20 : decode cX7_isMember 20 = .ok (.ireturn, 1) := by decide +kernel
set_option maxRecDepth 20000 in
theorem ggX7_areTwo_X7_isMember : GoodIn wsX7_areTwo wsX7_isMember := goodIn_r _ [5, 6, 7, 8, 9, 10, 11, 12, 13, 14, 15, 16, 17, 18, 19, 20, 21, 22, 23, 24, 25, 26, 27] (by decide +kernel) (by decide +kernel)
set_option maxRecDepth 20000 in
theorem gX7_areTwo_X7_isMember : GoodIn wsX7_areTwo (wsV RX7 92 RX7 yX7_isMember wsX7_isMember) := goodIn_app (goodIn_of _ (by decide +kernel)) ggX7_areTwo_X7_isMember
theorem dX7_areTwo_0 : decode cX7_areTwo 0 = .ok (.aload_n 0, 1) := by decide +kernel
theorem dX7_areTwo_1 : decode cX7_areTwo 1 = .ok (.iload_n 1, 1) := by decide +kernel
theorem dX7_areTwo_2 : decode cX7_areTwo 2 = .ok (.invokevirtual 92, 3) := by decide +kernel
theorem dX7_areTwo_5 : decode cX7_areTwo 5 = .ok (.ifCond .eq 20, 3) := by decide +kernel
theorem dX7_areTwo_8 : decode cX7_areTwo 8 = .ok (.aload_n 0, 1) := by decide +kernel
theorem dX7_areTwo_9 : decode cX7_areTwo 9 = .ok (.iload_n 2, 1) := by decide +kernel
theorem dX7_areTwo_10 : decode cX7_areTwo 10 = .ok (.invokevirtual 92, 3) := by decide +kernel
theorem dX7_areTwo_13 : decode cX7_areTwo 13 = .ok (.ifCond .eq 12, 3) := by decide +kernel
theorem dX7_areTwo_16 : decode cX7_areTwo 16 = .ok (.iload_n 1, 1) := by decide +kernel
theorem dX7_areTwo_17 : decode cX7_areTwo 17 = .ok (.iload_n 2, 1) := by decide +kernel
theorem dX7_areTwo_18 : decode cX7_areTwo 18 = .ok (.if_icmp .eq 7, 3) := by decide +kernel
theorem dX7_areTwo_21 : decode cX7_areTwo 21 = .ok (.iconst 1, 1) := by decide +kernel
theorem dX7_areTwo_22 : decode cX7_areTwo 22 = .ok (.goto 4, 3) := by decide +kernel
theorem dX7_areTwo_25 : decode cX7_areTwo 25 = .ok (.iconst 0, 1) := by decide +kernel
theorem dX7_areTwo_26 : decode cX7_areTwo 26 = .ok (.ireturn, 1) := by decide +kernel
set_option maxRecDepth 20000 in
theorem ggX7_isHere_X7_isMember : GoodIn wsX7_isHere wsX7_isMember := goodIn_r _ [6, 1, 7, 14, 15, 16, 17, 18, 19, 20, 21, 22, 23, 24, 25, 26, 27, 28, 29, 30, 31, 32, 33] (by decide +kernel) (by decide +kernel)
set_option maxRecDepth 20000 in
theorem gX7_isHere_X7_isMember : GoodIn wsX7_isHere (wsV RX7 92 RX7 yX7_isMember wsX7_isMember) := goodIn_app (goodIn_of _ (by decide +kernel)) ggX7_isHere_X7_isMember
set_option maxRecDepth 20000 in
theorem ggX7_isHere_X5_isHere : GoodIn wsX7_isHere wsX5_isHere := goodIn_r _ [12, 13, 20, 21, 22, 23, 24, 25, 26, 27, 28, 29, 30, 31, 32, 33] (by decide +kernel) (by decide +kernel)
set_option maxRecDepth 20000 in
theorem gX7_isHere_X5_isHere : GoodIn wsX7_isHere (wsV RX7 95 RX5 yX5_isHere wsX5_isHere) := goodIn_app (goodIn_of _ (by decide +kernel)) ggX7_isHere_X5_isHere
theorem dX7_isHere_0 : decode cX7_isHere 0 = .ok (.aload_n 0, 1) := by decide +kernel
theorem dX7_isHere_1 : decode cX7_isHere 1 = .ok (.iload_n 1, 1) := by decide +kernel
theorem dX7_isHere_2 : decode cX7_isHere 2 = .ok (.invokevirtual 92, 3) := by decide +kernel
theorem dX7_isHere_5 : decode cX7_isHere 5 = .ok (.ifCond .eq 18, 3) := by decide +kernel
theorem dX7_isHere_8 : decode cX7_isHere 8 = .ok (.aload_n 0, 1) := by decide +kernel
theorem dX7_isHere_9 : decode cX7_isHere 9 = .ok (.getfield 12, 3) := by decide +kernel
theorem dX7_isHere_12 : decode cX7_isHere 12 = .ok (.iload_n 1, 1) := by decide +kernel
theorem dX7_isHere_13 : decode cX7_isHere 13 = .ok (.invokevirtual 95, 3) := by decide +kernel
theorem dX7_isHere_16 : decode cX7_isHere 16 = .ok (.ifCond .eq 7, 3) := by decide +kernel
theorem dX7_isHere_19 : decode cX7_isHere 19 = .ok (.iconst 1, 1) := by decide +kernel
theorem dX7_isHere_20 : decode cX7_isHere 20 = .ok (.goto 4, 3) := by decide +kernel
theorem dX7_isHere_23 : decode cX7_isHere 23 = .ok (.iconst 0, 1) := by decide +kernel
theorem dX7_isHere_24 : decode cX7_isHere 24 = .ok (.ireturn, 1) := by decide +kernel
set_option maxRecDepth 20000 in
theorem ggX7_converseByTheSeed_X5_nextDrawn : GoodIn wsX7_converseByTheSeed wsX5_nextDrawn := goodIn_r _ [10, 11, 12, 13, 101, 102, 103, 104, 105, 106, 107, 108, 109, 110, 111, 112, 113, 114] (by decide +kernel) (by decide +kernel)
set_option maxRecDepth 20000 in
theorem gX7_converseByTheSeed_X5_nextDrawn : GoodIn wsX7_converseByTheSeed (wsV RX7 157 RX5 yX5_nextDrawn wsX5_nextDrawn) := goodIn_app (goodIn_of _ (by decide +kernel)) ggX7_converseByTheSeed_X5_nextDrawn
set_option maxRecDepth 20000 in
theorem ggX7_converseByTheSeed_X5_converse : GoodIn wsX7_converseByTheSeed wsX5_converse := goodIn_r _ [17, 18, 19, 20, 21, 22, 9, 23, 24, 25, 26, 27, 28, 29, 30, 31, 32, 33, 34, 35, 36, 37, 38, 39, 40, 41, 42, 43, 44, 45, 46, 47, 48, 49, 50, 51, 52, 53, 54, 55, 56, 57, 58, 59, 60, 61, 62, 63, 64, 65, 66, 67, 68, 69, 70, 71, 72, 73, 74, 75, 76, 77, 78, 79, 80, 81, 82, 83, 84, 85, 86, 87, 88, 89, 90, 91, 101, 102, 103, 104, 105, 106, 107, 108, 109, 110, 111, 112, 113, 114, 115, 116, 117, 118, 119] (by decide +kernel) (by decide +kernel)
set_option maxRecDepth 20000 in
theorem gX7_converseByTheSeed_X5_converse : GoodIn wsX7_converseByTheSeed (wsV RX7 109 RX5 yX5_converse wsX5_converse) := goodIn_app (goodIn_of _ (by decide +kernel)) ggX7_converseByTheSeed_X5_converse
theorem dX7_converseByTheSeed_0 : decode cX7_converseByTheSeed 0 = .ok (.aload_n 0, 1) := by decide +kernel
theorem dX7_converseByTheSeed_1 : decode cX7_converseByTheSeed 1 = .ok (.getfield 26, 3) := by decide +kernel
theorem dX7_converseByTheSeed_4 : decode cX7_converseByTheSeed 4 = .ok (.getfield 141, 3) := by decide +kernel
theorem dX7_converseByTheSeed_7 : decode cX7_converseByTheSeed 7 = .ok (.ifCond .gt 4, 3) := by decide +kernel
theorem dX7_converseByTheSeed_10 : decode cX7_converseByTheSeed 10 = .ok (.return_, 1) := by decide +kernel
theorem dX7_converseByTheSeed_11 : decode cX7_converseByTheSeed 11 = .ok (.aload_n 0, 1) := by decide +kernel
theorem dX7_converseByTheSeed_12 : decode cX7_converseByTheSeed 12 = .ok (.getfield 12, 3) := by decide +kernel
theorem dX7_converseByTheSeed_15 : decode cX7_converseByTheSeed 15 = .ok (.invokevirtual 157, 3) := by decide +kernel
theorem dX7_converseByTheSeed_18 : decode cX7_converseByTheSeed 18 = .ok (.aload_n 0, 1) := by decide +kernel
theorem dX7_converseByTheSeed_19 : decode cX7_converseByTheSeed 19 = .ok (.getfield 26, 3) := by decide +kernel
theorem dX7_converseByTheSeed_22 : decode cX7_converseByTheSeed 22 = .ok (.getfield 141, 3) := by decide +kernel
theorem dX7_converseByTheSeed_25 : decode cX7_converseByTheSeed 25 = .ok (.irem, 1) := by decide +kernel
theorem dX7_converseByTheSeed_26 : decode cX7_converseByTheSeed 26 = .ok (.istore_n 2, 1) := by decide +kernel
theorem dX7_converseByTheSeed_27 : decode cX7_converseByTheSeed 27 = .ok (.aload_n 0, 1) := by decide +kernel
theorem dX7_converseByTheSeed_28 : decode cX7_converseByTheSeed 28 = .ok (.getfield 12, 3) := by decide +kernel
theorem dX7_converseByTheSeed_31 : decode cX7_converseByTheSeed 31 = .ok (.invokevirtual 157, 3) := by decide +kernel
theorem dX7_converseByTheSeed_34 : decode cX7_converseByTheSeed 34 = .ok (.iconst 2, 1) := by decide +kernel
theorem dX7_converseByTheSeed_35 : decode cX7_converseByTheSeed 35 = .ok (.irem, 1) := by decide +kernel
theorem dX7_converseByTheSeed_36 : decode cX7_converseByTheSeed 36 = .ok (.ifCond .ne 7, 3) := by decide +kernel
theorem dX7_converseByTheSeed_39 : decode cX7_converseByTheSeed 39 = .ok (.iconst 1, 1) := by decide +kernel
theorem dX7_converseByTheSeed_40 : decode cX7_converseByTheSeed 40 = .ok (.goto 4, 3) := by decide +kernel
theorem dX7_converseByTheSeed_43 : decode cX7_converseByTheSeed 43 = .ok (.iconst 0, 1) := by decide +kernel
theorem dX7_converseByTheSeed_44 : decode cX7_converseByTheSeed 44 = .ok (.istore_n 3, 1) := by decide +kernel
theorem dX7_converseByTheSeed_45 : decode cX7_converseByTheSeed 45 = .ok (.aload_n 0, 1) := by decide +kernel
theorem dX7_converseByTheSeed_46 : decode cX7_converseByTheSeed 46 = .ok (.getfield 26, 3) := by decide +kernel
theorem dX7_converseByTheSeed_49 : decode cX7_converseByTheSeed 49 = .ok (.getfield 282, 3) := by decide +kernel
theorem dX7_converseByTheSeed_52 : decode cX7_converseByTheSeed 52 = .ok (.iload_n 2, 1) := by decide +kernel
theorem dX7_converseByTheSeed_53 : decode cX7_converseByTheSeed 53 = .ok (.iaload, 1) := by decide +kernel
theorem dX7_converseByTheSeed_54 : decode cX7_converseByTheSeed 54 = .ok (.istore 4, 2) := by decide +kernel
theorem dX7_converseByTheSeed_56 : decode cX7_converseByTheSeed 56 = .ok (.aload_n 0, 1) := by decide +kernel
theorem dX7_converseByTheSeed_57 : decode cX7_converseByTheSeed 57 = .ok (.getfield 26, 3) := by decide +kernel
theorem dX7_converseByTheSeed_60 : decode cX7_converseByTheSeed 60 = .ok (.getfield 285, 3) := by decide +kernel
theorem dX7_converseByTheSeed_63 : decode cX7_converseByTheSeed 63 = .ok (.iload_n 2, 1) := by decide +kernel
theorem dX7_converseByTheSeed_64 : decode cX7_converseByTheSeed 64 = .ok (.iaload, 1) := by decide +kernel
theorem dX7_converseByTheSeed_65 : decode cX7_converseByTheSeed 65 = .ok (.istore 5, 2) := by decide +kernel
theorem dX7_converseByTheSeed_67 : decode cX7_converseByTheSeed 67 = .ok (.iload_n 3, 1) := by decide +kernel
theorem dX7_converseByTheSeed_68 : decode cX7_converseByTheSeed 68 = .ok (.ifCond .eq 18, 3) := by decide +kernel
theorem dX7_converseByTheSeed_71 : decode cX7_converseByTheSeed 71 = .ok (.aload_n 0, 1) := by decide +kernel
theorem dX7_converseByTheSeed_72 : decode cX7_converseByTheSeed 72 = .ok (.getfield 12, 3) := by decide +kernel
theorem dX7_converseByTheSeed_75 : decode cX7_converseByTheSeed 75 = .ok (.iload_n 1, 1) := by decide +kernel
theorem dX7_converseByTheSeed_76 : decode cX7_converseByTheSeed 76 = .ok (.iload 4, 2) := by decide +kernel
theorem dX7_converseByTheSeed_78 : decode cX7_converseByTheSeed 78 = .ok (.iload 5, 2) := by decide +kernel
theorem dX7_converseByTheSeed_80 : decode cX7_converseByTheSeed 80 = .ok (.invokevirtual 109, 3) := by decide +kernel
theorem dX7_converseByTheSeed_83 : decode cX7_converseByTheSeed 83 = .ok (.goto 15, 3) := by decide +kernel
theorem dX7_converseByTheSeed_86 : decode cX7_converseByTheSeed 86 = .ok (.aload_n 0, 1) := by decide +kernel
theorem dX7_converseByTheSeed_87 : decode cX7_converseByTheSeed 87 = .ok (.getfield 12, 3) := by decide +kernel
theorem dX7_converseByTheSeed_90 : decode cX7_converseByTheSeed 90 = .ok (.iload_n 1, 1) := by decide +kernel
theorem dX7_converseByTheSeed_91 : decode cX7_converseByTheSeed 91 = .ok (.iload 5, 2) := by decide +kernel
theorem dX7_converseByTheSeed_93 : decode cX7_converseByTheSeed 93 = .ok (.iload 4, 2) := by decide +kernel
theorem dX7_converseByTheSeed_95 : decode cX7_converseByTheSeed 95 = .ok (.invokevirtual 109, 3) := by decide +kernel
theorem dX7_converseByTheSeed_98 : decode cX7_converseByTheSeed 98 = .ok (.return_, 1) := by decide +kernel
set_option maxRecDepth 20000 in
theorem ggX7_converseOverAll_X5_converse : GoodIn wsX7_converseOverAll wsX5_converse := goodIn_r _ [10, 11, 12, 13, 14, 15, 9, 16, 17, 18, 19, 20, 21, 22, 23, 24, 25, 26, 27, 28, 29, 30, 31, 32, 33, 34, 35, 36, 37, 38, 39, 40, 41, 42, 43, 44, 45, 46, 47, 48, 49, 50, 51, 52, 53, 54, 55, 56, 57, 58, 59, 60, 61, 62, 63, 64, 65, 66, 67, 68, 69, 70, 71, 72, 73, 74, 75, 76, 77, 78, 79, 80, 81, 82, 83, 84, 94, 95, 96, 97, 98, 99, 100, 101, 102, 103, 104, 105, 106, 107, 108, 109, 110, 111, 112] (by decide +kernel) (by decide +kernel)
set_option maxRecDepth 20000 in
theorem gX7_converseOverAll_X5_converse : GoodIn wsX7_converseOverAll (wsV RX7 109 RX5 yX5_converse wsX5_converse) := goodIn_app (goodIn_of _ (by decide +kernel)) ggX7_converseOverAll_X5_converse
theorem dX7_converseOverAll_0 : decode cX7_converseOverAll 0 = .ok (.iconst 0, 1) := by decide +kernel
theorem dX7_converseOverAll_1 : decode cX7_converseOverAll 1 = .ok (.istore_n 2, 1) := by decide +kernel
theorem dX7_converseOverAll_2 : decode cX7_converseOverAll 2 = .ok (.iload_n 2, 1) := by decide +kernel
theorem dX7_converseOverAll_3 : decode cX7_converseOverAll 3 = .ok (.aload_n 0, 1) := by decide +kernel
theorem dX7_converseOverAll_4 : decode cX7_converseOverAll 4 = .ok (.getfield 26, 3) := by decide +kernel
theorem dX7_converseOverAll_7 : decode cX7_converseOverAll 7 = .ok (.getfield 141, 3) := by decide +kernel
theorem dX7_converseOverAll_10 : decode cX7_converseOverAll 10 = .ok (.if_icmp .ge 35, 3) := by decide +kernel
theorem dX7_converseOverAll_13 : decode cX7_converseOverAll 13 = .ok (.aload_n 0, 1) := by decide +kernel
theorem dX7_converseOverAll_14 : decode cX7_converseOverAll 14 = .ok (.getfield 12, 3) := by decide +kernel
theorem dX7_converseOverAll_17 : decode cX7_converseOverAll 17 = .ok (.iload_n 1, 1) := by decide +kernel
theorem dX7_converseOverAll_18 : decode cX7_converseOverAll 18 = .ok (.aload_n 0, 1) := by decide +kernel
theorem dX7_converseOverAll_19 : decode cX7_converseOverAll 19 = .ok (.getfield 26, 3) := by decide +kernel
theorem dX7_converseOverAll_22 : decode cX7_converseOverAll 22 = .ok (.getfield 282, 3) := by decide +kernel
theorem dX7_converseOverAll_25 : decode cX7_converseOverAll 25 = .ok (.iload_n 2, 1) := by decide +kernel
theorem dX7_converseOverAll_26 : decode cX7_converseOverAll 26 = .ok (.iaload, 1) := by decide +kernel
theorem dX7_converseOverAll_27 : decode cX7_converseOverAll 27 = .ok (.aload_n 0, 1) := by decide +kernel
theorem dX7_converseOverAll_28 : decode cX7_converseOverAll 28 = .ok (.getfield 26, 3) := by decide +kernel
theorem dX7_converseOverAll_31 : decode cX7_converseOverAll 31 = .ok (.getfield 285, 3) := by decide +kernel
theorem dX7_converseOverAll_34 : decode cX7_converseOverAll 34 = .ok (.iload_n 2, 1) := by decide +kernel
theorem dX7_converseOverAll_35 : decode cX7_converseOverAll 35 = .ok (.iaload, 1) := by decide +kernel
theorem dX7_converseOverAll_36 : decode cX7_converseOverAll 36 = .ok (.invokevirtual 109, 3) := by decide +kernel
theorem dX7_converseOverAll_39 : decode cX7_converseOverAll 39 = .ok (.iinc 2 1, 3) := by decide +kernel
theorem dX7_converseOverAll_42 : decode cX7_converseOverAll 42 = .ok (.goto (-40), 3) := by decide +kernel
theorem dX7_converseOverAll_45 : decode cX7_converseOverAll 45 = .ok (.return_, 1) := by decide +kernel
set_option maxRecDepth 20000 in
theorem ggX7_hasGuess_X7_isHere : GoodIn wsX7_hasGuess wsX7_isHere := goodIn_r _ [7, 1, 8, 9, 10, 6, 11, 12, 13, 14, 15, 16, 17, 18, 26, 27, 28, 29, 30, 31, 32, 33, 34, 35, 36, 37, 38, 39, 40, 41, 42, 43, 44, 45] (by decide +kernel) (by decide +kernel)
set_option maxRecDepth 20000 in
theorem gX7_hasGuess_X7_isHere : GoodIn wsX7_hasGuess (wsV RX7 86 RX7 yX7_isHere wsX7_isHere) := goodIn_app (goodIn_of _ (by decide +kernel)) ggX7_hasGuess_X7_isHere
set_option maxRecDepth 20000 in
theorem ggX7_hasGuess_X3_at : GoodIn wsX7_hasGuess wsX3_at := goodIn_r _ [23, 24, 25, 46, 47] (by decide +kernel) (by decide +kernel)
set_option maxRecDepth 20000 in
theorem gX7_hasGuess_X3_at : GoodIn wsX7_hasGuess (wsV RX7 192 RX3 yX3_at wsX3_at) := goodIn_app (goodIn_of _ (by decide +kernel)) ggX7_hasGuess_X3_at
theorem dX7_hasGuess_0 : decode cX7_hasGuess 0 = .ok (.aload_n 0, 1) := by decide +kernel
theorem dX7_hasGuess_1 : decode cX7_hasGuess 1 = .ok (.iload_n 1, 1) := by decide +kernel
theorem dX7_hasGuess_2 : decode cX7_hasGuess 2 = .ok (.invokevirtual 86, 3) := by decide +kernel
theorem dX7_hasGuess_5 : decode cX7_hasGuess 5 = .ok (.ifCond .eq 24, 3) := by decide +kernel
theorem dX7_hasGuess_8 : decode cX7_hasGuess 8 = .ok (.aload_n 0, 1) := by decide +kernel
theorem dX7_hasGuess_9 : decode cX7_hasGuess 9 = .ok (.getfield 12, 3) := by decide +kernel
theorem dX7_hasGuess_12 : decode cX7_hasGuess 12 = .ok (.getfield 188, 3) := by decide +kernel
theorem dX7_hasGuess_15 : decode cX7_hasGuess 15 = .ok (.iload_n 1, 1) := by decide +kernel
theorem dX7_hasGuess_16 : decode cX7_hasGuess 16 = .ok (.iconst 1, 1) := by decide +kernel
theorem dX7_hasGuess_17 : decode cX7_hasGuess 17 = .ok (.invokevirtual 192, 3) := by decide +kernel
theorem dX7_hasGuess_20 : decode cX7_hasGuess 20 = .ok (.lconst 0, 1) := by decide +kernel
theorem dX7_hasGuess_21 : decode cX7_hasGuess 21 = .ok (.lcmp, 1) := by decide +kernel
theorem dX7_hasGuess_22 : decode cX7_hasGuess 22 = .ok (.ifCond .le 7, 3) := by decide +kernel
theorem dX7_hasGuess_25 : decode cX7_hasGuess 25 = .ok (.iconst 1, 1) := by decide +kernel
theorem dX7_hasGuess_26 : decode cX7_hasGuess 26 = .ok (.goto 4, 3) := by decide +kernel
theorem dX7_hasGuess_29 : decode cX7_hasGuess 29 = .ok (.iconst 0, 1) := by decide +kernel
theorem dX7_hasGuess_30 : decode cX7_hasGuess 30 = .ok (.ireturn, 1) := by decide +kernel
set_option maxRecDepth 20000 in
theorem ggX7_guessOf_X3_at : GoodIn wsX7_guessOf wsX3_at := goodIn_r _ [7, 8, 9, 30, 31] (by decide +kernel) (by decide +kernel)
set_option maxRecDepth 20000 in
theorem gX7_guessOf_X3_at : GoodIn wsX7_guessOf (wsV RX7 192 RX3 yX3_at wsX3_at) := goodIn_app (goodIn_of _ (by decide +kernel)) ggX7_guessOf_X3_at
theorem dX7_guessOf_0 : decode cX7_guessOf 0 = .ok (.aload_n 0, 1) := by decide +kernel
theorem dX7_guessOf_1 : decode cX7_guessOf 1 = .ok (.getfield 12, 3) := by decide +kernel
theorem dX7_guessOf_4 : decode cX7_guessOf 4 = .ok (.getfield 188, 3) := by decide +kernel
theorem dX7_guessOf_7 : decode cX7_guessOf 7 = .ok (.iload_n 1, 1) := by decide +kernel
theorem dX7_guessOf_8 : decode cX7_guessOf 8 = .ok (.iconst 0, 1) := by decide +kernel
theorem dX7_guessOf_9 : decode cX7_guessOf 9 = .ok (.invokevirtual 192, 3) := by decide +kernel
theorem dX7_guessOf_12 : decode cX7_guessOf 12 = .ok (.l2d, 1) := by decide +kernel
theorem dX7_guessOf_13 : decode cX7_guessOf 13 = .ok (.aload_n 0, 1) := by decide +kernel
theorem dX7_guessOf_14 : decode cX7_guessOf 14 = .ok (.getfield 12, 3) := by decide +kernel
theorem dX7_guessOf_17 : decode cX7_guessOf 17 = .ok (.getfield 188, 3) := by decide +kernel
theorem dX7_guessOf_20 : decode cX7_guessOf 20 = .ok (.iload_n 1, 1) := by decide +kernel
theorem dX7_guessOf_21 : decode cX7_guessOf 21 = .ok (.iconst 1, 1) := by decide +kernel
theorem dX7_guessOf_22 : decode cX7_guessOf 22 = .ok (.invokevirtual 192, 3) := by decide +kernel
theorem dX7_guessOf_25 : decode cX7_guessOf 25 = .ok (.l2d, 1) := by decide +kernel
theorem dX7_guessOf_26 : decode cX7_guessOf 26 = .ok (.ddiv, 1) := by decide +kernel
theorem dX7_guessOf_27 : decode cX7_guessOf 27 = .ok (.dreturn, 1) := by decide +kernel
theorem dX7_bitsOf_0 : decode cX7_bitsOf 0 = .ok (.dload_n 0, 1) := by decide +kernel
theorem dX7_bitsOf_1 : decode cX7_bitsOf 1 = .ok (.dconst 0, 1) := by decide +kernel
theorem dX7_bitsOf_2 : decode cX7_bitsOf 2 = .ok (.dcmp .l, 1) := by decide +kernel
theorem dX7_bitsOf_3 : decode cX7_bitsOf 3 = .ok (.ifCond .ne 5, 3) := by decide +kernel
theorem dX7_bitsOf_6 : decode cX7_bitsOf 6 = .ok (.lconst 0, 1) := by decide +kernel
theorem dX7_bitsOf_7 : decode cX7_bitsOf 7 = .ok (.lreturn, 1) := by decide +kernel
theorem dX7_bitsOf_8 : decode cX7_bitsOf 8 = .ok (.dload_n 0, 1) := by decide +kernel
theorem dX7_bitsOf_9 : decode cX7_bitsOf 9 = .ok (.dconst 0, 1) := by decide +kernel
theorem dX7_bitsOf_10 : decode cX7_bitsOf 10 = .ok (.dcmp .g, 1) := by decide +kernel
theorem dX7_bitsOf_11 : decode cX7_bitsOf 11 = .ok (.ifCond .ge 8, 3) := by decide +kernel
theorem dX7_bitsOf_14 : decode cX7_bitsOf 14 = .ok (.dload_n 0, 1) := by decide +kernel
theorem dX7_bitsOf_15 : decode cX7_bitsOf 15 = .ok (.dneg, 1) := by decide +kernel
theorem dX7_bitsOf_16 : decode cX7_bitsOf 16 = .ok (.goto 4, 3) := by decide +kernel
theorem dX7_bitsOf_19 : decode cX7_bitsOf 19 = .ok (.dload_n 0, 1) := by decide +kernel
theorem dX7_bitsOf_20 : decode cX7_bitsOf 20 = .ok (.dstore_n 2, 1) := by decide +kernel
theorem dX7_bitsOf_21 : decode cX7_bitsOf 21 = .ok (.iconst 0, 1) := by decide +kernel
theorem dX7_bitsOf_22 : decode cX7_bitsOf 22 = .ok (.istore 4, 2) := by decide +kernel
theorem dX7_bitsOf_24 : decode cX7_bitsOf 24 = .ok (.dload_n 2, 1) := by decide +kernel
theorem dX7_bitsOf_25 : decode cX7_bitsOf 25 = .ok (.ldc2_w 288, 3) := by decide +kernel
theorem dX7_bitsOf_28 : decode cX7_bitsOf 28 = .ok (.dcmp .l, 1) := by decide +kernel
theorem dX7_bitsOf_29 : decode cX7_bitsOf 29 = .ok (.ifCond .lt 23, 3) := by decide +kernel
theorem dX7_bitsOf_32 : decode cX7_bitsOf 32 = .ok (.iload 4, 2) := by decide +kernel
theorem dX7_bitsOf_34 : decode cX7_bitsOf 34 = .ok (.sipush 1023, 3) := by decide +kernel
theorem dX7_bitsOf_37 : decode cX7_bitsOf 37 = .ok (.if_icmp .ge 15, 3) := by decide +kernel
theorem dX7_bitsOf_40 : decode cX7_bitsOf 40 = .ok (.dload_n 2, 1) := by decide +kernel
theorem dX7_bitsOf_41 : decode cX7_bitsOf 41 = .ok (.ldc2_w 290, 3) := by decide +kernel
theorem dX7_bitsOf_44 : decode cX7_bitsOf 44 = .ok (.dmul, 1) := by decide +kernel
theorem dX7_bitsOf_45 : decode cX7_bitsOf 45 = .ok (.dstore_n 2, 1) := by decide +kernel
theorem dX7_bitsOf_46 : decode cX7_bitsOf 46 = .ok (.iinc 4 1, 3) := by decide +kernel
theorem dX7_bitsOf_49 : decode cX7_bitsOf 49 = .ok (.goto (-25), 3) := by decide +kernel
theorem dX7_bitsOf_52 : decode cX7_bitsOf 52 = .ok (.dload_n 2, 1) := by decide +kernel
theorem dX7_bitsOf_53 : decode cX7_bitsOf 53 = .ok (.dconst 1, 1) := by decide +kernel
theorem dX7_bitsOf_54 : decode cX7_bitsOf 54 = .ok (.dcmp .g, 1) := by decide +kernel
theorem dX7_bitsOf_55 : decode cX7_bitsOf 55 = .ok (.ifCond .ge 23, 3) := by decide +kernel
theorem dX7_bitsOf_58 : decode cX7_bitsOf 58 = .ok (.iload 4, 2) := by decide +kernel
theorem dX7_bitsOf_60 : decode cX7_bitsOf 60 = .ok (.sipush (-1022), 3) := by decide +kernel
theorem dX7_bitsOf_63 : decode cX7_bitsOf 63 = .ok (.if_icmp .le 15, 3) := by decide +kernel
theorem dX7_bitsOf_66 : decode cX7_bitsOf 66 = .ok (.dload_n 2, 1) := by decide +kernel
theorem dX7_bitsOf_67 : decode cX7_bitsOf 67 = .ok (.ldc2_w 288, 3) := by decide +kernel
theorem dX7_bitsOf_70 : decode cX7_bitsOf 70 = .ok (.dmul, 1) := by decide +kernel
theorem dX7_bitsOf_71 : decode cX7_bitsOf 71 = .ok (.dstore_n 2, 1) := by decide +kernel
theorem dX7_bitsOf_72 : decode cX7_bitsOf 72 = .ok (.iinc 4 (-1), 3) := by decide +kernel
theorem dX7_bitsOf_75 : decode cX7_bitsOf 75 = .ok (.goto (-23), 3) := by decide +kernel
theorem dX7_bitsOf_78 : decode cX7_bitsOf 78 = .ok (.iload 4, 2) := by decide +kernel
theorem dX7_bitsOf_80 : decode cX7_bitsOf 80 = .ok (.sipush 1023, 3) := by decide +kernel
theorem dX7_bitsOf_83 : decode cX7_bitsOf 83 = .ok (.iadd, 1) := by decide +kernel
theorem dX7_bitsOf_84 : decode cX7_bitsOf 84 = .ok (.i2l, 1) := by decide +kernel
theorem dX7_bitsOf_85 : decode cX7_bitsOf 85 = .ok (.bipush 52, 2) := by decide +kernel
theorem dX7_bitsOf_87 : decode cX7_bitsOf 87 = .ok (.lshl, 1) := by decide +kernel
theorem dX7_bitsOf_88 : decode cX7_bitsOf 88 = .ok (.lstore 5, 2) := by decide +kernel
theorem dX7_bitsOf_90 : decode cX7_bitsOf 90 = .ok (.lload 5, 2) := by decide +kernel
theorem dX7_bitsOf_92 : decode cX7_bitsOf 92 = .ok (.dload_n 2, 1) := by decide +kernel
theorem dX7_bitsOf_93 : decode cX7_bitsOf 93 = .ok (.dconst 1, 1) := by decide +kernel
theorem dX7_bitsOf_94 : decode cX7_bitsOf 94 = .ok (.dsub, 1) := by decide +kernel
theorem dX7_bitsOf_95 : decode cX7_bitsOf 95 = .ok (.ldc2_w 292, 3) := by decide +kernel
theorem dX7_bitsOf_98 : decode cX7_bitsOf 98 = .ok (.dmul, 1) := by decide +kernel
theorem dX7_bitsOf_99 : decode cX7_bitsOf 99 = .ok (.d2l, 1) := by decide +kernel
theorem dX7_bitsOf_100 : decode cX7_bitsOf 100 = .ok (.ladd, 1) := by decide +kernel
theorem dX7_bitsOf_101 : decode cX7_bitsOf 101 = .ok (.lstore 5, 2) := by decide +kernel
theorem dX7_bitsOf_103 : decode cX7_bitsOf 103 = .ok (.dload_n 0, 1) := by decide +kernel
theorem dX7_bitsOf_104 : decode cX7_bitsOf 104 = .ok (.dconst 0, 1) := by decide +kernel
theorem dX7_bitsOf_105 : decode cX7_bitsOf 105 = .ok (.dcmp .g, 1) := by decide +kernel
theorem dX7_bitsOf_106 : decode cX7_bitsOf 106 = .ok (.ifCond .ge 12, 3) := by decide +kernel
theorem dX7_bitsOf_109 : decode cX7_bitsOf 109 = .ok (.lload 5, 2) := by decide +kernel
theorem dX7_bitsOf_111 : decode cX7_bitsOf 111 = .ok (.ldc2_w 294, 3) := by decide +kernel
theorem dX7_bitsOf_114 : decode cX7_bitsOf 114 = .ok (.lor, 1) := by decide +kernel
theorem dX7_bitsOf_115 : decode cX7_bitsOf 115 = .ok (.goto 5, 3) := by decide +kernel
theorem dX7_bitsOf_118 : decode cX7_bitsOf 118 = .ok (.lload 5, 2) := by decide +kernel
theorem dX7_bitsOf_120 : decode cX7_bitsOf 120 = .ok (.lreturn, 1) := by decide +kernel
theorem dX7_mixed_0 : decode cX7_mixed 0 = .ok (.ldc2_w 296, 3) := by decide +kernel
theorem dX7_mixed_3 : decode cX7_mixed 3 = .ok (.lload_n 0, 1) := by decide +kernel
theorem dX7_mixed_4 : decode cX7_mixed 4 = .ok (.lmul, 1) := by decide +kernel
theorem dX7_mixed_5 : decode cX7_mixed 5 = .ok (.lload_n 2, 1) := by decide +kernel
theorem dX7_mixed_6 : decode cX7_mixed 6 = .ok (.ladd, 1) := by decide +kernel
theorem dX7_mixed_7 : decode cX7_mixed 7 = .ok (.lreturn, 1) := by decide +kernel
set_option maxRecDepth 20000 in
theorem ggX7_digestOfMember_X5_isHere : GoodIn wsX7_digestOfMember wsX5_isHere := goodIn_r _ [13, 14, 39, 40, 41, 42, 43, 44, 45, 46, 47, 48, 49, 50, 51, 52] (by decide +kernel) (by decide +kernel)
set_option maxRecDepth 20000 in
theorem gX7_digestOfMember_X5_isHere : GoodIn wsX7_digestOfMember (wsV RX7 95 RX5 yX5_isHere wsX5_isHere) := goodIn_app (goodIn_of _ (by decide +kernel)) ggX7_digestOfMember_X5_isHere
set_option maxRecDepth 20000 in
theorem ggX7_digestOfMember_X7_mixed : GoodIn wsX7_digestOfMember wsX7_mixed := goodIn_r _ [18, 19] (by decide +kernel) (by decide +kernel)
set_option maxRecDepth 20000 in
theorem gX7_digestOfMember_X7_mixed : GoodIn wsX7_digestOfMember (va_wsS RX7 276 yX7_mixed wsX7_mixed) := goodIn_app (goodIn_of _ (by decide +kernel)) ggX7_digestOfMember_X7_mixed
set_option maxRecDepth 20000 in
theorem ggX7_digestOfMember_X3_at : GoodIn wsX7_digestOfMember wsX3_at := goodIn_r _ [24, 25, 26, 56, 57] (by decide +kernel) (by decide +kernel)
set_option maxRecDepth 20000 in
theorem gX7_digestOfMember_X3_at : GoodIn wsX7_digestOfMember (wsV RX7 192 RX3 yX3_at wsX3_at) := goodIn_app (goodIn_of _ (by decide +kernel)) ggX7_digestOfMember_X3_at
set_option maxRecDepth 20000 in
theorem ggX7_digestOfMember_X6_numberAt : GoodIn wsX7_digestOfMember wsX6_numberAt := goodIn_r _ [31, 32, 53, 54, 55] (by decide +kernel) (by decide +kernel)
set_option maxRecDepth 20000 in
theorem gX7_digestOfMember_X6_numberAt : GoodIn wsX7_digestOfMember (wsV RX7 231 RX6 yX6_numberAt wsX6_numberAt) := goodIn_app (goodIn_of _ (by decide +kernel)) ggX7_digestOfMember_X6_numberAt
theorem dX7_digestOfMember_0 : decode cX7_digestOfMember 0 = .ok (.aload_n 0, 1) := by decide +kernel
theorem dX7_digestOfMember_1 : decode cX7_digestOfMember 1 = .ok (.getfield 12, 3) := by decide +kernel
theorem dX7_digestOfMember_4 : decode cX7_digestOfMember 4 = .ok (.iload_n 3, 1) := by decide +kernel
theorem dX7_digestOfMember_5 : decode cX7_digestOfMember 5 = .ok (.invokevirtual 95, 3) := by decide +kernel
theorem dX7_digestOfMember_8 : decode cX7_digestOfMember 8 = .ok (.ifCond .ne 9, 3) := by decide +kernel
theorem dX7_digestOfMember_11 : decode cX7_digestOfMember 11 = .ok (.lload_n 1, 1) := by decide +kernel
theorem dX7_digestOfMember_12 : decode cX7_digestOfMember 12 = .ok (.lconst 0, 1) := by decide +kernel
theorem dX7_digestOfMember_13 : decode cX7_digestOfMember 13 = .ok (.invokestatic 276, 3) := by decide +kernel
theorem dX7_digestOfMember_16 : decode cX7_digestOfMember 16 = .ok (.lreturn, 1) := by decide +kernel
theorem dX7_digestOfMember_17 : decode cX7_digestOfMember 17 = .ok (.lload_n 1, 1) := by decide +kernel
theorem dX7_digestOfMember_18 : decode cX7_digestOfMember 18 = .ok (.lconst 1, 1) := by decide +kernel
theorem dX7_digestOfMember_19 : decode cX7_digestOfMember 19 = .ok (.invokestatic 276, 3) := by decide +kernel
theorem dX7_digestOfMember_22 : decode cX7_digestOfMember 22 = .ok (.lstore 4, 2) := by decide +kernel
theorem dX7_digestOfMember_24 : decode cX7_digestOfMember 24 = .ok (.lload 4, 2) := by decide +kernel
theorem dX7_digestOfMember_26 : decode cX7_digestOfMember 26 = .ok (.aload_n 0, 1) := by decide +kernel
theorem dX7_digestOfMember_27 : decode cX7_digestOfMember 27 = .ok (.getfield 12, 3) := by decide +kernel
theorem dX7_digestOfMember_30 : decode cX7_digestOfMember 30 = .ok (.getfield 173, 3) := by decide +kernel
theorem dX7_digestOfMember_33 : decode cX7_digestOfMember 33 = .ok (.iload_n 3, 1) := by decide +kernel
theorem dX7_digestOfMember_34 : decode cX7_digestOfMember 34 = .ok (.iaload, 1) := by decide +kernel
theorem dX7_digestOfMember_35 : decode cX7_digestOfMember 35 = .ok (.i2l, 1) := by decide +kernel
theorem dX7_digestOfMember_36 : decode cX7_digestOfMember 36 = .ok (.invokestatic 276, 3) := by decide +kernel
theorem dX7_digestOfMember_39 : decode cX7_digestOfMember 39 = .ok (.lstore 4, 2) := by decide +kernel
theorem dX7_digestOfMember_41 : decode cX7_digestOfMember 41 = .ok (.lload 4, 2) := by decide +kernel
theorem dX7_digestOfMember_43 : decode cX7_digestOfMember 43 = .ok (.aload_n 0, 1) := by decide +kernel
theorem dX7_digestOfMember_44 : decode cX7_digestOfMember 44 = .ok (.getfield 12, 3) := by decide +kernel
theorem dX7_digestOfMember_47 : decode cX7_digestOfMember 47 = .ok (.getfield 188, 3) := by decide +kernel
theorem dX7_digestOfMember_50 : decode cX7_digestOfMember 50 = .ok (.iload_n 3, 1) := by decide +kernel
theorem dX7_digestOfMember_51 : decode cX7_digestOfMember 51 = .ok (.iconst 0, 1) := by decide +kernel
theorem dX7_digestOfMember_52 : decode cX7_digestOfMember 52 = .ok (.invokevirtual 192, 3) := by decide +kernel
theorem dX7_digestOfMember_55 : decode cX7_digestOfMember 55 = .ok (.invokestatic 276, 3) := by decide +kernel
theorem dX7_digestOfMember_58 : decode cX7_digestOfMember 58 = .ok (.lstore 4, 2) := by decide +kernel
theorem dX7_digestOfMember_60 : decode cX7_digestOfMember 60 = .ok (.lload 4, 2) := by decide +kernel
theorem dX7_digestOfMember_62 : decode cX7_digestOfMember 62 = .ok (.aload_n 0, 1) := by decide +kernel
theorem dX7_digestOfMember_63 : decode cX7_digestOfMember 63 = .ok (.getfield 12, 3) := by decide +kernel
theorem dX7_digestOfMember_66 : decode cX7_digestOfMember 66 = .ok (.getfield 188, 3) := by decide +kernel
theorem dX7_digestOfMember_69 : decode cX7_digestOfMember 69 = .ok (.iload_n 3, 1) := by decide +kernel
theorem dX7_digestOfMember_70 : decode cX7_digestOfMember 70 = .ok (.iconst 1, 1) := by decide +kernel
theorem dX7_digestOfMember_71 : decode cX7_digestOfMember 71 = .ok (.invokevirtual 192, 3) := by decide +kernel
theorem dX7_digestOfMember_74 : decode cX7_digestOfMember 74 = .ok (.invokestatic 276, 3) := by decide +kernel
theorem dX7_digestOfMember_77 : decode cX7_digestOfMember 77 = .ok (.lstore 4, 2) := by decide +kernel
theorem dX7_digestOfMember_79 : decode cX7_digestOfMember 79 = .ok (.lload 4, 2) := by decide +kernel
theorem dX7_digestOfMember_81 : decode cX7_digestOfMember 81 = .ok (.aload_n 0, 1) := by decide +kernel
theorem dX7_digestOfMember_82 : decode cX7_digestOfMember 82 = .ok (.getfield 12, 3) := by decide +kernel
theorem dX7_digestOfMember_85 : decode cX7_digestOfMember 85 = .ok (.getfield 176, 3) := by decide +kernel
theorem dX7_digestOfMember_88 : decode cX7_digestOfMember 88 = .ok (.iload_n 3, 1) := by decide +kernel
theorem dX7_digestOfMember_89 : decode cX7_digestOfMember 89 = .ok (.iaload, 1) := by decide +kernel
theorem dX7_digestOfMember_90 : decode cX7_digestOfMember 90 = .ok (.i2l, 1) := by decide +kernel
theorem dX7_digestOfMember_91 : decode cX7_digestOfMember 91 = .ok (.invokestatic 276, 3) := by decide +kernel
theorem dX7_digestOfMember_94 : decode cX7_digestOfMember 94 = .ok (.lstore 4, 2) := by decide +kernel
theorem dX7_digestOfMember_96 : decode cX7_digestOfMember 96 = .ok (.lload 4, 2) := by decide +kernel
theorem dX7_digestOfMember_98 : decode cX7_digestOfMember 98 = .ok (.aload_n 0, 1) := by decide +kernel
theorem dX7_digestOfMember_99 : decode cX7_digestOfMember 99 = .ok (.getfield 12, 3) := by decide +kernel
theorem dX7_digestOfMember_102 : decode cX7_digestOfMember 102 = .ok (.getfield 179, 3) := by decide +kernel
theorem dX7_digestOfMember_105 : decode cX7_digestOfMember 105 = .ok (.iload_n 3, 1) := by decide +kernel
theorem dX7_digestOfMember_106 : decode cX7_digestOfMember 106 = .ok (.iaload, 1) := by decide +kernel
theorem dX7_digestOfMember_107 : decode cX7_digestOfMember 107 = .ok (.i2l, 1) := by decide +kernel
theorem dX7_digestOfMember_108 : decode cX7_digestOfMember 108 = .ok (.invokestatic 276, 3) := by decide +kernel
theorem dX7_digestOfMember_111 : decode cX7_digestOfMember 111 = .ok (.lstore 4, 2) := by decide +kernel
theorem dX7_digestOfMember_113 : decode cX7_digestOfMember 113 = .ok (.lload 4, 2) := by decide +kernel
theorem dX7_digestOfMember_115 : decode cX7_digestOfMember 115 = .ok (.aload_n 0, 1) := by decide +kernel
theorem dX7_digestOfMember_116 : decode cX7_digestOfMember 116 = .ok (.getfield 12, 3) := by decide +kernel
theorem dX7_digestOfMember_119 : decode cX7_digestOfMember 119 = .ok (.getfield 182, 3) := by decide +kernel
theorem dX7_digestOfMember_122 : decode cX7_digestOfMember 122 = .ok (.iload_n 3, 1) := by decide +kernel
theorem dX7_digestOfMember_123 : decode cX7_digestOfMember 123 = .ok (.iaload, 1) := by decide +kernel
theorem dX7_digestOfMember_124 : decode cX7_digestOfMember 124 = .ok (.i2l, 1) := by decide +kernel
theorem dX7_digestOfMember_125 : decode cX7_digestOfMember 125 = .ok (.invokestatic 276, 3) := by decide +kernel
theorem dX7_digestOfMember_128 : decode cX7_digestOfMember 128 = .ok (.lstore 4, 2) := by decide +kernel
theorem dX7_digestOfMember_130 : decode cX7_digestOfMember 130 = .ok (.iconst 0, 1) := by decide +kernel
theorem dX7_digestOfMember_131 : decode cX7_digestOfMember 131 = .ok (.istore 6, 2) := by decide +kernel
theorem dX7_digestOfMember_133 : decode cX7_digestOfMember 133 = .ok (.iload 6, 2) := by decide +kernel
theorem dX7_digestOfMember_135 : decode cX7_digestOfMember 135 = .ok (.aload_n 0, 1) := by decide +kernel
theorem dX7_digestOfMember_136 : decode cX7_digestOfMember 136 = .ok (.getfield 12, 3) := by decide +kernel
theorem dX7_digestOfMember_139 : decode cX7_digestOfMember 139 = .ok (.getfield 153, 3) := by decide +kernel
theorem dX7_digestOfMember_142 : decode cX7_digestOfMember 142 = .ok (.getfield 185, 3) := by decide +kernel
theorem dX7_digestOfMember_145 : decode cX7_digestOfMember 145 = .ok (.iload_n 3, 1) := by decide +kernel
theorem dX7_digestOfMember_146 : decode cX7_digestOfMember 146 = .ok (.iaload, 1) := by decide +kernel
theorem dX7_digestOfMember_147 : decode cX7_digestOfMember 147 = .ok (.if_icmp .ge 30, 3) := by decide +kernel
theorem dX7_digestOfMember_150 : decode cX7_digestOfMember 150 = .ok (.lload 4, 2) := by decide +kernel
theorem dX7_digestOfMember_152 : decode cX7_digestOfMember 152 = .ok (.aload_n 0, 1) := by decide +kernel
theorem dX7_digestOfMember_153 : decode cX7_digestOfMember 153 = .ok (.getfield 12, 3) := by decide +kernel
theorem dX7_digestOfMember_156 : decode cX7_digestOfMember 156 = .ok (.getfield 153, 3) := by decide +kernel
theorem dX7_digestOfMember_159 : decode cX7_digestOfMember 159 = .ok (.iload_n 3, 1) := by decide +kernel
theorem dX7_digestOfMember_160 : decode cX7_digestOfMember 160 = .ok (.iload 6, 2) := by decide +kernel
theorem dX7_digestOfMember_162 : decode cX7_digestOfMember 162 = .ok (.invokevirtual 231, 3) := by decide +kernel
theorem dX7_digestOfMember_165 : decode cX7_digestOfMember 165 = .ok (.i2l, 1) := by decide +kernel
theorem dX7_digestOfMember_166 : decode cX7_digestOfMember 166 = .ok (.invokestatic 276, 3) := by decide +kernel
theorem dX7_digestOfMember_169 : decode cX7_digestOfMember 169 = .ok (.lstore 4, 2) := by decide +kernel
theorem dX7_digestOfMember_171 : decode cX7_digestOfMember 171 = .ok (.iinc 6 1, 3) := by decide +kernel
theorem dX7_digestOfMember_174 : decode cX7_digestOfMember 174 = .ok (.goto (-41), 3) := by decide +kernel
theorem dX7_digestOfMember_177 : decode cX7_digestOfMember 177 = .ok (.lload 4, 2) := by decide +kernel
theorem dX7_digestOfMember_179 : decode cX7_digestOfMember 179 = .ok (.lreturn, 1) := by decide +kernel
set_option maxRecDepth 20000 in
theorem ggX7_digestOfLines_X5_isJoined : GoodIn wsX7_digestOfLines wsX5_isJoined := goodIn_r _ [7, 8, 20, 21, 22, 23, 24, 25, 26, 27, 28, 29, 30, 31, 32, 33] (by decide +kernel) (by decide +kernel)
set_option maxRecDepth 20000 in
theorem gX7_digestOfLines_X5_isJoined : GoodIn wsX7_digestOfLines (wsV RX7 64 RX5 yX5_isJoined wsX5_isJoined) := goodIn_app (goodIn_of _ (by decide +kernel)) ggX7_digestOfLines_X5_isJoined
set_option maxRecDepth 20000 in
theorem ggX7_digestOfLines_X7_mixed : GoodIn wsX7_digestOfLines wsX7_mixed := goodIn_r _ [12, 13] (by decide +kernel) (by decide +kernel)
set_option maxRecDepth 20000 in
theorem gX7_digestOfLines_X7_mixed : GoodIn wsX7_digestOfLines (va_wsS RX7 276 yX7_mixed wsX7_mixed) := goodIn_app (goodIn_of _ (by decide +kernel)) ggX7_digestOfLines_X7_mixed
theorem dX7_digestOfLines_0 : decode cX7_digestOfLines 0 = .ok (.lload_n 1, 1) := by decide +kernel
theorem dX7_digestOfLines_1 : decode cX7_digestOfLines 1 = .ok (.lstore_n 3, 1) := by decide +kernel
theorem dX7_digestOfLines_2 : decode cX7_digestOfLines 2 = .ok (.iconst 0, 1) := by decide +kernel
theorem dX7_digestOfLines_3 : decode cX7_digestOfLines 3 = .ok (.istore 5, 2) := by decide +kernel
theorem dX7_digestOfLines_5 : decode cX7_digestOfLines 5 = .ok (.iload 5, 2) := by decide +kernel
theorem dX7_digestOfLines_7 : decode cX7_digestOfLines 7 = .ok (.aload_n 0, 1) := by decide +kernel
theorem dX7_digestOfLines_8 : decode cX7_digestOfLines 8 = .ok (.getfield 12, 3) := by decide +kernel
theorem dX7_digestOfLines_11 : decode cX7_digestOfLines 11 = .ok (.getfield 49, 3) := by decide +kernel
theorem dX7_digestOfLines_14 : decode cX7_digestOfLines 14 = .ok (.if_icmp .ge 57, 3) := by decide +kernel
theorem dX7_digestOfLines_17 : decode cX7_digestOfLines 17 = .ok (.iload 5, 2) := by decide +kernel
theorem dX7_digestOfLines_19 : decode cX7_digestOfLines 19 = .ok (.iconst 1, 1) := by decide +kernel
theorem dX7_digestOfLines_20 : decode cX7_digestOfLines 20 = .ok (.iadd, 1) := by decide +kernel
theorem dX7_digestOfLines_21 : decode cX7_digestOfLines 21 = .ok (.istore 6, 2) := by decide +kernel
theorem dX7_digestOfLines_23 : decode cX7_digestOfLines 23 = .ok (.iload 6, 2) := by decide +kernel
theorem dX7_digestOfLines_25 : decode cX7_digestOfLines 25 = .ok (.aload_n 0, 1) := by decide +kernel
theorem dX7_digestOfLines_26 : decode cX7_digestOfLines 26 = .ok (.getfield 12, 3) := by decide +kernel
theorem dX7_digestOfLines_29 : decode cX7_digestOfLines 29 = .ok (.getfield 49, 3) := by decide +kernel
theorem dX7_digestOfLines_32 : decode cX7_digestOfLines 32 = .ok (.if_icmp .ge 33, 3) := by decide +kernel
theorem dX7_digestOfLines_35 : decode cX7_digestOfLines 35 = .ok (.lload_n 3, 1) := by decide +kernel
theorem dX7_digestOfLines_36 : decode cX7_digestOfLines 36 = .ok (.aload_n 0, 1) := by decide +kernel
theorem dX7_digestOfLines_37 : decode cX7_digestOfLines 37 = .ok (.getfield 12, 3) := by decide +kernel
theorem dX7_digestOfLines_40 : decode cX7_digestOfLines 40 = .ok (.iload 5, 2) := by decide +kernel
theorem dX7_digestOfLines_42 : decode cX7_digestOfLines 42 = .ok (.iload 6, 2) := by decide +kernel
theorem dX7_digestOfLines_44 : decode cX7_digestOfLines 44 = .ok (.invokevirtual 64, 3) := by decide +kernel
theorem dX7_digestOfLines_47 : decode cX7_digestOfLines 47 = .ok (.ifCond .eq 7, 3) := by decide +kernel
theorem dX7_digestOfLines_50 : decode cX7_digestOfLines 50 = .ok (.lconst 1, 1) := by decide +kernel
theorem dX7_digestOfLines_51 : decode cX7_digestOfLines 51 = .ok (.goto 4, 3) := by decide +kernel
theorem dX7_digestOfLines_54 : decode cX7_digestOfLines 54 = .ok (.lconst 0, 1) := by decide +kernel
theorem dX7_digestOfLines_55 : decode cX7_digestOfLines 55 = .ok (.invokestatic 276, 3) := by decide +kernel
theorem dX7_digestOfLines_58 : decode cX7_digestOfLines 58 = .ok (.lstore_n 3, 1) := by decide +kernel
theorem dX7_digestOfLines_59 : decode cX7_digestOfLines 59 = .ok (.iinc 6 1, 3) := by decide +kernel
theorem dX7_digestOfLines_62 : decode cX7_digestOfLines 62 = .ok (.goto (-39), 3) := by decide +kernel
theorem dX7_digestOfLines_65 : decode cX7_digestOfLines 65 = .ok (.iinc 5 1, 3) := by decide +kernel
theorem dX7_digestOfLines_68 : decode cX7_digestOfLines 68 = .ok (.goto (-63), 3) := by decide +kernel
theorem dX7_digestOfLines_71 : decode cX7_digestOfLines 71 = .ok (.lload_n 3, 1) := by decide +kernel
theorem dX7_digestOfLines_72 : decode cX7_digestOfLines 72 = .ok (.lreturn, 1) := by decide +kernel
set_option maxRecDepth 20000 in
theorem ggX7_digestOfBooks_X7_pair : GoodIn wsX7_digestOfBooks wsX7_pair := goodIn_r _ [7] (by decide +kernel) (by decide +kernel)
set_option maxRecDepth 20000 in
theorem gX7_digestOfBooks_X7_pair : GoodIn wsX7_digestOfBooks (va_wsS RX7 214 yX7_pair wsX7_pair) := goodIn_app (goodIn_of _ (by decide +kernel)) ggX7_digestOfBooks_X7_pair
set_option maxRecDepth 20000 in
theorem ggX7_digestOfBooks_X3_at : GoodIn wsX7_digestOfBooks wsX3_at := goodIn_r _ [12, 13, 14, 39, 40] (by decide +kernel) (by decide +kernel)
set_option maxRecDepth 20000 in
theorem gX7_digestOfBooks_X3_at : GoodIn wsX7_digestOfBooks (wsV RX7 192 RX3 yX3_at wsX3_at) := goodIn_app (goodIn_of _ (by decide +kernel)) ggX7_digestOfBooks_X3_at
set_option maxRecDepth 20000 in
theorem ggX7_digestOfBooks_X7_mixed : GoodIn wsX7_digestOfBooks wsX7_mixed := goodIn_r _ [17, 18] (by decide +kernel) (by decide +kernel)
set_option maxRecDepth 20000 in
theorem gX7_digestOfBooks_X7_mixed : GoodIn wsX7_digestOfBooks (va_wsS RX7 276 yX7_mixed wsX7_mixed) := goodIn_app (goodIn_of _ (by decide +kernel)) ggX7_digestOfBooks_X7_mixed
theorem dX7_digestOfBooks_0 : decode cX7_digestOfBooks 0 = .ok (.lload_n 1, 1) := by decide +kernel
theorem dX7_digestOfBooks_1 : decode cX7_digestOfBooks 1 = .ok (.lstore_n 3, 1) := by decide +kernel
theorem dX7_digestOfBooks_2 : decode cX7_digestOfBooks 2 = .ok (.iconst 0, 1) := by decide +kernel
theorem dX7_digestOfBooks_3 : decode cX7_digestOfBooks 3 = .ok (.istore 5, 2) := by decide +kernel
theorem dX7_digestOfBooks_5 : decode cX7_digestOfBooks 5 = .ok (.iload 5, 2) := by decide +kernel
theorem dX7_digestOfBooks_7 : decode cX7_digestOfBooks 7 = .ok (.aload_n 0, 1) := by decide +kernel
theorem dX7_digestOfBooks_8 : decode cX7_digestOfBooks 8 = .ok (.getfield 12, 3) := by decide +kernel
theorem dX7_digestOfBooks_11 : decode cX7_digestOfBooks 11 = .ok (.getfield 49, 3) := by decide +kernel
theorem dX7_digestOfBooks_14 : decode cX7_digestOfBooks 14 = .ok (.if_icmp .ge 76, 3) := by decide +kernel
theorem dX7_digestOfBooks_17 : decode cX7_digestOfBooks 17 = .ok (.iconst 0, 1) := by decide +kernel
theorem dX7_digestOfBooks_18 : decode cX7_digestOfBooks 18 = .ok (.istore 6, 2) := by decide +kernel
theorem dX7_digestOfBooks_20 : decode cX7_digestOfBooks 20 = .ok (.iload 6, 2) := by decide +kernel
theorem dX7_digestOfBooks_22 : decode cX7_digestOfBooks 22 = .ok (.aload_n 0, 1) := by decide +kernel
theorem dX7_digestOfBooks_23 : decode cX7_digestOfBooks 23 = .ok (.getfield 12, 3) := by decide +kernel
theorem dX7_digestOfBooks_26 : decode cX7_digestOfBooks 26 = .ok (.getfield 49, 3) := by decide +kernel
theorem dX7_digestOfBooks_29 : decode cX7_digestOfBooks 29 = .ok (.if_icmp .ge 55, 3) := by decide +kernel
theorem dX7_digestOfBooks_32 : decode cX7_digestOfBooks 32 = .ok (.lload_n 3, 1) := by decide +kernel
theorem dX7_digestOfBooks_33 : decode cX7_digestOfBooks 33 = .ok (.aload_n 0, 1) := by decide +kernel
theorem dX7_digestOfBooks_34 : decode cX7_digestOfBooks 34 = .ok (.getfield 12, 3) := by decide +kernel
theorem dX7_digestOfBooks_37 : decode cX7_digestOfBooks 37 = .ok (.getfield 211, 3) := by decide +kernel
theorem dX7_digestOfBooks_40 : decode cX7_digestOfBooks 40 = .ok (.iload 5, 2) := by decide +kernel
theorem dX7_digestOfBooks_42 : decode cX7_digestOfBooks 42 = .ok (.iload 6, 2) := by decide +kernel
theorem dX7_digestOfBooks_44 : decode cX7_digestOfBooks 44 = .ok (.invokestatic 214, 3) := by decide +kernel
theorem dX7_digestOfBooks_47 : decode cX7_digestOfBooks 47 = .ok (.iconst 0, 1) := by decide +kernel
theorem dX7_digestOfBooks_48 : decode cX7_digestOfBooks 48 = .ok (.invokevirtual 192, 3) := by decide +kernel
theorem dX7_digestOfBooks_51 : decode cX7_digestOfBooks 51 = .ok (.invokestatic 276, 3) := by decide +kernel
theorem dX7_digestOfBooks_54 : decode cX7_digestOfBooks 54 = .ok (.lstore_n 3, 1) := by decide +kernel
theorem dX7_digestOfBooks_55 : decode cX7_digestOfBooks 55 = .ok (.lload_n 3, 1) := by decide +kernel
theorem dX7_digestOfBooks_56 : decode cX7_digestOfBooks 56 = .ok (.aload_n 0, 1) := by decide +kernel
theorem dX7_digestOfBooks_57 : decode cX7_digestOfBooks 57 = .ok (.getfield 12, 3) := by decide +kernel
theorem dX7_digestOfBooks_60 : decode cX7_digestOfBooks 60 = .ok (.getfield 211, 3) := by decide +kernel
theorem dX7_digestOfBooks_63 : decode cX7_digestOfBooks 63 = .ok (.iload 5, 2) := by decide +kernel
theorem dX7_digestOfBooks_65 : decode cX7_digestOfBooks 65 = .ok (.iload 6, 2) := by decide +kernel
theorem dX7_digestOfBooks_67 : decode cX7_digestOfBooks 67 = .ok (.invokestatic 214, 3) := by decide +kernel
theorem dX7_digestOfBooks_70 : decode cX7_digestOfBooks 70 = .ok (.iconst 1, 1) := by decide +kernel
theorem dX7_digestOfBooks_71 : decode cX7_digestOfBooks 71 = .ok (.invokevirtual 192, 3) := by decide +kernel
theorem dX7_digestOfBooks_74 : decode cX7_digestOfBooks 74 = .ok (.invokestatic 276, 3) := by decide +kernel
theorem dX7_digestOfBooks_77 : decode cX7_digestOfBooks 77 = .ok (.lstore_n 3, 1) := by decide +kernel
theorem dX7_digestOfBooks_78 : decode cX7_digestOfBooks 78 = .ok (.iinc 6 1, 3) := by decide +kernel
theorem dX7_digestOfBooks_81 : decode cX7_digestOfBooks 81 = .ok (.goto (-61), 3) := by decide +kernel
theorem dX7_digestOfBooks_84 : decode cX7_digestOfBooks 84 = .ok (.iinc 5 1, 3) := by decide +kernel
theorem dX7_digestOfBooks_87 : decode cX7_digestOfBooks 87 = .ok (.goto (-82), 3) := by decide +kernel
theorem dX7_digestOfBooks_90 : decode cX7_digestOfBooks 90 = .ok (.lload_n 3, 1) := by decide +kernel
theorem dX7_digestOfBooks_91 : decode cX7_digestOfBooks 91 = .ok (.lreturn, 1) := by decide +kernel
set_option maxRecDepth 20000 in
theorem ggX7_digestOfLetters_X1_isUnderWay : GoodIn wsX7_digestOfLetters wsX1_isUnderWay := goodIn_r _ [10, 11, 44, 45, 46] (by decide +kernel) (by decide +kernel)
set_option maxRecDepth 20000 in
theorem gX7_digestOfLetters_X1_isUnderWay : GoodIn wsX7_digestOfLetters (wsV RX7 119 RX1 yX1_isUnderWay wsX1_isUnderWay) := goodIn_app (goodIn_of _ (by decide +kernel)) ggX7_digestOfLetters_X1_isUnderWay
set_option maxRecDepth 20000 in
theorem ggX7_digestOfLetters_X7_mixed : GoodIn wsX7_digestOfLetters wsX7_mixed := goodIn_r _ [15, 16] (by decide +kernel) (by decide +kernel)
set_option maxRecDepth 20000 in
theorem gX7_digestOfLetters_X7_mixed : GoodIn wsX7_digestOfLetters (va_wsS RX7 276 yX7_mixed wsX7_mixed) := goodIn_app (goodIn_of _ (by decide +kernel)) ggX7_digestOfLetters_X7_mixed
set_option maxRecDepth 20000 in
theorem ggX7_digestOfLetters_X3_at : GoodIn wsX7_digestOfLetters wsX3_at := goodIn_r _ [21, 22, 23, 47, 48] (by decide +kernel) (by decide +kernel)
set_option maxRecDepth 20000 in
theorem gX7_digestOfLetters_X3_at : GoodIn wsX7_digestOfLetters (wsV RX7 192 RX3 yX3_at wsX3_at) := goodIn_app (goodIn_of _ (by decide +kernel)) ggX7_digestOfLetters_X3_at
