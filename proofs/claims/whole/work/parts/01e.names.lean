theorem dX7_digestOfLetters_0 : decode cX7_digestOfLetters 0 = .ok (.lload_n 1, 1) := by decide +kernel
theorem dX7_digestOfLetters_1 : decode cX7_digestOfLetters 1 = .ok (.lstore_n 3, 1) := by decide +kernel
theorem dX7_digestOfLetters_2 : decode cX7_digestOfLetters 2 = .ok (.iconst 0, 1) := by decide +kernel
theorem dX7_digestOfLetters_3 : decode cX7_digestOfLetters 3 = .ok (.istore 5, 2) := by decide +kernel
theorem dX7_digestOfLetters_5 : decode cX7_digestOfLetters 5 = .ok (.iload 5, 2) := by decide +kernel
theorem dX7_digestOfLetters_7 : decode cX7_digestOfLetters 7 = .ok (.bipush 8, 2) := by decide +kernel
theorem dX7_digestOfLetters_9 : decode cX7_digestOfLetters 9 = .ok (.if_icmp .ge 104, 3) := by decide +kernel
theorem dX7_digestOfLetters_12 : decode cX7_digestOfLetters 12 = .ok (.aload_n 0, 1) := by decide +kernel
theorem dX7_digestOfLetters_13 : decode cX7_digestOfLetters 13 = .ok (.getfield 12, 3) := by decide +kernel
theorem dX7_digestOfLetters_16 : decode cX7_digestOfLetters 16 = .ok (.getfield 74, 3) := by decide +kernel
theorem dX7_digestOfLetters_19 : decode cX7_digestOfLetters 19 = .ok (.iload 5, 2) := by decide +kernel
theorem dX7_digestOfLetters_21 : decode cX7_digestOfLetters 21 = .ok (.invokevirtual 119, 3) := by decide +kernel
theorem dX7_digestOfLetters_24 : decode cX7_digestOfLetters 24 = .ok (.ifCond .eq 83, 3) := by decide +kernel
theorem dX7_digestOfLetters_27 : decode cX7_digestOfLetters 27 = .ok (.lload_n 3, 1) := by decide +kernel
theorem dX7_digestOfLetters_28 : decode cX7_digestOfLetters 28 = .ok (.aload_n 0, 1) := by decide +kernel
theorem dX7_digestOfLetters_29 : decode cX7_digestOfLetters 29 = .ok (.getfield 12, 3) := by decide +kernel
theorem dX7_digestOfLetters_32 : decode cX7_digestOfLetters 32 = .ok (.getfield 74, 3) := by decide +kernel
theorem dX7_digestOfLetters_35 : decode cX7_digestOfLetters 35 = .ok (.getfield 129, 3) := by decide +kernel
theorem dX7_digestOfLetters_38 : decode cX7_digestOfLetters 38 = .ok (.iload 5, 2) := by decide +kernel
theorem dX7_digestOfLetters_40 : decode cX7_digestOfLetters 40 = .ok (.iaload, 1) := by decide +kernel
theorem dX7_digestOfLetters_41 : decode cX7_digestOfLetters 41 = .ok (.i2l, 1) := by decide +kernel
theorem dX7_digestOfLetters_42 : decode cX7_digestOfLetters 42 = .ok (.invokestatic 276, 3) := by decide +kernel
theorem dX7_digestOfLetters_45 : decode cX7_digestOfLetters 45 = .ok (.lstore_n 3, 1) := by decide +kernel
theorem dX7_digestOfLetters_46 : decode cX7_digestOfLetters 46 = .ok (.lload_n 3, 1) := by decide +kernel
theorem dX7_digestOfLetters_47 : decode cX7_digestOfLetters 47 = .ok (.aload_n 0, 1) := by decide +kernel
theorem dX7_digestOfLetters_48 : decode cX7_digestOfLetters 48 = .ok (.getfield 12, 3) := by decide +kernel
theorem dX7_digestOfLetters_51 : decode cX7_digestOfLetters 51 = .ok (.getfield 74, 3) := by decide +kernel
theorem dX7_digestOfLetters_54 : decode cX7_digestOfLetters 54 = .ok (.getfield 122, 3) := by decide +kernel
theorem dX7_digestOfLetters_57 : decode cX7_digestOfLetters 57 = .ok (.iload 5, 2) := by decide +kernel
theorem dX7_digestOfLetters_59 : decode cX7_digestOfLetters 59 = .ok (.iaload, 1) := by decide +kernel
theorem dX7_digestOfLetters_60 : decode cX7_digestOfLetters 60 = .ok (.i2l, 1) := by decide +kernel
theorem dX7_digestOfLetters_61 : decode cX7_digestOfLetters 61 = .ok (.invokestatic 276, 3) := by decide +kernel
theorem dX7_digestOfLetters_64 : decode cX7_digestOfLetters 64 = .ok (.lstore_n 3, 1) := by decide +kernel
theorem dX7_digestOfLetters_65 : decode cX7_digestOfLetters 65 = .ok (.lload_n 3, 1) := by decide +kernel
theorem dX7_digestOfLetters_66 : decode cX7_digestOfLetters 66 = .ok (.aload_n 0, 1) := by decide +kernel
theorem dX7_digestOfLetters_67 : decode cX7_digestOfLetters 67 = .ok (.getfield 12, 3) := by decide +kernel
theorem dX7_digestOfLetters_70 : decode cX7_digestOfLetters 70 = .ok (.getfield 74, 3) := by decide +kernel
theorem dX7_digestOfLetters_73 : decode cX7_digestOfLetters 73 = .ok (.getfield 218, 3) := by decide +kernel
theorem dX7_digestOfLetters_76 : decode cX7_digestOfLetters 76 = .ok (.iload 5, 2) := by decide +kernel
theorem dX7_digestOfLetters_78 : decode cX7_digestOfLetters 78 = .ok (.iconst 0, 1) := by decide +kernel
theorem dX7_digestOfLetters_79 : decode cX7_digestOfLetters 79 = .ok (.invokevirtual 192, 3) := by decide +kernel
theorem dX7_digestOfLetters_82 : decode cX7_digestOfLetters 82 = .ok (.invokestatic 276, 3) := by decide +kernel
theorem dX7_digestOfLetters_85 : decode cX7_digestOfLetters 85 = .ok (.lstore_n 3, 1) := by decide +kernel
theorem dX7_digestOfLetters_86 : decode cX7_digestOfLetters 86 = .ok (.lload_n 3, 1) := by decide +kernel
theorem dX7_digestOfLetters_87 : decode cX7_digestOfLetters 87 = .ok (.aload_n 0, 1) := by decide +kernel
theorem dX7_digestOfLetters_88 : decode cX7_digestOfLetters 88 = .ok (.getfield 12, 3) := by decide +kernel
theorem dX7_digestOfLetters_91 : decode cX7_digestOfLetters 91 = .ok (.getfield 74, 3) := by decide +kernel
theorem dX7_digestOfLetters_94 : decode cX7_digestOfLetters 94 = .ok (.getfield 218, 3) := by decide +kernel
theorem dX7_digestOfLetters_97 : decode cX7_digestOfLetters 97 = .ok (.iload 5, 2) := by decide +kernel
theorem dX7_digestOfLetters_99 : decode cX7_digestOfLetters 99 = .ok (.iconst 1, 1) := by decide +kernel
theorem dX7_digestOfLetters_100 : decode cX7_digestOfLetters 100 = .ok (.invokevirtual 192, 3) := by decide +kernel
theorem dX7_digestOfLetters_103 : decode cX7_digestOfLetters 103 = .ok (.invokestatic 276, 3) := by decide +kernel
theorem dX7_digestOfLetters_106 : decode cX7_digestOfLetters 106 = .ok (.lstore_n 3, 1) := by decide +kernel
theorem dX7_digestOfLetters_107 : decode cX7_digestOfLetters 107 = .ok (.iinc 5 1, 3) := by decide +kernel
theorem dX7_digestOfLetters_110 : decode cX7_digestOfLetters 110 = .ok (.goto (-105), 3) := by decide +kernel
theorem dX7_digestOfLetters_113 : decode cX7_digestOfLetters 113 = .ok (.lload_n 3, 1) := by decide +kernel
theorem dX7_digestOfLetters_114 : decode cX7_digestOfLetters 114 = .ok (.lreturn, 1) := by decide +kernel
theorem dX8_init_0 : decode cX8_init 0 = .ok (.aload_n 0, 1) := by decide +kernel
theorem dX8_init_1 : decode cX8_init 1 = .ok (.invokespecial 1, 3) := by decide +kernel
theorem dX8_init_4 : decode cX8_init 4 = .ok (.aload_n 0, 1) := by decide +kernel
theorem dX8_init_5 : decode cX8_init 5 = .ok (.sipush 613, 3) := by decide +kernel
theorem dX8_init_8 : decode cX8_init 8 = .ok (.newarray .long, 2) := by decide +kernel
theorem dX8_init_10 : decode cX8_init 10 = .ok (.putfield 7, 3) := by decide +kernel
theorem dX8_init_13 : decode cX8_init 13 = .ok (.aload_n 0, 1) := by decide +kernel
theorem dX8_init_14 : decode cX8_init 14 = .ok (.sipush 12260, 3) := by decide +kernel
theorem dX8_init_17 : decode cX8_init 17 = .ok (.newarray .long, 2) := by decide +kernel
theorem dX8_init_19 : decode cX8_init 19 = .ok (.putfield 13, 3) := by decide +kernel
theorem dX8_init_22 : decode cX8_init 22 = .ok (.aload_n 0, 1) := by decide +kernel
theorem dX8_init_23 : decode cX8_init 23 = .ok (.bipush 8, 2) := by decide +kernel
theorem dX8_init_25 : decode cX8_init 25 = .ok (.newarray .long, 2) := by decide +kernel
theorem dX8_init_27 : decode cX8_init 27 = .ok (.putfield 16, 3) := by decide +kernel
theorem dX8_init_30 : decode cX8_init 30 = .ok (.aload_n 0, 1) := by decide +kernel
theorem dX8_init_31 : decode cX8_init 31 = .ok (.bipush 8, 2) := by decide +kernel
theorem dX8_init_33 : decode cX8_init 33 = .ok (.newarray .long, 2) := by decide +kernel
theorem dX8_init_35 : decode cX8_init 35 = .ok (.putfield 19, 3) := by decide +kernel
theorem dX8_init_38 : decode cX8_init 38 = .ok (.aload_n 0, 1) := by decide +kernel
theorem dX8_init_39 : decode cX8_init 39 = .ok (.bipush 45, 2) := by decide +kernel
theorem dX8_init_41 : decode cX8_init 41 = .ok (.newarray .int, 2) := by decide +kernel
theorem dX8_init_43 : decode cX8_init 43 = .ok (.putfield 22, 3) := by decide +kernel
theorem dX8_init_46 : decode cX8_init 46 = .ok (.aload_n 0, 1) := by decide +kernel
theorem dX8_init_47 : decode cX8_init 47 = .ok (.bipush 45, 2) := by decide +kernel
theorem dX8_init_49 : decode cX8_init 49 = .ok (.newarray .int, 2) := by decide +kernel
theorem dX8_init_51 : decode cX8_init 51 = .ok (.putfield 26, 3) := by decide +kernel
theorem dX8_init_54 : decode cX8_init 54 = .ok (.aload_n 0, 1) := by decide +kernel
theorem dX8_init_55 : decode cX8_init 55 = .ok (.bipush 50, 2) := by decide +kernel
theorem dX8_init_57 : decode cX8_init 57 = .ok (.newarray .long, 2) := by decide +kernel
theorem dX8_init_59 : decode cX8_init 59 = .ok (.putfield 29, 3) := by decide +kernel
theorem dX8_init_62 : decode cX8_init 62 = .ok (.aload_n 0, 1) := by decide +kernel
theorem dX8_init_63 : decode cX8_init 63 = .ok (.bipush 50, 2) := by decide +kernel
theorem dX8_init_65 : decode cX8_init 65 = .ok (.newarray .long, 2) := by decide +kernel
theorem dX8_init_67 : decode cX8_init 67 = .ok (.putfield 32, 3) := by decide +kernel
theorem dX8_init_70 : decode cX8_init 70 = .ok (.aload_n 0, 1) := by decide +kernel
theorem dX8_init_71 : decode cX8_init 71 = .ok (.iconst 5, 1) := by decide +kernel
theorem dX8_init_72 : decode cX8_init 72 = .ok (.newarray .int, 2) := by decide +kernel
theorem dX8_init_74 : decode cX8_init 74 = .ok (.putfield 35, 3) := by decide +kernel
theorem dX8_init_77 : decode cX8_init 77 = .ok (.aload_n 0, 1) := by decide +kernel
theorem dX8_init_78 : decode cX8_init 78 = .ok (.iconst 4, 1) := by decide +kernel
theorem dX8_init_79 : decode cX8_init 79 = .ok (.newarray .int, 2) := by decide +kernel
theorem dX8_init_81 : decode cX8_init 81 = .ok (.putfield 38, 3) := by decide +kernel
theorem dX8_init_84 : decode cX8_init 84 = .ok (.aload_n 0, 1) := by decide +kernel
theorem dX8_init_85 : decode cX8_init 85 = .ok (.getfield 7, 3) := by decide +kernel
theorem dX8_init_88 : decode cX8_init 88 = .ok (.iconst 1, 1) := by decide +kernel
theorem dX8_init_89 : decode cX8_init 89 = .ok (.lconst 1, 1) := by decide +kernel
theorem dX8_init_90 : decode cX8_init 90 = .ok (.lastore, 1) := by decide +kernel
theorem dX8_init_91 : decode cX8_init 91 = .ok (.return_, 1) := by decide +kernel
theorem dX8_in_0 : decode cX8_in 0 = .ok (.lload_n 0, 1) := by decide +kernel
theorem dX8_in_1 : decode cX8_in 1 = .ok (.lload_n 2, 1) := by decide +kernel
theorem dX8_in_2 : decode cX8_in 2 = .ok (.lcmp, 1) := by decide +kernel
theorem dX8_in_3 : decode cX8_in 3 = .ok (.ifCond .lt 14, 3) := by decide +kernel
theorem dX8_in_6 : decode cX8_in 6 = .ok (.lload_n 0, 1) := by decide +kernel
theorem dX8_in_7 : decode cX8_in 7 = .ok (.lload 4, 2) := by decide +kernel
theorem dX8_in_9 : decode cX8_in 9 = .ok (.lcmp, 1) := by decide +kernel
theorem dX8_in_10 : decode cX8_in 10 = .ok (.ifCond .gt 7, 3) := by decide +kernel
theorem dX8_in_13 : decode cX8_in 13 = .ok (.iconst 1, 1) := by decide +kernel
theorem dX8_in_14 : decode cX8_in 14 = .ok (.goto 4, 3) := by decide +kernel
theorem dX8_in_17 : decode cX8_in 17 = .ok (.iconst 0, 1) := by decide +kernel
theorem dX8_in_18 : decode cX8_in 18 = .ok (.ireturn, 1) := by decide +kernel
theorem dX8_keep_0 : decode cX8_keep 0 = .ok (.aload_n 0, 1) := by decide +kernel
theorem dX8_keep_1 : decode cX8_keep 1 = .ok (.getfield 41, 3) := by decide +kernel
theorem dX8_keep_4 : decode cX8_keep 4 = .ok (.bipush 20, 2) := by decide +kernel
theorem dX8_keep_6 : decode cX8_keep 6 = .ok (.if_icmp .ne 44, 3) := by decide +kernel
theorem dX8_keep_9 : decode cX8_keep 9 = .ok (.iconst 0, 1) := by decide +kernel
theorem dX8_keep_10 : decode cX8_keep 10 = .ok (.istore_n 1, 1) := by decide +kernel
theorem dX8_keep_11 : decode cX8_keep 11 = .ok (.iload_n 1, 1) := by decide +kernel
theorem dX8_keep_12 : decode cX8_keep 12 = .ok (.sipush 11647, 3) := by decide +kernel
theorem dX8_keep_15 : decode cX8_keep 15 = .ok (.if_icmp .ge 25, 3) := by decide +kernel
theorem dX8_keep_18 : decode cX8_keep 18 = .ok (.aload_n 0, 1) := by decide +kernel
theorem dX8_keep_19 : decode cX8_keep 19 = .ok (.getfield 13, 3) := by decide +kernel
theorem dX8_keep_22 : decode cX8_keep 22 = .ok (.iload_n 1, 1) := by decide +kernel
theorem dX8_keep_23 : decode cX8_keep 23 = .ok (.aload_n 0, 1) := by decide +kernel
theorem dX8_keep_24 : decode cX8_keep 24 = .ok (.getfield 13, 3) := by decide +kernel
theorem dX8_keep_27 : decode cX8_keep 27 = .ok (.iload_n 1, 1) := by decide +kernel
theorem dX8_keep_28 : decode cX8_keep 28 = .ok (.sipush 613, 3) := by decide +kernel
theorem dX8_keep_31 : decode cX8_keep 31 = .ok (.iadd, 1) := by decide +kernel
theorem dX8_keep_32 : decode cX8_keep 32 = .ok (.laload, 1) := by decide +kernel
theorem dX8_keep_33 : decode cX8_keep 33 = .ok (.lastore, 1) := by decide +kernel
theorem dX8_keep_34 : decode cX8_keep 34 = .ok (.iinc 1 1, 3) := by decide +kernel
theorem dX8_keep_37 : decode cX8_keep 37 = .ok (.goto (-26), 3) := by decide +kernel
theorem dX8_keep_40 : decode cX8_keep 40 = .ok (.aload_n 0, 1) := by decide +kernel
theorem dX8_keep_41 : decode cX8_keep 41 = .ok (.dup, 1) := by decide +kernel
theorem dX8_keep_42 : decode cX8_keep 42 = .ok (.getfield 41, 3) := by decide +kernel
theorem dX8_keep_45 : decode cX8_keep 45 = .ok (.iconst 1, 1) := by decide +kernel
theorem dX8_keep_46 : decode cX8_keep 46 = .ok (.isub, 1) := by decide +kernel
theorem dX8_keep_47 : decode cX8_keep 47 = .ok (.putfield 41, 3) := by decide +kernel
theorem dX8_keep_50 : decode cX8_keep 50 = .ok (.iconst 0, 1) := by decide +kernel
theorem dX8_keep_51 : decode cX8_keep 51 = .ok (.istore_n 1, 1) := by decide +kernel
theorem dX8_keep_52 : decode cX8_keep 52 = .ok (.iload_n 1, 1) := by decide +kernel
theorem dX8_keep_53 : decode cX8_keep 53 = .ok (.sipush 613, 3) := by decide +kernel
theorem dX8_keep_56 : decode cX8_keep 56 = .ok (.if_icmp .ge 30, 3) := by decide +kernel
theorem dX8_keep_59 : decode cX8_keep 59 = .ok (.aload_n 0, 1) := by decide +kernel
theorem dX8_keep_60 : decode cX8_keep 60 = .ok (.getfield 13, 3) := by decide +kernel
theorem dX8_keep_63 : decode cX8_keep 63 = .ok (.sipush 613, 3) := by decide +kernel
theorem dX8_keep_66 : decode cX8_keep 66 = .ok (.aload_n 0, 1) := by decide +kernel
theorem dX8_keep_67 : decode cX8_keep 67 = .ok (.getfield 41, 3) := by decide +kernel
theorem dX8_keep_70 : decode cX8_keep 70 = .ok (.imul, 1) := by decide +kernel
theorem dX8_keep_71 : decode cX8_keep 71 = .ok (.iload_n 1, 1) := by decide +kernel
theorem dX8_keep_72 : decode cX8_keep 72 = .ok (.iadd, 1) := by decide +kernel
theorem dX8_keep_73 : decode cX8_keep 73 = .ok (.aload_n 0, 1) := by decide +kernel
theorem dX8_keep_74 : decode cX8_keep 74 = .ok (.getfield 7, 3) := by decide +kernel
theorem dX8_keep_77 : decode cX8_keep 77 = .ok (.iload_n 1, 1) := by decide +kernel
theorem dX8_keep_78 : decode cX8_keep 78 = .ok (.laload, 1) := by decide +kernel
theorem dX8_keep_79 : decode cX8_keep 79 = .ok (.lastore, 1) := by decide +kernel
theorem dX8_keep_80 : decode cX8_keep 80 = .ok (.iinc 1 1, 3) := by decide +kernel
theorem dX8_keep_83 : decode cX8_keep 83 = .ok (.goto (-31), 3) := by decide +kernel
theorem dX8_keep_86 : decode cX8_keep 86 = .ok (.aload_n 0, 1) := by decide +kernel
theorem dX8_keep_87 : decode cX8_keep 87 = .ok (.dup, 1) := by decide +kernel
theorem dX8_keep_88 : decode cX8_keep 88 = .ok (.getfield 41, 3) := by decide +kernel
theorem dX8_keep_91 : decode cX8_keep 91 = .ok (.iconst 1, 1) := by decide +kernel
theorem dX8_keep_92 : decode cX8_keep 92 = .ok (.iadd, 1) := by decide +kernel
theorem dX8_keep_93 : decode cX8_keep 93 = .ok (.putfield 41, 3) := by decide +kernel
theorem dX8_keep_96 : decode cX8_keep 96 = .ok (.return_, 1) := by decide +kernel
theorem dX8_undo_0 : decode cX8_undo 0 = .ok (.aload_n 0, 1) := by decide +kernel
theorem dX8_undo_1 : decode cX8_undo 1 = .ok (.getfield 41, 3) := by decide +kernel
theorem dX8_undo_4 : decode cX8_undo 4 = .ok (.ifCond .ne 6, 3) := by decide +kernel
theorem dX8_undo_7 : decode cX8_undo 7 = .ok (.bipush (-2), 2) := by decide +kernel
theorem dX8_undo_9 : decode cX8_undo 9 = .ok (.ireturn, 1) := by decide +kernel
theorem dX8_undo_10 : decode cX8_undo 10 = .ok (.aload_n 0, 1) := by decide +kernel
theorem dX8_undo_11 : decode cX8_undo 11 = .ok (.dup, 1) := by decide +kernel
theorem dX8_undo_12 : decode cX8_undo 12 = .ok (.getfield 41, 3) := by decide +kernel
theorem dX8_undo_15 : decode cX8_undo 15 = .ok (.iconst 1, 1) := by decide +kernel
theorem dX8_undo_16 : decode cX8_undo 16 = .ok (.isub, 1) := by decide +kernel
theorem dX8_undo_17 : decode cX8_undo 17 = .ok (.putfield 41, 3) := by decide +kernel
theorem dX8_undo_20 : decode cX8_undo 20 = .ok (.iconst 0, 1) := by decide +kernel
theorem dX8_undo_21 : decode cX8_undo 21 = .ok (.istore_n 1, 1) := by decide +kernel
theorem dX8_undo_22 : decode cX8_undo 22 = .ok (.iload_n 1, 1) := by decide +kernel
theorem dX8_undo_23 : decode cX8_undo 23 = .ok (.sipush 613, 3) := by decide +kernel
theorem dX8_undo_26 : decode cX8_undo 26 = .ok (.if_icmp .ge 30, 3) := by decide +kernel
theorem dX8_undo_29 : decode cX8_undo 29 = .ok (.aload_n 0, 1) := by decide +kernel
theorem dX8_undo_30 : decode cX8_undo 30 = .ok (.getfield 7, 3) := by decide +kernel
theorem dX8_undo_33 : decode cX8_undo 33 = .ok (.iload_n 1, 1) := by decide +kernel
theorem dX8_undo_34 : decode cX8_undo 34 = .ok (.aload_n 0, 1) := by decide +kernel
theorem dX8_undo_35 : decode cX8_undo 35 = .ok (.getfield 13, 3) := by decide +kernel
theorem dX8_undo_38 : decode cX8_undo 38 = .ok (.sipush 613, 3) := by decide +kernel
theorem dX8_undo_41 : decode cX8_undo 41 = .ok (.aload_n 0, 1) := by decide +kernel
theorem dX8_undo_42 : decode cX8_undo 42 = .ok (.getfield 41, 3) := by decide +kernel
theorem dX8_undo_45 : decode cX8_undo 45 = .ok (.imul, 1) := by decide +kernel
theorem dX8_undo_46 : decode cX8_undo 46 = .ok (.iload_n 1, 1) := by decide +kernel
theorem dX8_undo_47 : decode cX8_undo 47 = .ok (.iadd, 1) := by decide +kernel
theorem dX8_undo_48 : decode cX8_undo 48 = .ok (.laload, 1) := by decide +kernel
theorem dX8_undo_49 : decode cX8_undo 49 = .ok (.lastore, 1) := by decide +kernel
theorem dX8_undo_50 : decode cX8_undo 50 = .ok (.iinc 1 1, 3) := by decide +kernel
theorem dX8_undo_53 : decode cX8_undo 53 = .ok (.goto (-31), 3) := by decide +kernel
theorem dX8_undo_56 : decode cX8_undo 56 = .ok (.aload_n 0, 1) := by decide +kernel
theorem dX8_undo_57 : decode cX8_undo 57 = .ok (.getfield 41, 3) := by decide +kernel
theorem dX8_undo_60 : decode cX8_undo 60 = .ok (.ireturn, 1) := by decide +kernel
set_option maxRecDepth 20000 in
theorem ggX8_isMember_X8_in : GoodIn wsX8_isMember wsX8_in := goodIn_r _ [5] (by decide +kernel) (by decide +kernel)
set_option maxRecDepth 20000 in
theorem gX8_isMember_X8_in : GoodIn wsX8_isMember (va_wsS RX8 45 yX8_in wsX8_in) := goodIn_app (goodIn_of _ (by decide +kernel)) ggX8_isMember_X8_in
theorem dX8_isMember_0 : decode cX8_isMember 0 = .ok (.iload_n 1, 1) := by decide +kernel
theorem dX8_isMember_1 : decode cX8_isMember 1 = .ok (.i2l, 1) := by decide +kernel
theorem dX8_isMember_2 : decode cX8_isMember 2 = .ok (.lconst 0, 1) := by decide +kernel
theorem dX8_isMember_3 : decode cX8_isMember 3 = .ok (.aload_n 0, 1) := by decide +kernel
theorem dX8_isMember_4 : decode cX8_isMember 4 = .ok (.getfield 7, 3) := by decide +kernel
theorem dX8_isMember_7 : decode cX8_isMember 7 = .ok (.iconst 0, 1) := by decide +kernel
theorem dX8_isMember_8 : decode cX8_isMember 8 = .ok (.laload, 1) := by decide +kernel
theorem dX8_isMember_9 : decode cX8_isMember 9 = .ok (.lconst 1, 1) := by decide +kernel
theorem dX8_isMember_10 : decode cX8_isMember 10 = .ok (.lsub, 1) := by decide +kernel
theorem dX8_isMember_11 : decode cX8_isMember 11 = .ok (.invokestatic 45, 3) := by decide +kernel
theorem dX8_isMember_14 : decode cX8_isMember 14 = .ok (.ireturn, 1) := by decide +kernel
set_option maxRecDepth 20000 in
theorem ggX8_isHere_X8_isMember : GoodIn wsX8_isHere wsX8_isMember := goodIn_r _ [6, 1, 7, 8, 5, 9, 10, 11, 12, 13, 14, 15, 16, 17, 18, 19, 20, 21, 22] (by decide +kernel) (by decide +kernel)
set_option maxRecDepth 20000 in
theorem gX8_isHere_X8_isMember : GoodIn wsX8_isHere (wsV RX8 49 RX8 yX8_isMember wsX8_isMember) := goodIn_app (goodIn_of _ (by decide +kernel)) ggX8_isHere_X8_isMember
theorem dX8_isHere_0 : decode cX8_isHere 0 = .ok (.aload_n 0, 1) := by decide +kernel
theorem dX8_isHere_1 : decode cX8_isHere 1 = .ok (.iload_n 1, 1) := by decide +kernel
theorem dX8_isHere_2 : decode cX8_isHere 2 = .ok (.invokevirtual 49, 3) := by decide +kernel
theorem dX8_isHere_5 : decode cX8_isHere 5 = .ok (.ifCond .eq 21, 3) := by decide +kernel
theorem dX8_isHere_8 : decode cX8_isHere 8 = .ok (.aload_n 0, 1) := by decide +kernel
theorem dX8_isHere_9 : decode cX8_isHere 9 = .ok (.getfield 7, 3) := by decide +kernel
theorem dX8_isHere_12 : decode cX8_isHere 12 = .ok (.bipush 13, 2) := by decide +kernel
theorem dX8_isHere_14 : decode cX8_isHere 14 = .ok (.iload_n 1, 1) := by decide +kernel
theorem dX8_isHere_15 : decode cX8_isHere 15 = .ok (.iadd, 1) := by decide +kernel
theorem dX8_isHere_16 : decode cX8_isHere 16 = .ok (.laload, 1) := by decide +kernel
theorem dX8_isHere_17 : decode cX8_isHere 17 = .ok (.lconst 1, 1) := by decide +kernel
theorem dX8_isHere_18 : decode cX8_isHere 18 = .ok (.lcmp, 1) := by decide +kernel
theorem dX8_isHere_19 : decode cX8_isHere 19 = .ok (.ifCond .ne 7, 3) := by decide +kernel
theorem dX8_isHere_22 : decode cX8_isHere 22 = .ok (.iconst 1, 1) := by decide +kernel
theorem dX8_isHere_23 : decode cX8_isHere 23 = .ok (.goto 4, 3) := by decide +kernel
theorem dX8_isHere_26 : decode cX8_isHere 26 = .ok (.iconst 0, 1) := by decide +kernel
theorem dX8_isHere_27 : decode cX8_isHere 27 = .ok (.ireturn, 1) := by decide +kernel
theorem dX8_areJoined_0 : decode cX8_areJoined 0 = .ok (.aload_n 0, 1) := by decide +kernel
theorem dX8_areJoined_1 : decode cX8_areJoined 1 = .ok (.getfield 7, 3) := by decide +kernel
theorem dX8_areJoined_4 : decode cX8_areJoined 4 = .ok (.iconst 3, 1) := by decide +kernel
theorem dX8_areJoined_5 : decode cX8_areJoined 5 = .ok (.iload_n 1, 1) := by decide +kernel
theorem dX8_areJoined_6 : decode cX8_areJoined 6 = .ok (.iadd, 1) := by decide +kernel
theorem dX8_areJoined_7 : decode cX8_areJoined 7 = .ok (.laload, 1) := by decide +kernel
theorem dX8_areJoined_8 : decode cX8_areJoined 8 = .ok (.iload_n 2, 1) := by decide +kernel
theorem dX8_areJoined_9 : decode cX8_areJoined 9 = .ok (.lshr, 1) := by decide +kernel
theorem dX8_areJoined_10 : decode cX8_areJoined 10 = .ok (.lconst 1, 1) := by decide +kernel
theorem dX8_areJoined_11 : decode cX8_areJoined 11 = .ok (.land, 1) := by decide +kernel
theorem dX8_areJoined_12 : decode cX8_areJoined 12 = .ok (.lconst 1, 1) := by decide +kernel
theorem dX8_areJoined_13 : decode cX8_areJoined 13 = .ok (.lcmp, 1) := by decide +kernel
theorem dX8_areJoined_14 : decode cX8_areJoined 14 = .ok (.ifCond .ne 7, 3) := by decide +kernel
theorem dX8_areJoined_17 : decode cX8_areJoined 17 = .ok (.iconst 1, 1) := by decide +kernel
theorem dX8_areJoined_18 : decode cX8_areJoined 18 = .ok (.goto 4, 3) := by decide +kernel
theorem dX8_areJoined_21 : decode cX8_areJoined 21 = .ok (.iconst 0, 1) := by decide +kernel
theorem dX8_areJoined_22 : decode cX8_areJoined 22 = .ok (.ireturn, 1) := by decide +kernel
theorem dX8_drawn_0 : decode cX8_drawn 0 = .ok (.aload_n 0, 1) := by decide +kernel
theorem dX8_drawn_1 : decode cX8_drawn 1 = .ok (.getfield 7, 3) := by decide +kernel
theorem dX8_drawn_4 : decode cX8_drawn 4 = .ok (.iconst 1, 1) := by decide +kernel
theorem dX8_drawn_5 : decode cX8_drawn 5 = .ok (.aload_n 0, 1) := by decide +kernel
theorem dX8_drawn_6 : decode cX8_drawn 6 = .ok (.getfield 7, 3) := by decide +kernel
theorem dX8_drawn_9 : decode cX8_drawn 9 = .ok (.iconst 1, 1) := by decide +kernel
theorem dX8_drawn_10 : decode cX8_drawn 10 = .ok (.laload, 1) := by decide +kernel
theorem dX8_drawn_11 : decode cX8_drawn 11 = .ok (.ldc2_w 53, 3) := by decide +kernel
theorem dX8_drawn_14 : decode cX8_drawn 14 = .ok (.lmul, 1) := by decide +kernel
theorem dX8_drawn_15 : decode cX8_drawn 15 = .ok (.ldc2_w 55, 3) := by decide +kernel
theorem dX8_drawn_18 : decode cX8_drawn 18 = .ok (.ladd, 1) := by decide +kernel
theorem dX8_drawn_19 : decode cX8_drawn 19 = .ok (.ldc2_w 57, 3) := by decide +kernel
theorem dX8_drawn_22 : decode cX8_drawn 22 = .ok (.land, 1) := by decide +kernel
theorem dX8_drawn_23 : decode cX8_drawn 23 = .ok (.lastore, 1) := by decide +kernel
theorem dX8_drawn_24 : decode cX8_drawn 24 = .ok (.aload_n 0, 1) := by decide +kernel
theorem dX8_drawn_25 : decode cX8_drawn 25 = .ok (.getfield 7, 3) := by decide +kernel
theorem dX8_drawn_28 : decode cX8_drawn 28 = .ok (.iconst 1, 1) := by decide +kernel
theorem dX8_drawn_29 : decode cX8_drawn 29 = .ok (.laload, 1) := by decide +kernel
theorem dX8_drawn_30 : decode cX8_drawn 30 = .ok (.l2i, 1) := by decide +kernel
theorem dX8_drawn_31 : decode cX8_drawn 31 = .ok (.ireturn, 1) := by decide +kernel
set_option maxRecDepth 20000 in
theorem ggX8_lines_X8_areJoined : GoodIn wsX8_lines wsX8_areJoined := goodIn_r _ [5, 6, 7, 8, 9, 10, 11, 12, 13, 14, 15, 16, 17, 18, 19] (by decide +kernel) (by decide +kernel)
set_option maxRecDepth 20000 in
theorem gX8_lines_X8_areJoined : GoodIn wsX8_lines (wsV RX8 59 RX8 yX8_areJoined wsX8_areJoined) := goodIn_app (goodIn_of _ (by decide +kernel)) ggX8_lines_X8_areJoined
theorem dX8_lines_0 : decode cX8_lines 0 = .ok (.iconst 0, 1) := by decide +kernel
theorem dX8_lines_1 : decode cX8_lines 1 = .ok (.istore_n 1, 1) := by decide +kernel
theorem dX8_lines_2 : decode cX8_lines 2 = .ok (.iconst 0, 1) := by decide +kernel
theorem dX8_lines_3 : decode cX8_lines 3 = .ok (.istore_n 2, 1) := by decide +kernel
theorem dX8_lines_4 : decode cX8_lines 4 = .ok (.iload_n 2, 1) := by decide +kernel
theorem dX8_lines_5 : decode cX8_lines 5 = .ok (.bipush 10, 2) := by decide +kernel
theorem dX8_lines_7 : decode cX8_lines 7 = .ok (.if_icmp .ge 42, 3) := by decide +kernel
theorem dX8_lines_10 : decode cX8_lines 10 = .ok (.iload_n 2, 1) := by decide +kernel
theorem dX8_lines_11 : decode cX8_lines 11 = .ok (.iconst 1, 1) := by decide +kernel
theorem dX8_lines_12 : decode cX8_lines 12 = .ok (.iadd, 1) := by decide +kernel
theorem dX8_lines_13 : decode cX8_lines 13 = .ok (.istore_n 3, 1) := by decide +kernel
theorem dX8_lines_14 : decode cX8_lines 14 = .ok (.iload_n 3, 1) := by decide +kernel
theorem dX8_lines_15 : decode cX8_lines 15 = .ok (.bipush 10, 2) := by decide +kernel
theorem dX8_lines_17 : decode cX8_lines 17 = .ok (.if_icmp .ge 26, 3) := by decide +kernel
theorem dX8_lines_20 : decode cX8_lines 20 = .ok (.iload_n 1, 1) := by decide +kernel
theorem dX8_lines_21 : decode cX8_lines 21 = .ok (.aload_n 0, 1) := by decide +kernel
theorem dX8_lines_22 : decode cX8_lines 22 = .ok (.iload_n 2, 1) := by decide +kernel
theorem dX8_lines_23 : decode cX8_lines 23 = .ok (.iload_n 3, 1) := by decide +kernel
theorem dX8_lines_24 : decode cX8_lines 24 = .ok (.invokevirtual 59, 3) := by decide +kernel
theorem dX8_lines_27 : decode cX8_lines 27 = .ok (.ifCond .eq 7, 3) := by decide +kernel
theorem dX8_lines_30 : decode cX8_lines 30 = .ok (.iconst 1, 1) := by decide +kernel
theorem dX8_lines_31 : decode cX8_lines 31 = .ok (.goto 4, 3) := by decide +kernel
theorem dX8_lines_34 : decode cX8_lines 34 = .ok (.iconst 0, 1) := by decide +kernel
theorem dX8_lines_35 : decode cX8_lines 35 = .ok (.iadd, 1) := by decide +kernel
theorem dX8_lines_36 : decode cX8_lines 36 = .ok (.istore_n 1, 1) := by decide +kernel
theorem dX8_lines_37 : decode cX8_lines 37 = .ok (.iinc 3 1, 3) := by decide +kernel
theorem dX8_lines_40 : decode cX8_lines 40 = .ok (.goto (-26), 3) := by decide +kernel
theorem dX8_lines_43 : decode cX8_lines 43 = .ok (.iinc 2 1, 3) := by decide +kernel
theorem dX8_lines_46 : decode cX8_lines 46 = .ok (.goto (-42), 3) := by decide +kernel
theorem dX8_lines_49 : decode cX8_lines 49 = .ok (.iload_n 1, 1) := by decide +kernel
theorem dX8_lines_50 : decode cX8_lines 50 = .ok (.ireturn, 1) := by decide +kernel
theorem dX8_knowsItself_0 : decode cX8_knowsItself 0 = .ok (.aload_n 0, 1) := by decide +kernel
theorem dX8_knowsItself_1 : decode cX8_knowsItself 1 = .ok (.getfield 7, 3) := by decide +kernel
theorem dX8_knowsItself_4 : decode cX8_knowsItself 4 = .ok (.bipush 53, 2) := by decide +kernel
theorem dX8_knowsItself_6 : decode cX8_knowsItself 6 = .ok (.iload_n 1, 1) := by decide +kernel
theorem dX8_knowsItself_7 : decode cX8_knowsItself 7 = .ok (.iadd, 1) := by decide +kernel
theorem dX8_knowsItself_8 : decode cX8_knowsItself 8 = .ok (.aload_n 0, 1) := by decide +kernel
theorem dX8_knowsItself_9 : decode cX8_knowsItself 9 = .ok (.getfield 7, 3) := by decide +kernel
theorem dX8_knowsItself_12 : decode cX8_knowsItself 12 = .ok (.bipush 23, 2) := by decide +kernel
theorem dX8_knowsItself_14 : decode cX8_knowsItself 14 = .ok (.iload_n 1, 1) := by decide +kernel
theorem dX8_knowsItself_15 : decode cX8_knowsItself 15 = .ok (.iadd, 1) := by decide +kernel
theorem dX8_knowsItself_16 : decode cX8_knowsItself 16 = .ok (.laload, 1) := by decide +kernel
theorem dX8_knowsItself_17 : decode cX8_knowsItself 17 = .ok (.lastore, 1) := by decide +kernel
theorem dX8_knowsItself_18 : decode cX8_knowsItself 18 = .ok (.aload_n 0, 1) := by decide +kernel
theorem dX8_knowsItself_19 : decode cX8_knowsItself 19 = .ok (.getfield 7, 3) := by decide +kernel
theorem dX8_knowsItself_22 : decode cX8_knowsItself 22 = .ok (.bipush 63, 2) := by decide +kernel
theorem dX8_knowsItself_24 : decode cX8_knowsItself 24 = .ok (.iload_n 1, 1) := by decide +kernel
theorem dX8_knowsItself_25 : decode cX8_knowsItself 25 = .ok (.iadd, 1) := by decide +kernel
theorem dX8_knowsItself_26 : decode cX8_knowsItself 26 = .ok (.aload_n 0, 1) := by decide +kernel
theorem dX8_knowsItself_27 : decode cX8_knowsItself 27 = .ok (.getfield 7, 3) := by decide +kernel
theorem dX8_knowsItself_30 : decode cX8_knowsItself 30 = .ok (.bipush 23, 2) := by decide +kernel
theorem dX8_knowsItself_32 : decode cX8_knowsItself 32 = .ok (.iload_n 1, 1) := by decide +kernel
theorem dX8_knowsItself_33 : decode cX8_knowsItself 33 = .ok (.iadd, 1) := by decide +kernel
theorem dX8_knowsItself_34 : decode cX8_knowsItself 34 = .ok (.laload, 1) := by decide +kernel
theorem dX8_knowsItself_35 : decode cX8_knowsItself 35 = .ok (.lastore, 1) := by decide +kernel
theorem dX8_knowsItself_36 : decode cX8_knowsItself 36 = .ok (.iconst 0, 1) := by decide +kernel
theorem dX8_knowsItself_37 : decode cX8_knowsItself 37 = .ok (.istore_n 2, 1) := by decide +kernel
theorem dX8_knowsItself_38 : decode cX8_knowsItself 38 = .ok (.iload_n 2, 1) := by decide +kernel
theorem dX8_knowsItself_39 : decode cX8_knowsItself 39 = .ok (.bipush 10, 2) := by decide +kernel
theorem dX8_knowsItself_41 : decode cX8_knowsItself 41 = .ok (.if_icmp .ge 28, 3) := by decide +kernel
theorem dX8_knowsItself_44 : decode cX8_knowsItself 44 = .ok (.aload_n 0, 1) := by decide +kernel
theorem dX8_knowsItself_45 : decode cX8_knowsItself 45 = .ok (.getfield 7, 3) := by decide +kernel
theorem dX8_knowsItself_48 : decode cX8_knowsItself 48 = .ok (.bipush 73, 2) := by decide +kernel
theorem dX8_knowsItself_50 : decode cX8_knowsItself 50 = .ok (.iload_n 2, 1) := by decide +kernel
theorem dX8_knowsItself_51 : decode cX8_knowsItself 51 = .ok (.iadd, 1) := by decide +kernel
theorem dX8_knowsItself_52 : decode cX8_knowsItself 52 = .ok (.dup2, 1) := by decide +kernel
theorem dX8_knowsItself_53 : decode cX8_knowsItself 53 = .ok (.laload, 1) := by decide +kernel
theorem dX8_knowsItself_54 : decode cX8_knowsItself 54 = .ok (.lconst 1, 1) := by decide +kernel
theorem dX8_knowsItself_55 : decode cX8_knowsItself 55 = .ok (.iload_n 1, 1) := by decide +kernel
theorem dX8_knowsItself_56 : decode cX8_knowsItself 56 = .ok (.lshl, 1) := by decide +kernel
theorem dX8_knowsItself_57 : decode cX8_knowsItself 57 = .ok (.ldc2_w 63, 3) := by decide +kernel
theorem dX8_knowsItself_60 : decode cX8_knowsItself 60 = .ok (.lxor, 1) := by decide +kernel
theorem dX8_knowsItself_61 : decode cX8_knowsItself 61 = .ok (.land, 1) := by decide +kernel
theorem dX8_knowsItself_62 : decode cX8_knowsItself 62 = .ok (.lastore, 1) := by decide +kernel
theorem dX8_knowsItself_63 : decode cX8_knowsItself 63 = .ok (.iinc 2 1, 3) := by decide +kernel
theorem dX8_knowsItself_66 : decode cX8_knowsItself 66 = .ok (.goto (-28), 3) := by decide +kernel
theorem dX8_knowsItself_69 : decode cX8_knowsItself 69 = .ok (.aload_n 0, 1) := by decide +kernel
theorem dX8_knowsItself_70 : decode cX8_knowsItself 70 = .ok (.getfield 7, 3) := by decide +kernel
theorem dX8_knowsItself_73 : decode cX8_knowsItself 73 = .ok (.bipush 73, 2) := by decide +kernel
theorem dX8_knowsItself_75 : decode cX8_knowsItself 75 = .ok (.iload_n 1, 1) := by decide +kernel
theorem dX8_knowsItself_76 : decode cX8_knowsItself 76 = .ok (.iadd, 1) := by decide +kernel
theorem dX8_knowsItself_77 : decode cX8_knowsItself 77 = .ok (.lconst 1, 1) := by decide +kernel
theorem dX8_knowsItself_78 : decode cX8_knowsItself 78 = .ok (.iload_n 1, 1) := by decide +kernel
theorem dX8_knowsItself_79 : decode cX8_knowsItself 79 = .ok (.lshl, 1) := by decide +kernel
theorem dX8_knowsItself_80 : decode cX8_knowsItself 80 = .ok (.lastore, 1) := by decide +kernel
theorem dX8_knowsItself_81 : decode cX8_knowsItself 81 = .ok (.return_, 1) := by decide +kernel
set_option maxRecDepth 20000 in
theorem ggX8_drawsTicket_X8_drawn : GoodIn wsX8_drawsTicket wsX8_drawn := goodIn_r _ [6, 1, 7, 8, 9, 10, 11, 12, 13, 14, 15, 16, 17, 18, 19, 20, 21, 22] (by decide +kernel) (by decide +kernel)
set_option maxRecDepth 20000 in
theorem gX8_drawsTicket_X8_drawn : GoodIn wsX8_drawsTicket (wsV RX8 65 RX8 yX8_drawn wsX8_drawn) := goodIn_app (goodIn_of _ (by decide +kernel)) ggX8_drawsTicket_X8_drawn
theorem dX8_drawsTicket_0 : decode cX8_drawsTicket 0 = .ok (.aload_n 0, 1) := by decide +kernel
theorem dX8_drawsTicket_1 : decode cX8_drawsTicket 1 = .ok (.getfield 7, 3) := by decide +kernel
theorem dX8_drawsTicket_4 : decode cX8_drawsTicket 4 = .ok (.bipush 83, 2) := by decide +kernel
theorem dX8_drawsTicket_6 : decode cX8_drawsTicket 6 = .ok (.iload_n 1, 1) := by decide +kernel
theorem dX8_drawsTicket_7 : decode cX8_drawsTicket 7 = .ok (.iadd, 1) := by decide +kernel
theorem dX8_drawsTicket_8 : decode cX8_drawsTicket 8 = .ok (.lconst 1, 1) := by decide +kernel
theorem dX8_drawsTicket_9 : decode cX8_drawsTicket 9 = .ok (.lastore, 1) := by decide +kernel
theorem dX8_drawsTicket_10 : decode cX8_drawsTicket 10 = .ok (.aload_n 0, 1) := by decide +kernel
theorem dX8_drawsTicket_11 : decode cX8_drawsTicket 11 = .ok (.getfield 7, 3) := by decide +kernel
theorem dX8_drawsTicket_14 : decode cX8_drawsTicket 14 = .ok (.bipush 93, 2) := by decide +kernel
theorem dX8_drawsTicket_16 : decode cX8_drawsTicket 16 = .ok (.iconst 4, 1) := by decide +kernel
theorem dX8_drawsTicket_17 : decode cX8_drawsTicket 17 = .ok (.iload_n 1, 1) := by decide +kernel
theorem dX8_drawsTicket_18 : decode cX8_drawsTicket 18 = .ok (.imul, 1) := by decide +kernel
theorem dX8_drawsTicket_19 : decode cX8_drawsTicket 19 = .ok (.iadd, 1) := by decide +kernel
theorem dX8_drawsTicket_20 : decode cX8_drawsTicket 20 = .ok (.aload_n 0, 1) := by decide +kernel
theorem dX8_drawsTicket_21 : decode cX8_drawsTicket 21 = .ok (.invokevirtual 65, 3) := by decide +kernel
theorem dX8_drawsTicket_24 : decode cX8_drawsTicket 24 = .ok (.i2l, 1) := by decide +kernel
theorem dX8_drawsTicket_25 : decode cX8_drawsTicket 25 = .ok (.lastore, 1) := by decide +kernel
theorem dX8_drawsTicket_26 : decode cX8_drawsTicket 26 = .ok (.aload_n 0, 1) := by decide +kernel
theorem dX8_drawsTicket_27 : decode cX8_drawsTicket 27 = .ok (.getfield 7, 3) := by decide +kernel
theorem dX8_drawsTicket_30 : decode cX8_drawsTicket 30 = .ok (.sipush 133, 3) := by decide +kernel
theorem dX8_drawsTicket_33 : decode cX8_drawsTicket 33 = .ok (.iconst 4, 1) := by decide +kernel
theorem dX8_drawsTicket_34 : decode cX8_drawsTicket 34 = .ok (.iload_n 1, 1) := by decide +kernel
theorem dX8_drawsTicket_35 : decode cX8_drawsTicket 35 = .ok (.imul, 1) := by decide +kernel
theorem dX8_drawsTicket_36 : decode cX8_drawsTicket 36 = .ok (.iadd, 1) := by decide +kernel
theorem dX8_drawsTicket_37 : decode cX8_drawsTicket 37 = .ok (.iload_n 1, 1) := by decide +kernel
theorem dX8_drawsTicket_38 : decode cX8_drawsTicket 38 = .ok (.i2l, 1) := by decide +kernel
theorem dX8_drawsTicket_39 : decode cX8_drawsTicket 39 = .ok (.lastore, 1) := by decide +kernel
theorem dX8_drawsTicket_40 : decode cX8_drawsTicket 40 = .ok (.return_, 1) := by decide +kernel
set_option maxRecDepth 20000 in
theorem ggX8_begins_X8_knowsItself : GoodIn wsX8_begins wsX8_knowsItself := goodIn_r _ [7, 1, 8, 20, 21, 22, 23, 24, 25, 26, 27, 28, 29, 30, 31, 32] (by decide +kernel) (by decide +kernel)
set_option maxRecDepth 20000 in
theorem gX8_begins_X8_knowsItself : GoodIn wsX8_begins (wsV RX8 71 RX8 yX8_knowsItself wsX8_knowsItself) := goodIn_app (goodIn_of _ (by decide +kernel)) ggX8_begins_X8_knowsItself
set_option maxRecDepth 20000 in
theorem ggX8_begins_X8_drawsTicket : GoodIn wsX8_begins wsX8_drawsTicket := goodIn_r _ [12, 1, 13, 14, 15, 6, 16, 17, 18, 19, 20, 21, 22, 23, 24, 25, 26, 27, 28, 29, 30, 31, 32] (by decide +kernel) (by decide +kernel)
set_option maxRecDepth 20000 in
theorem gX8_begins_X8_drawsTicket : GoodIn wsX8_begins (wsV RX8 75 RX8 yX8_drawsTicket wsX8_drawsTicket) := goodIn_app (goodIn_of _ (by decide +kernel)) ggX8_begins_X8_drawsTicket
theorem dX8_begins_0 : decode cX8_begins 0 = .ok (.aload_n 0, 1) := by decide +kernel
theorem dX8_begins_1 : decode cX8_begins 1 = .ok (.getfield 7, 3) := by decide +kernel
theorem dX8_begins_4 : decode cX8_begins 4 = .ok (.bipush 13, 2) := by decide +kernel
theorem dX8_begins_6 : decode cX8_begins 6 = .ok (.iload_n 1, 1) := by decide +kernel
theorem dX8_begins_7 : decode cX8_begins 7 = .ok (.iadd, 1) := by decide +kernel
theorem dX8_begins_8 : decode cX8_begins 8 = .ok (.lconst 1, 1) := by decide +kernel
theorem dX8_begins_9 : decode cX8_begins 9 = .ok (.lastore, 1) := by decide +kernel
theorem dX8_begins_10 : decode cX8_begins 10 = .ok (.aload_n 0, 1) := by decide +kernel
theorem dX8_begins_11 : decode cX8_begins 11 = .ok (.getfield 7, 3) := by decide +kernel
theorem dX8_begins_14 : decode cX8_begins 14 = .ok (.bipush 23, 2) := by decide +kernel
theorem dX8_begins_16 : decode cX8_begins 16 = .ok (.iload_n 1, 1) := by decide +kernel
theorem dX8_begins_17 : decode cX8_begins 17 = .ok (.iadd, 1) := by decide +kernel
theorem dX8_begins_18 : decode cX8_begins 18 = .ok (.iload_n 2, 1) := by decide +kernel
theorem dX8_begins_19 : decode cX8_begins 19 = .ok (.i2l, 1) := by decide +kernel
theorem dX8_begins_20 : decode cX8_begins 20 = .ok (.lastore, 1) := by decide +kernel
theorem dX8_begins_21 : decode cX8_begins 21 = .ok (.aload_n 0, 1) := by decide +kernel
theorem dX8_begins_22 : decode cX8_begins 22 = .ok (.getfield 7, 3) := by decide +kernel
theorem dX8_begins_25 : decode cX8_begins 25 = .ok (.bipush 33, 2) := by decide +kernel
theorem dX8_begins_27 : decode cX8_begins 27 = .ok (.iload_n 1, 1) := by decide +kernel
theorem dX8_begins_28 : decode cX8_begins 28 = .ok (.iadd, 1) := by decide +kernel
theorem dX8_begins_29 : decode cX8_begins 29 = .ok (.iload_n 2, 1) := by decide +kernel
theorem dX8_begins_30 : decode cX8_begins 30 = .ok (.i2l, 1) := by decide +kernel
theorem dX8_begins_31 : decode cX8_begins 31 = .ok (.ldc2_w 69, 3) := by decide +kernel
theorem dX8_begins_34 : decode cX8_begins 34 = .ok (.lmul, 1) := by decide +kernel
theorem dX8_begins_35 : decode cX8_begins 35 = .ok (.lastore, 1) := by decide +kernel
theorem dX8_begins_36 : decode cX8_begins 36 = .ok (.aload_n 0, 1) := by decide +kernel
theorem dX8_begins_37 : decode cX8_begins 37 = .ok (.getfield 7, 3) := by decide +kernel
theorem dX8_begins_40 : decode cX8_begins 40 = .ok (.bipush 43, 2) := by decide +kernel
theorem dX8_begins_42 : decode cX8_begins 42 = .ok (.iload_n 1, 1) := by decide +kernel
theorem dX8_begins_43 : decode cX8_begins 43 = .ok (.iadd, 1) := by decide +kernel
theorem dX8_begins_44 : decode cX8_begins 44 = .ok (.ldc2_w 69, 3) := by decide +kernel
theorem dX8_begins_47 : decode cX8_begins 47 = .ok (.lastore, 1) := by decide +kernel
theorem dX8_begins_48 : decode cX8_begins 48 = .ok (.aload_n 0, 1) := by decide +kernel
theorem dX8_begins_49 : decode cX8_begins 49 = .ok (.iload_n 1, 1) := by decide +kernel
theorem dX8_begins_50 : decode cX8_begins 50 = .ok (.invokevirtual 71, 3) := by decide +kernel
theorem dX8_begins_53 : decode cX8_begins 53 = .ok (.aload_n 0, 1) := by decide +kernel
theorem dX8_begins_54 : decode cX8_begins 54 = .ok (.iload_n 1, 1) := by decide +kernel
theorem dX8_begins_55 : decode cX8_begins 55 = .ok (.invokevirtual 75, 3) := by decide +kernel
theorem dX8_begins_58 : decode cX8_begins 58 = .ok (.return_, 1) := by decide +kernel
set_option maxRecDepth 20000 in
theorem ggX8_come_X8_in : GoodIn wsX8_come wsX8_in := goodIn_r _ [8] (by decide +kernel) (by decide +kernel)
set_option maxRecDepth 20000 in
theorem gX8_come_X8_in : GoodIn wsX8_come (va_wsS RX8 45 yX8_in wsX8_in) := goodIn_app (goodIn_of _ (by decide +kernel)) ggX8_come_X8_in
set_option maxRecDepth 20000 in
theorem ggX8_come_X8_keep : GoodIn wsX8_come wsX8_keep := goodIn_r _ [12, 13, 14, 3, 36, 37, 38, 39, 40, 41, 42, 43, 44, 45, 46, 47, 48] (by decide +kernel) (by decide +kernel)
set_option maxRecDepth 20000 in
theorem gX8_come_X8_keep : GoodIn wsX8_come (wsV RX8 84 RX8 yX8_keep wsX8_keep) := goodIn_app (goodIn_of _ (by decide +kernel)) ggX8_come_X8_keep
set_option maxRecDepth 20000 in
theorem ggX8_come_X8_begins : GoodIn wsX8_come wsX8_begins := goodIn_r _ [18, 3, 19, 20, 21, 22, 7, 23, 24, 25, 26, 27, 28, 29, 30, 31, 32, 33, 34, 35, 36, 37, 38, 39, 40, 41, 42, 43, 44, 45, 46, 47, 48] (by decide +kernel) (by decide +kernel)
set_option maxRecDepth 20000 in
theorem gX8_come_X8_begins : GoodIn wsX8_come (wsV RX8 87 RX8 yX8_begins wsX8_begins) := goodIn_app (goodIn_of _ (by decide +kernel)) ggX8_come_X8_begins
theorem dX8_come_0 : decode cX8_come 0 = .ok (.iload_n 1, 1) := by decide +kernel
theorem dX8_come_1 : decode cX8_come 1 = .ok (.i2l, 1) := by decide +kernel
theorem dX8_come_2 : decode cX8_come 2 = .ok (.ldc2_w 78, 3) := by decide +kernel
theorem dX8_come_5 : decode cX8_come 5 = .ok (.ldc2_w 80, 3) := by decide +kernel
theorem dX8_come_8 : decode cX8_come 8 = .ok (.invokestatic 45, 3) := by decide +kernel
theorem dX8_come_11 : decode cX8_come 11 = .ok (.ifCond .ne 5, 3) := by decide +kernel
theorem dX8_come_14 : decode cX8_come 14 = .ok (.iconst (-1), 1) := by decide +kernel
theorem dX8_come_15 : decode cX8_come 15 = .ok (.ireturn, 1) := by decide +kernel
theorem dX8_come_16 : decode cX8_come 16 = .ok (.aload_n 0, 1) := by decide +kernel
theorem dX8_come_17 : decode cX8_come 17 = .ok (.getfield 7, 3) := by decide +kernel
theorem dX8_come_20 : decode cX8_come 20 = .ok (.iconst 0, 1) := by decide +kernel
theorem dX8_come_21 : decode cX8_come 21 = .ok (.laload, 1) := by decide +kernel
theorem dX8_come_22 : decode cX8_come 22 = .ok (.ldc2_w 82, 3) := by decide +kernel
theorem dX8_come_25 : decode cX8_come 25 = .ok (.lcmp, 1) := by decide +kernel
theorem dX8_come_26 : decode cX8_come 26 = .ok (.ifCond .ne 6, 3) := by decide +kernel
theorem dX8_come_29 : decode cX8_come 29 = .ok (.bipush (-3), 2) := by decide +kernel
theorem dX8_come_31 : decode cX8_come 31 = .ok (.ireturn, 1) := by decide +kernel
theorem dX8_come_32 : decode cX8_come 32 = .ok (.aload_n 0, 1) := by decide +kernel
theorem dX8_come_33 : decode cX8_come 33 = .ok (.invokevirtual 84, 3) := by decide +kernel
theorem dX8_come_36 : decode cX8_come 36 = .ok (.aload_n 0, 1) := by decide +kernel
theorem dX8_come_37 : decode cX8_come 37 = .ok (.getfield 7, 3) := by decide +kernel
theorem dX8_come_40 : decode cX8_come 40 = .ok (.iconst 0, 1) := by decide +kernel
theorem dX8_come_41 : decode cX8_come 41 = .ok (.laload, 1) := by decide +kernel
theorem dX8_come_42 : decode cX8_come 42 = .ok (.l2i, 1) := by decide +kernel
theorem dX8_come_43 : decode cX8_come 43 = .ok (.istore_n 2, 1) := by decide +kernel
theorem dX8_come_44 : decode cX8_come 44 = .ok (.aload_n 0, 1) := by decide +kernel
theorem dX8_come_45 : decode cX8_come 45 = .ok (.getfield 7, 3) := by decide +kernel
theorem dX8_come_48 : decode cX8_come 48 = .ok (.iconst 0, 1) := by decide +kernel
theorem dX8_come_49 : decode cX8_come 49 = .ok (.dup2, 1) := by decide +kernel
theorem dX8_come_50 : decode cX8_come 50 = .ok (.laload, 1) := by decide +kernel
theorem dX8_come_51 : decode cX8_come 51 = .ok (.lconst 1, 1) := by decide +kernel
theorem dX8_come_52 : decode cX8_come 52 = .ok (.ladd, 1) := by decide +kernel
theorem dX8_come_53 : decode cX8_come 53 = .ok (.lastore, 1) := by decide +kernel
theorem dX8_come_54 : decode cX8_come 54 = .ok (.aload_n 0, 1) := by decide +kernel
theorem dX8_come_55 : decode cX8_come 55 = .ok (.iload_n 2, 1) := by decide +kernel
theorem dX8_come_56 : decode cX8_come 56 = .ok (.iload_n 1, 1) := by decide +kernel
theorem dX8_come_57 : decode cX8_come 57 = .ok (.invokevirtual 87, 3) := by decide +kernel
theorem dX8_come_60 : decode cX8_come 60 = .ok (.iload_n 2, 1) := by decide +kernel
theorem dX8_come_61 : decode cX8_come 61 = .ok (.ireturn, 1) := by decide +kernel
set_option maxRecDepth 20000 in
theorem ggX8_line_X8_isMember : GoodIn wsX8_line wsX8_isMember := goodIn_r _ [6, 1, 7, 8, 5, 9, 24, 25, 26, 27, 28, 29, 30, 31, 32, 33, 34, 35, 36] (by decide +kernel) (by decide +kernel)
set_option maxRecDepth 20000 in
theorem gX8_line_X8_isMember : GoodIn wsX8_line (wsV RX8 49 RX8 yX8_isMember wsX8_isMember) := goodIn_app (goodIn_of _ (by decide +kernel)) ggX8_line_X8_isMember
set_option maxRecDepth 20000 in
theorem ggX8_line_X8_areJoined : GoodIn wsX8_line wsX8_areJoined := goodIn_r _ [13, 1, 24, 25, 26, 27, 28, 29, 30, 31, 32, 33, 34, 35, 36] (by decide +kernel) (by decide +kernel)
set_option maxRecDepth 20000 in
theorem gX8_line_X8_areJoined : GoodIn wsX8_line (wsV RX8 59 RX8 yX8_areJoined wsX8_areJoined) := goodIn_app (goodIn_of _ (by decide +kernel)) ggX8_line_X8_areJoined
set_option maxRecDepth 20000 in
theorem ggX8_line_X8_keep : GoodIn wsX8_line wsX8_keep := goodIn_r _ [17, 18, 19, 1, 24, 25, 26, 27, 28, 29, 30, 31, 32, 33, 34, 35, 36] (by decide +kernel) (by decide +kernel)
set_option maxRecDepth 20000 in
theorem gX8_line_X8_keep : GoodIn wsX8_line (wsV RX8 84 RX8 yX8_keep wsX8_keep) := goodIn_app (goodIn_of _ (by decide +kernel)) ggX8_line_X8_keep
set_option maxRecDepth 20000 in
theorem ggX8_line_X8_lines : GoodIn wsX8_line wsX8_lines := goodIn_r _ [23, 10, 11, 12, 5, 13, 1, 24, 25, 26, 27, 28, 29, 30, 31, 32, 33, 34, 35, 36] (by decide +kernel) (by decide +kernel)
set_option maxRecDepth 20000 in
theorem gX8_line_X8_lines : GoodIn wsX8_line (wsV RX8 91 RX8 yX8_lines wsX8_lines) := goodIn_app (goodIn_of _ (by decide +kernel)) ggX8_line_X8_lines
theorem dX8_line_0 : decode cX8_line 0 = .ok (.aload_n 0, 1) := by decide +kernel
theorem dX8_line_1 : decode cX8_line 1 = .ok (.iload_n 1, 1) := by decide +kernel
theorem dX8_line_2 : decode cX8_line 2 = .ok (.invokevirtual 49, 3) := by decide +kernel
theorem dX8_line_5 : decode cX8_line 5 = .ok (.ifCond .eq 16, 3) := by decide +kernel
theorem dX8_line_8 : decode cX8_line 8 = .ok (.aload_n 0, 1) := by decide +kernel
theorem dX8_line_9 : decode cX8_line 9 = .ok (.iload_n 2, 1) := by decide +kernel
theorem dX8_line_10 : decode cX8_line 10 = .ok (.invokevirtual 49, 3) := by decide +kernel
theorem dX8_line_13 : decode cX8_line 13 = .ok (.ifCond .eq 8, 3) := by decide +kernel
theorem dX8_line_16 : decode cX8_line 16 = .ok (.iload_n 1, 1) := by decide +kernel
theorem dX8_line_17 : decode cX8_line 17 = .ok (.iload_n 2, 1) := by decide +kernel
theorem dX8_line_18 : decode cX8_line 18 = .ok (.if_icmp .ne 5, 3) := by decide +kernel
theorem dX8_line_21 : decode cX8_line 21 = .ok (.iconst (-1), 1) := by decide +kernel
theorem dX8_line_22 : decode cX8_line 22 = .ok (.ireturn, 1) := by decide +kernel
theorem dX8_line_23 : decode cX8_line 23 = .ok (.aload_n 0, 1) := by decide +kernel
theorem dX8_line_24 : decode cX8_line 24 = .ok (.iload_n 1, 1) := by decide +kernel
theorem dX8_line_25 : decode cX8_line 25 = .ok (.iload_n 2, 1) := by decide +kernel
theorem dX8_line_26 : decode cX8_line 26 = .ok (.invokevirtual 59, 3) := by decide +kernel
theorem dX8_line_29 : decode cX8_line 29 = .ok (.ifCond .eq 6, 3) := by decide +kernel
theorem dX8_line_32 : decode cX8_line 32 = .ok (.bipush (-2), 2) := by decide +kernel
theorem dX8_line_34 : decode cX8_line 34 = .ok (.ireturn, 1) := by decide +kernel
theorem dX8_line_35 : decode cX8_line 35 = .ok (.aload_n 0, 1) := by decide +kernel
theorem dX8_line_36 : decode cX8_line 36 = .ok (.invokevirtual 84, 3) := by decide +kernel
theorem dX8_line_39 : decode cX8_line 39 = .ok (.aload_n 0, 1) := by decide +kernel
theorem dX8_line_40 : decode cX8_line 40 = .ok (.getfield 7, 3) := by decide +kernel
theorem dX8_line_43 : decode cX8_line 43 = .ok (.iconst 3, 1) := by decide +kernel
theorem dX8_line_44 : decode cX8_line 44 = .ok (.iload_n 1, 1) := by decide +kernel
theorem dX8_line_45 : decode cX8_line 45 = .ok (.iadd, 1) := by decide +kernel
theorem dX8_line_46 : decode cX8_line 46 = .ok (.dup2, 1) := by decide +kernel
theorem dX8_line_47 : decode cX8_line 47 = .ok (.laload, 1) := by decide +kernel
theorem dX8_line_48 : decode cX8_line 48 = .ok (.lconst 1, 1) := by decide +kernel
theorem dX8_line_49 : decode cX8_line 49 = .ok (.iload_n 2, 1) := by decide +kernel
theorem dX8_line_50 : decode cX8_line 50 = .ok (.lshl, 1) := by decide +kernel
theorem dX8_line_51 : decode cX8_line 51 = .ok (.lor, 1) := by decide +kernel
theorem dX8_line_52 : decode cX8_line 52 = .ok (.lastore, 1) := by decide +kernel
theorem dX8_line_53 : decode cX8_line 53 = .ok (.aload_n 0, 1) := by decide +kernel
theorem dX8_line_54 : decode cX8_line 54 = .ok (.getfield 7, 3) := by decide +kernel
theorem dX8_line_57 : decode cX8_line 57 = .ok (.iconst 3, 1) := by decide +kernel
theorem dX8_line_58 : decode cX8_line 58 = .ok (.iload_n 2, 1) := by decide +kernel
theorem dX8_line_59 : decode cX8_line 59 = .ok (.iadd, 1) := by decide +kernel
theorem dX8_line_60 : decode cX8_line 60 = .ok (.dup2, 1) := by decide +kernel
theorem dX8_line_61 : decode cX8_line 61 = .ok (.laload, 1) := by decide +kernel
theorem dX8_line_62 : decode cX8_line 62 = .ok (.lconst 1, 1) := by decide +kernel
theorem dX8_line_63 : decode cX8_line 63 = .ok (.iload_n 1, 1) := by decide +kernel
theorem dX8_line_64 : decode cX8_line 64 = .ok (.lshl, 1) := by decide +kernel
theorem dX8_line_65 : decode cX8_line 65 = .ok (.lor, 1) := by decide +kernel
theorem dX8_line_66 : decode cX8_line 66 = .ok (.lastore, 1) := by decide +kernel
theorem dX8_line_67 : decode cX8_line 67 = .ok (.aload_n 0, 1) := by decide +kernel
theorem dX8_line_68 : decode cX8_line 68 = .ok (.invokevirtual 91, 3) := by decide +kernel
theorem dX8_line_71 : decode cX8_line 71 = .ok (.ireturn, 1) := by decide +kernel
theorem dX8_isUnderWay_0 : decode cX8_isUnderWay 0 = .ok (.aload_n 0, 1) := by decide +kernel
theorem dX8_isUnderWay_1 : decode cX8_isUnderWay 1 = .ok (.getfield 7, 3) := by decide +kernel
theorem dX8_isUnderWay_4 : decode cX8_isUnderWay 4 = .ok (.sipush 173, 3) := by decide +kernel
theorem dX8_isUnderWay_7 : decode cX8_isUnderWay 7 = .ok (.iconst 5, 1) := by decide +kernel
theorem dX8_isUnderWay_8 : decode cX8_isUnderWay 8 = .ok (.iload_n 1, 1) := by decide +kernel
theorem dX8_isUnderWay_9 : decode cX8_isUnderWay 9 = .ok (.imul, 1) := by decide +kernel
theorem dX8_isUnderWay_10 : decode cX8_isUnderWay 10 = .ok (.iadd, 1) := by decide +kernel
theorem dX8_isUnderWay_11 : decode cX8_isUnderWay 11 = .ok (.laload, 1) := by decide +kernel
theorem dX8_isUnderWay_12 : decode cX8_isUnderWay 12 = .ok (.lconst 1, 1) := by decide +kernel
theorem dX8_isUnderWay_13 : decode cX8_isUnderWay 13 = .ok (.lcmp, 1) := by decide +kernel
theorem dX8_isUnderWay_14 : decode cX8_isUnderWay 14 = .ok (.ifCond .ne 7, 3) := by decide +kernel
theorem dX8_isUnderWay_17 : decode cX8_isUnderWay 17 = .ok (.iconst 1, 1) := by decide +kernel
theorem dX8_isUnderWay_18 : decode cX8_isUnderWay 18 = .ok (.goto 4, 3) := by decide +kernel
theorem dX8_isUnderWay_21 : decode cX8_isUnderWay 21 = .ok (.iconst 0, 1) := by decide +kernel
theorem dX8_isUnderWay_22 : decode cX8_isUnderWay 22 = .ok (.ireturn, 1) := by decide +kernel
set_option maxRecDepth 20000 in
theorem ggX8_isOver_X8_isUnderWay : GoodIn wsX8_isOver wsX8_isUnderWay := goodIn_r _ [6, 1, 7, 8, 9, 10, 11, 12, 13, 14, 15, 16, 17, 18, 19] (by decide +kernel) (by decide +kernel)
set_option maxRecDepth 20000 in
theorem gX8_isOver_X8_isUnderWay : GoodIn wsX8_isOver (wsV RX8 94 RX8 yX8_isUnderWay wsX8_isUnderWay) := goodIn_app (goodIn_of _ (by decide +kernel)) ggX8_isOver_X8_isUnderWay
theorem dX8_isOver_0 : decode cX8_isOver 0 = .ok (.aload_n 0, 1) := by decide +kernel
theorem dX8_isOver_1 : decode cX8_isOver 1 = .ok (.getfield 7, 3) := by decide +kernel
theorem dX8_isOver_4 : decode cX8_isOver 4 = .ok (.sipush 173, 3) := by decide +kernel
theorem dX8_isOver_7 : decode cX8_isOver 7 = .ok (.iconst 5, 1) := by decide +kernel
theorem dX8_isOver_8 : decode cX8_isOver 8 = .ok (.iload_n 1, 1) := by decide +kernel
theorem dX8_isOver_9 : decode cX8_isOver 9 = .ok (.imul, 1) := by decide +kernel
theorem dX8_isOver_10 : decode cX8_isOver 10 = .ok (.iadd, 1) := by decide +kernel
theorem dX8_isOver_11 : decode cX8_isOver 11 = .ok (.iconst 1, 1) := by decide +kernel
theorem dX8_isOver_12 : decode cX8_isOver 12 = .ok (.iadd, 1) := by decide +kernel
theorem dX8_isOver_13 : decode cX8_isOver 13 = .ok (.laload, 1) := by decide +kernel
theorem dX8_isOver_14 : decode cX8_isOver 14 = .ok (.lstore 4, 2) := by decide +kernel
theorem dX8_isOver_16 : decode cX8_isOver 16 = .ok (.aload_n 0, 1) := by decide +kernel
theorem dX8_isOver_17 : decode cX8_isOver 17 = .ok (.getfield 7, 3) := by decide +kernel
theorem dX8_isOver_20 : decode cX8_isOver 20 = .ok (.sipush 173, 3) := by decide +kernel
theorem dX8_isOver_23 : decode cX8_isOver 23 = .ok (.iconst 5, 1) := by decide +kernel
theorem dX8_isOver_24 : decode cX8_isOver 24 = .ok (.iload_n 1, 1) := by decide +kernel
theorem dX8_isOver_25 : decode cX8_isOver 25 = .ok (.imul, 1) := by decide +kernel
theorem dX8_isOver_26 : decode cX8_isOver 26 = .ok (.iadd, 1) := by decide +kernel
theorem dX8_isOver_27 : decode cX8_isOver 27 = .ok (.iconst 2, 1) := by decide +kernel
theorem dX8_isOver_28 : decode cX8_isOver 28 = .ok (.iadd, 1) := by decide +kernel
theorem dX8_isOver_29 : decode cX8_isOver 29 = .ok (.laload, 1) := by decide +kernel
theorem dX8_isOver_30 : decode cX8_isOver 30 = .ok (.lstore 6, 2) := by decide +kernel
theorem dX8_isOver_32 : decode cX8_isOver 32 = .ok (.aload_n 0, 1) := by decide +kernel
theorem dX8_isOver_33 : decode cX8_isOver 33 = .ok (.iload_n 1, 1) := by decide +kernel
theorem dX8_isOver_34 : decode cX8_isOver 34 = .ok (.invokevirtual 94, 3) := by decide +kernel
theorem dX8_isOver_37 : decode cX8_isOver 37 = .ok (.ifCond .eq 39, 3) := by decide +kernel
theorem dX8_isOver_40 : decode cX8_isOver 40 = .ok (.lload 4, 2) := by decide +kernel
theorem dX8_isOver_42 : decode cX8_isOver 42 = .ok (.iload_n 2, 1) := by decide +kernel
theorem dX8_isOver_43 : decode cX8_isOver 43 = .ok (.i2l, 1) := by decide +kernel
theorem dX8_isOver_44 : decode cX8_isOver 44 = .ok (.lcmp, 1) := by decide +kernel
theorem dX8_isOver_45 : decode cX8_isOver 45 = .ok (.ifCond .ne 11, 3) := by decide +kernel
theorem dX8_isOver_48 : decode cX8_isOver 48 = .ok (.lload 6, 2) := by decide +kernel
theorem dX8_isOver_50 : decode cX8_isOver 50 = .ok (.iload_n 3, 1) := by decide +kernel
theorem dX8_isOver_51 : decode cX8_isOver 51 = .ok (.i2l, 1) := by decide +kernel
theorem dX8_isOver_52 : decode cX8_isOver 52 = .ok (.lcmp, 1) := by decide +kernel
theorem dX8_isOver_53 : decode cX8_isOver 53 = .ok (.ifCond .eq 19, 3) := by decide +kernel
theorem dX8_isOver_56 : decode cX8_isOver 56 = .ok (.lload 4, 2) := by decide +kernel
theorem dX8_isOver_58 : decode cX8_isOver 58 = .ok (.iload_n 3, 1) := by decide +kernel
theorem dX8_isOver_59 : decode cX8_isOver 59 = .ok (.i2l, 1) := by decide +kernel
theorem dX8_isOver_60 : decode cX8_isOver 60 = .ok (.lcmp, 1) := by decide +kernel
theorem dX8_isOver_61 : decode cX8_isOver 61 = .ok (.ifCond .ne 15, 3) := by decide +kernel
theorem dX8_isOver_64 : decode cX8_isOver 64 = .ok (.lload 6, 2) := by decide +kernel
theorem dX8_isOver_66 : decode cX8_isOver 66 = .ok (.iload_n 2, 1) := by decide +kernel
theorem dX8_isOver_67 : decode cX8_isOver 67 = .ok (.i2l, 1) := by decide +kernel
theorem dX8_isOver_68 : decode cX8_isOver 68 = .ok (.lcmp, 1) := by decide +kernel
theorem dX8_isOver_69 : decode cX8_isOver 69 = .ok (.ifCond .ne 7, 3) := by decide +kernel
theorem dX8_isOver_72 : decode cX8_isOver 72 = .ok (.iconst 1, 1) := by decide +kernel
theorem dX8_isOver_73 : decode cX8_isOver 73 = .ok (.goto 4, 3) := by decide +kernel
theorem dX8_isOver_76 : decode cX8_isOver 76 = .ok (.iconst 0, 1) := by decide +kernel
theorem dX8_isOver_77 : decode cX8_isOver 77 = .ok (.ireturn, 1) := by decide +kernel
set_option maxRecDepth 20000 in
theorem ggX8_cut_X8_isMember : GoodIn wsX8_cut wsX8_isMember := goodIn_r _ [7, 1, 8, 9, 6, 10, 33, 34, 35, 36, 37, 38, 39, 40, 41, 42, 43, 44, 45] (by decide +kernel) (by decide +kernel)
set_option maxRecDepth 20000 in
theorem gX8_cut_X8_isMember : GoodIn wsX8_cut (wsV RX8 49 RX8 yX8_isMember wsX8_isMember) := goodIn_app (goodIn_of _ (by decide +kernel)) ggX8_cut_X8_isMember
set_option maxRecDepth 20000 in
theorem ggX8_cut_X8_areJoined : GoodIn wsX8_cut wsX8_areJoined := goodIn_r _ [14, 1, 33, 34, 35, 36, 37, 38, 39, 40, 41, 42, 43, 44, 45] (by decide +kernel) (by decide +kernel)
set_option maxRecDepth 20000 in
theorem gX8_cut_X8_areJoined : GoodIn wsX8_cut (wsV RX8 59 RX8 yX8_areJoined wsX8_areJoined) := goodIn_app (goodIn_of _ (by decide +kernel)) ggX8_cut_X8_areJoined
set_option maxRecDepth 20000 in
theorem ggX8_cut_X8_isOver : GoodIn wsX8_cut wsX8_isOver := goodIn_r _ [18, 1, 19, 20, 21, 6, 22, 33, 34, 35, 36, 37, 38, 39, 40, 41, 42, 43, 44, 45] (by decide +kernel) (by decide +kernel)
set_option maxRecDepth 20000 in
theorem gX8_cut_X8_isOver : GoodIn wsX8_cut (wsV RX8 97 RX8 yX8_isOver wsX8_isOver) := goodIn_app (goodIn_of _ (by decide +kernel)) ggX8_cut_X8_isOver
set_option maxRecDepth 20000 in
theorem ggX8_cut_X8_keep : GoodIn wsX8_cut wsX8_keep := goodIn_r _ [26, 27, 28, 1, 33, 34, 35, 36, 37, 38, 39, 40, 41, 42, 43, 44, 45] (by decide +kernel) (by decide +kernel)
set_option maxRecDepth 20000 in
theorem gX8_cut_X8_keep : GoodIn wsX8_cut (wsV RX8 84 RX8 yX8_keep wsX8_keep) := goodIn_app (goodIn_of _ (by decide +kernel)) ggX8_cut_X8_keep
set_option maxRecDepth 20000 in
theorem ggX8_cut_X8_lines : GoodIn wsX8_cut wsX8_lines := goodIn_r _ [32, 11, 12, 13, 6, 14, 1, 33, 34, 35, 36, 37, 38, 39, 40, 41, 42, 43, 44, 45] (by decide +kernel) (by decide +kernel)
set_option maxRecDepth 20000 in
theorem gX8_cut_X8_lines : GoodIn wsX8_cut (wsV RX8 91 RX8 yX8_lines wsX8_lines) := goodIn_app (goodIn_of _ (by decide +kernel)) ggX8_cut_X8_lines
theorem dX8_cut_0 : decode cX8_cut 0 = .ok (.aload_n 0, 1) := by decide +kernel
theorem dX8_cut_1 : decode cX8_cut 1 = .ok (.iload_n 1, 1) := by decide +kernel
theorem dX8_cut_2 : decode cX8_cut 2 = .ok (.invokevirtual 49, 3) := by decide +kernel
theorem dX8_cut_5 : decode cX8_cut 5 = .ok (.ifCond .eq 16, 3) := by decide +kernel
theorem dX8_cut_8 : decode cX8_cut 8 = .ok (.aload_n 0, 1) := by decide +kernel
theorem dX8_cut_9 : decode cX8_cut 9 = .ok (.iload_n 2, 1) := by decide +kernel
theorem dX8_cut_10 : decode cX8_cut 10 = .ok (.invokevirtual 49, 3) := by decide +kernel
theorem dX8_cut_13 : decode cX8_cut 13 = .ok (.ifCond .eq 8, 3) := by decide +kernel
theorem dX8_cut_16 : decode cX8_cut 16 = .ok (.iload_n 1, 1) := by decide +kernel
theorem dX8_cut_17 : decode cX8_cut 17 = .ok (.iload_n 2, 1) := by decide +kernel
theorem dX8_cut_18 : decode cX8_cut 18 = .ok (.if_icmp .ne 5, 3) := by decide +kernel
theorem dX8_cut_21 : decode cX8_cut 21 = .ok (.iconst (-1), 1) := by decide +kernel
theorem dX8_cut_22 : decode cX8_cut 22 = .ok (.ireturn, 1) := by decide +kernel
theorem dX8_cut_23 : decode cX8_cut 23 = .ok (.aload_n 0, 1) := by decide +kernel
theorem dX8_cut_24 : decode cX8_cut 24 = .ok (.iload_n 1, 1) := by decide +kernel
theorem dX8_cut_25 : decode cX8_cut 25 = .ok (.iload_n 2, 1) := by decide +kernel
theorem dX8_cut_26 : decode cX8_cut 26 = .ok (.invokevirtual 59, 3) := by decide +kernel
theorem dX8_cut_29 : decode cX8_cut 29 = .ok (.ifCond .ne 7, 3) := by decide +kernel
theorem dX8_cut_32 : decode cX8_cut 32 = .ok (.iconst 1, 1) := by decide +kernel
theorem dX8_cut_33 : decode cX8_cut 33 = .ok (.goto 4, 3) := by decide +kernel
theorem dX8_cut_36 : decode cX8_cut 36 = .ok (.iconst 0, 1) := by decide +kernel
theorem dX8_cut_37 : decode cX8_cut 37 = .ok (.istore_n 3, 1) := by decide +kernel
theorem dX8_cut_38 : decode cX8_cut 38 = .ok (.iconst 0, 1) := by decide +kernel
theorem dX8_cut_39 : decode cX8_cut 39 = .ok (.istore 4, 2) := by decide +kernel
theorem dX8_cut_41 : decode cX8_cut 41 = .ok (.iload 4, 2) := by decide +kernel
theorem dX8_cut_43 : decode cX8_cut 43 = .ok (.bipush 8, 2) := by decide +kernel
theorem dX8_cut_45 : decode cX8_cut 45 = .ok (.if_icmp .ge 30, 3) := by decide +kernel
theorem dX8_cut_48 : decode cX8_cut 48 = .ok (.iload_n 3, 1) := by decide +kernel
theorem dX8_cut_49 : decode cX8_cut 49 = .ok (.ifCond .ne 14, 3) := by decide +kernel
theorem dX8_cut_52 : decode cX8_cut 52 = .ok (.aload_n 0, 1) := by decide +kernel
theorem dX8_cut_53 : decode cX8_cut 53 = .ok (.iload 4, 2) := by decide +kernel
theorem dX8_cut_55 : decode cX8_cut 55 = .ok (.iload_n 1, 1) := by decide +kernel
theorem dX8_cut_56 : decode cX8_cut 56 = .ok (.iload_n 2, 1) := by decide +kernel
theorem dX8_cut_57 : decode cX8_cut 57 = .ok (.invokevirtual 97, 3) := by decide +kernel
theorem dX8_cut_60 : decode cX8_cut 60 = .ok (.ifCond .eq 7, 3) := by decide +kernel
theorem dX8_cut_63 : decode cX8_cut 63 = .ok (.iconst 1, 1) := by decide +kernel
theorem dX8_cut_64 : decode cX8_cut 64 = .ok (.goto 4, 3) := by decide +kernel
theorem dX8_cut_67 : decode cX8_cut 67 = .ok (.iconst 0, 1) := by decide +kernel
theorem dX8_cut_68 : decode cX8_cut 68 = .ok (.istore_n 3, 1) := by decide +kernel
theorem dX8_cut_69 : decode cX8_cut 69 = .ok (.iinc 4 1, 3) := by decide +kernel
theorem dX8_cut_72 : decode cX8_cut 72 = .ok (.goto (-31), 3) := by decide +kernel
theorem dX8_cut_75 : decode cX8_cut 75 = .ok (.iload_n 3, 1) := by decide +kernel
theorem dX8_cut_76 : decode cX8_cut 76 = .ok (.ifCond .eq 6, 3) := by decide +kernel
theorem dX8_cut_79 : decode cX8_cut 79 = .ok (.bipush (-2), 2) := by decide +kernel
theorem dX8_cut_81 : decode cX8_cut 81 = .ok (.ireturn, 1) := by decide +kernel
theorem dX8_cut_82 : decode cX8_cut 82 = .ok (.aload_n 0, 1) := by decide +kernel
theorem dX8_cut_83 : decode cX8_cut 83 = .ok (.invokevirtual 84, 3) := by decide +kernel
theorem dX8_cut_86 : decode cX8_cut 86 = .ok (.aload_n 0, 1) := by decide +kernel
theorem dX8_cut_87 : decode cX8_cut 87 = .ok (.getfield 7, 3) := by decide +kernel
theorem dX8_cut_90 : decode cX8_cut 90 = .ok (.iconst 3, 1) := by decide +kernel
theorem dX8_cut_91 : decode cX8_cut 91 = .ok (.iload_n 1, 1) := by decide +kernel
theorem dX8_cut_92 : decode cX8_cut 92 = .ok (.iadd, 1) := by decide +kernel
theorem dX8_cut_93 : decode cX8_cut 93 = .ok (.dup2, 1) := by decide +kernel
theorem dX8_cut_94 : decode cX8_cut 94 = .ok (.laload, 1) := by decide +kernel
theorem dX8_cut_95 : decode cX8_cut 95 = .ok (.lconst 1, 1) := by decide +kernel
theorem dX8_cut_96 : decode cX8_cut 96 = .ok (.iload_n 2, 1) := by decide +kernel
theorem dX8_cut_97 : decode cX8_cut 97 = .ok (.lshl, 1) := by decide +kernel
theorem dX8_cut_98 : decode cX8_cut 98 = .ok (.ldc2_w 63, 3) := by decide +kernel
theorem dX8_cut_101 : decode cX8_cut 101 = .ok (.lxor, 1) := by decide +kernel
theorem dX8_cut_102 : decode cX8_cut 102 = .ok (.land, 1) := by decide +kernel
theorem dX8_cut_103 : decode cX8_cut 103 = .ok (.lastore, 1) := by decide +kernel
theorem dX8_cut_104 : decode cX8_cut 104 = .ok (.aload_n 0, 1) := by decide +kernel
theorem dX8_cut_105 : decode cX8_cut 105 = .ok (.getfield 7, 3) := by decide +kernel
theorem dX8_cut_108 : decode cX8_cut 108 = .ok (.iconst 3, 1) := by decide +kernel
theorem dX8_cut_109 : decode cX8_cut 109 = .ok (.iload_n 2, 1) := by decide +kernel
theorem dX8_cut_110 : decode cX8_cut 110 = .ok (.iadd, 1) := by decide +kernel
theorem dX8_cut_111 : decode cX8_cut 111 = .ok (.dup2, 1) := by decide +kernel
theorem dX8_cut_112 : decode cX8_cut 112 = .ok (.laload, 1) := by decide +kernel
theorem dX8_cut_113 : decode cX8_cut 113 = .ok (.lconst 1, 1) := by decide +kernel
theorem dX8_cut_114 : decode cX8_cut 114 = .ok (.iload_n 1, 1) := by decide +kernel
theorem dX8_cut_115 : decode cX8_cut 115 = .ok (.lshl, 1) := by decide +kernel
theorem dX8_cut_116 : decode cX8_cut 116 = .ok (.ldc2_w 63, 3) := by decide +kernel
theorem dX8_cut_119 : decode cX8_cut 119 = .ok (.lxor, 1) := by decide +kernel
theorem dX8_cut_120 : decode cX8_cut 120 = .ok (.land, 1) := by decide +kernel
theorem dX8_cut_121 : decode cX8_cut 121 = .ok (.lastore, 1) := by decide +kernel
theorem dX8_cut_122 : decode cX8_cut 122 = .ok (.aload_n 0, 1) := by decide +kernel
theorem dX8_cut_123 : decode cX8_cut 123 = .ok (.invokevirtual 91, 3) := by decide +kernel
theorem dX8_cut_126 : decode cX8_cut 126 = .ok (.ireturn, 1) := by decide +kernel
set_option maxRecDepth 20000 in
theorem ggX8_set_X8_isHere : GoodIn wsX8_set wsX8_isHere := goodIn_r _ [9, 3, 10, 11, 12, 8, 13, 14, 15, 16, 28, 29, 30, 31, 32, 33, 34, 35, 36, 37, 38, 39, 40] (by decide +kernel) (by decide +kernel)
set_option maxRecDepth 20000 in
theorem gX8_set_X8_isHere : GoodIn wsX8_set (wsV RX8 101 RX8 yX8_isHere wsX8_isHere) := goodIn_app (goodIn_of _ (by decide +kernel)) ggX8_set_X8_isHere
set_option maxRecDepth 20000 in
theorem ggX8_set_X8_in : GoodIn wsX8_set wsX8_in := goodIn_r _ [16] (by decide +kernel) (by decide +kernel)
set_option maxRecDepth 20000 in
theorem gX8_set_X8_in : GoodIn wsX8_set (va_wsS RX8 45 yX8_in wsX8_in) := goodIn_app (goodIn_of _ (by decide +kernel)) ggX8_set_X8_in
set_option maxRecDepth 20000 in
theorem ggX8_set_X8_keep : GoodIn wsX8_set wsX8_keep := goodIn_r _ [20, 21, 22, 3, 28, 29, 30, 31, 32, 33, 34, 35, 36, 37, 38, 39, 40] (by decide +kernel) (by decide +kernel)
set_option maxRecDepth 20000 in
theorem gX8_set_X8_keep : GoodIn wsX8_set (wsV RX8 84 RX8 yX8_keep wsX8_keep) := goodIn_app (goodIn_of _ (by decide +kernel)) ggX8_set_X8_keep
set_option maxRecDepth 20000 in
theorem ggX8_set_X8_knowsItself : GoodIn wsX8_set wsX8_knowsItself := goodIn_r _ [26, 3, 27, 28, 29, 30, 31, 32, 33, 34, 35, 36, 37, 38, 39, 40] (by decide +kernel) (by decide +kernel)
set_option maxRecDepth 20000 in
theorem gX8_set_X8_knowsItself : GoodIn wsX8_set (wsV RX8 71 RX8 yX8_knowsItself wsX8_knowsItself) := goodIn_app (goodIn_of _ (by decide +kernel)) ggX8_set_X8_knowsItself
theorem dX8_set_0 : decode cX8_set 0 = .ok (.aload_n 0, 1) := by decide +kernel
theorem dX8_set_1 : decode cX8_set 1 = .ok (.iload_n 1, 1) := by decide +kernel
theorem dX8_set_2 : decode cX8_set 2 = .ok (.invokevirtual 101, 3) := by decide +kernel
theorem dX8_set_5 : decode cX8_set 5 = .ok (.ifCond .eq 17, 3) := by decide +kernel
theorem dX8_set_8 : decode cX8_set 8 = .ok (.iload_n 2, 1) := by decide +kernel
theorem dX8_set_9 : decode cX8_set 9 = .ok (.i2l, 1) := by decide +kernel
theorem dX8_set_10 : decode cX8_set 10 = .ok (.ldc2_w 78, 3) := by decide +kernel
theorem dX8_set_13 : decode cX8_set 13 = .ok (.ldc2_w 80, 3) := by decide +kernel
theorem dX8_set_16 : decode cX8_set 16 = .ok (.invokestatic 45, 3) := by decide +kernel
theorem dX8_set_19 : decode cX8_set 19 = .ok (.ifCond .ne 5, 3) := by decide +kernel
theorem dX8_set_22 : decode cX8_set 22 = .ok (.iconst (-1), 1) := by decide +kernel
theorem dX8_set_23 : decode cX8_set 23 = .ok (.ireturn, 1) := by decide +kernel
theorem dX8_set_24 : decode cX8_set 24 = .ok (.aload_n 0, 1) := by decide +kernel
theorem dX8_set_25 : decode cX8_set 25 = .ok (.invokevirtual 84, 3) := by decide +kernel
theorem dX8_set_28 : decode cX8_set 28 = .ok (.aload_n 0, 1) := by decide +kernel
theorem dX8_set_29 : decode cX8_set 29 = .ok (.getfield 7, 3) := by decide +kernel
theorem dX8_set_32 : decode cX8_set 32 = .ok (.bipush 33, 2) := by decide +kernel
theorem dX8_set_34 : decode cX8_set 34 = .ok (.iload_n 1, 1) := by decide +kernel
theorem dX8_set_35 : decode cX8_set 35 = .ok (.iadd, 1) := by decide +kernel
theorem dX8_set_36 : decode cX8_set 36 = .ok (.dup2, 1) := by decide +kernel
theorem dX8_set_37 : decode cX8_set 37 = .ok (.laload, 1) := by decide +kernel
theorem dX8_set_38 : decode cX8_set 38 = .ok (.iload_n 2, 1) := by decide +kernel
theorem dX8_set_39 : decode cX8_set 39 = .ok (.i2l, 1) := by decide +kernel
theorem dX8_set_40 : decode cX8_set 40 = .ok (.aload_n 0, 1) := by decide +kernel
theorem dX8_set_41 : decode cX8_set 41 = .ok (.getfield 7, 3) := by decide +kernel
theorem dX8_set_44 : decode cX8_set 44 = .ok (.bipush 23, 2) := by decide +kernel
theorem dX8_set_46 : decode cX8_set 46 = .ok (.iload_n 1, 1) := by decide +kernel
theorem dX8_set_47 : decode cX8_set 47 = .ok (.iadd, 1) := by decide +kernel
theorem dX8_set_48 : decode cX8_set 48 = .ok (.laload, 1) := by decide +kernel
theorem dX8_set_49 : decode cX8_set 49 = .ok (.lsub, 1) := by decide +kernel
theorem dX8_set_50 : decode cX8_set 50 = .ok (.ldc2_w 69, 3) := by decide +kernel
theorem dX8_set_53 : decode cX8_set 53 = .ok (.lmul, 1) := by decide +kernel
theorem dX8_set_54 : decode cX8_set 54 = .ok (.ladd, 1) := by decide +kernel
theorem dX8_set_55 : decode cX8_set 55 = .ok (.lastore, 1) := by decide +kernel
theorem dX8_set_56 : decode cX8_set 56 = .ok (.aload_n 0, 1) := by decide +kernel
theorem dX8_set_57 : decode cX8_set 57 = .ok (.getfield 7, 3) := by decide +kernel
theorem dX8_set_60 : decode cX8_set 60 = .ok (.bipush 23, 2) := by decide +kernel
theorem dX8_set_62 : decode cX8_set 62 = .ok (.iload_n 1, 1) := by decide +kernel
theorem dX8_set_63 : decode cX8_set 63 = .ok (.iadd, 1) := by decide +kernel
theorem dX8_set_64 : decode cX8_set 64 = .ok (.iload_n 2, 1) := by decide +kernel
theorem dX8_set_65 : decode cX8_set 65 = .ok (.i2l, 1) := by decide +kernel
theorem dX8_set_66 : decode cX8_set 66 = .ok (.lastore, 1) := by decide +kernel
theorem dX8_set_67 : decode cX8_set 67 = .ok (.aload_n 0, 1) := by decide +kernel
theorem dX8_set_68 : decode cX8_set 68 = .ok (.iload_n 1, 1) := by decide +kernel
theorem dX8_set_69 : decode cX8_set 69 = .ok (.invokevirtual 71, 3) := by decide +kernel
theorem dX8_set_72 : decode cX8_set 72 = .ok (.iconst 1, 1) := by decide +kernel
theorem dX8_set_73 : decode cX8_set 73 = .ok (.ireturn, 1) := by decide +kernel
set_option maxRecDepth 20000 in
theorem ggX8_back_X8_isMember : GoodIn wsX8_back wsX8_isMember := goodIn_r _ [7, 8, 9, 10, 6, 11, 43, 44, 45, 46, 47, 48, 49, 50, 51, 52, 53, 54, 55] (by decide +kernel) (by decide +kernel)
set_option maxRecDepth 20000 in
theorem gX8_back_X8_isMember : GoodIn wsX8_back (wsV RX8 49 RX8 yX8_isMember wsX8_isMember) := goodIn_app (goodIn_of _ (by decide +kernel)) ggX8_back_X8_isMember
set_option maxRecDepth 20000 in
theorem ggX8_back_X8_isHere : GoodIn wsX8_back wsX8_isHere := goodIn_r _ [15, 8, 3, 4, 5, 6, 7, 9, 10, 11, 43, 44, 45, 46, 47, 48, 49, 50, 51, 52, 53, 54, 55] (by decide +kernel) (by decide +kernel)
set_option maxRecDepth 20000 in
theorem gX8_back_X8_isHere : GoodIn wsX8_back (wsV RX8 101 RX8 yX8_isHere wsX8_isHere) := goodIn_app (goodIn_of _ (by decide +kernel)) ggX8_back_X8_isHere
set_option maxRecDepth 20000 in
theorem ggX8_back_X8_in : GoodIn wsX8_back wsX8_in := goodIn_r _ [11] (by decide +kernel) (by decide +kernel)
set_option maxRecDepth 20000 in
theorem gX8_back_X8_in : GoodIn wsX8_back (va_wsS RX8 45 yX8_in wsX8_in) := goodIn_app (goodIn_of _ (by decide +kernel)) ggX8_back_X8_in
set_option maxRecDepth 20000 in
theorem ggX8_back_X8_keep : GoodIn wsX8_back wsX8_keep := goodIn_r _ [19, 20, 21, 8, 43, 44, 45, 46, 47, 48, 49, 50, 51, 52, 53, 54, 55] (by decide +kernel) (by decide +kernel)
set_option maxRecDepth 20000 in
theorem gX8_back_X8_keep : GoodIn wsX8_back (wsV RX8 84 RX8 yX8_keep wsX8_keep) := goodIn_app (goodIn_of _ (by decide +kernel)) ggX8_back_X8_keep
set_option maxRecDepth 20000 in
theorem ggX8_back_X8_begins : GoodIn wsX8_back wsX8_begins := goodIn_r _ [25, 8, 26, 27, 28, 29, 6, 30, 31, 32, 33, 34, 35, 36, 37, 38, 39, 40, 41, 42, 43, 44, 45, 46, 47, 48, 49, 50, 51, 52, 53, 54, 55] (by decide +kernel) (by decide +kernel)
set_option maxRecDepth 20000 in
theorem gX8_back_X8_begins : GoodIn wsX8_back (wsV RX8 87 RX8 yX8_begins wsX8_begins) := goodIn_app (goodIn_of _ (by decide +kernel)) ggX8_back_X8_begins
theorem dX8_back_0 : decode cX8_back 0 = .ok (.aload_n 0, 1) := by decide +kernel
theorem dX8_back_1 : decode cX8_back 1 = .ok (.iload_n 1, 1) := by decide +kernel
theorem dX8_back_2 : decode cX8_back 2 = .ok (.invokevirtual 49, 3) := by decide +kernel
theorem dX8_back_5 : decode cX8_back 5 = .ok (.ifCond .eq 25, 3) := by decide +kernel
theorem dX8_back_8 : decode cX8_back 8 = .ok (.aload_n 0, 1) := by decide +kernel
theorem dX8_back_9 : decode cX8_back 9 = .ok (.iload_n 1, 1) := by decide +kernel
theorem dX8_back_10 : decode cX8_back 10 = .ok (.invokevirtual 101, 3) := by decide +kernel
theorem dX8_back_13 : decode cX8_back 13 = .ok (.ifCond .ne 17, 3) := by decide +kernel
theorem dX8_back_16 : decode cX8_back 16 = .ok (.iload_n 2, 1) := by decide +kernel
theorem dX8_back_17 : decode cX8_back 17 = .ok (.i2l, 1) := by decide +kernel
theorem dX8_back_18 : decode cX8_back 18 = .ok (.ldc2_w 78, 3) := by decide +kernel
theorem dX8_back_21 : decode cX8_back 21 = .ok (.ldc2_w 80, 3) := by decide +kernel
theorem dX8_back_24 : decode cX8_back 24 = .ok (.invokestatic 45, 3) := by decide +kernel
theorem dX8_back_27 : decode cX8_back 27 = .ok (.ifCond .ne 5, 3) := by decide +kernel
theorem dX8_back_30 : decode cX8_back 30 = .ok (.iconst (-1), 1) := by decide +kernel
theorem dX8_back_31 : decode cX8_back 31 = .ok (.ireturn, 1) := by decide +kernel
theorem dX8_back_32 : decode cX8_back 32 = .ok (.aload_n 0, 1) := by decide +kernel
theorem dX8_back_33 : decode cX8_back 33 = .ok (.invokevirtual 84, 3) := by decide +kernel
theorem dX8_back_36 : decode cX8_back 36 = .ok (.aload_n 0, 1) := by decide +kernel
theorem dX8_back_37 : decode cX8_back 37 = .ok (.iload_n 1, 1) := by decide +kernel
theorem dX8_back_38 : decode cX8_back 38 = .ok (.iload_n 2, 1) := by decide +kernel
theorem dX8_back_39 : decode cX8_back 39 = .ok (.invokevirtual 87, 3) := by decide +kernel
theorem dX8_back_42 : decode cX8_back 42 = .ok (.iconst 1, 1) := by decide +kernel
theorem dX8_back_43 : decode cX8_back 43 = .ok (.ireturn, 1) := by decide +kernel
set_option maxRecDepth 20000 in
theorem ggX8_isOf_X8_isUnderWay : GoodIn wsX8_isOf wsX8_isUnderWay := goodIn_r _ [6, 1, 7, 8, 9, 10, 11, 12, 13, 14, 15, 16, 17, 18, 19] (by decide +kernel) (by decide +kernel)
set_option maxRecDepth 20000 in
theorem gX8_isOf_X8_isUnderWay : GoodIn wsX8_isOf (wsV RX8 94 RX8 yX8_isUnderWay wsX8_isUnderWay) := goodIn_app (goodIn_of _ (by decide +kernel)) ggX8_isOf_X8_isUnderWay
theorem dX8_isOf_0 : decode cX8_isOf 0 = .ok (.aload_n 0, 1) := by decide +kernel
theorem dX8_isOf_1 : decode cX8_isOf 1 = .ok (.iload_n 1, 1) := by decide +kernel
theorem dX8_isOf_2 : decode cX8_isOf 2 = .ok (.invokevirtual 94, 3) := by decide +kernel
theorem dX8_isOf_5 : decode cX8_isOf 5 = .ok (.ifCond .eq 47, 3) := by decide +kernel
theorem dX8_isOf_8 : decode cX8_isOf 8 = .ok (.aload_n 0, 1) := by decide +kernel
theorem dX8_isOf_9 : decode cX8_isOf 9 = .ok (.getfield 7, 3) := by decide +kernel
theorem dX8_isOf_12 : decode cX8_isOf 12 = .ok (.sipush 173, 3) := by decide +kernel
theorem dX8_isOf_15 : decode cX8_isOf 15 = .ok (.iconst 5, 1) := by decide +kernel
theorem dX8_isOf_16 : decode cX8_isOf 16 = .ok (.iload_n 1, 1) := by decide +kernel
theorem dX8_isOf_17 : decode cX8_isOf 17 = .ok (.imul, 1) := by decide +kernel
theorem dX8_isOf_18 : decode cX8_isOf 18 = .ok (.iadd, 1) := by decide +kernel
theorem dX8_isOf_19 : decode cX8_isOf 19 = .ok (.iconst 1, 1) := by decide +kernel
theorem dX8_isOf_20 : decode cX8_isOf 20 = .ok (.iadd, 1) := by decide +kernel
theorem dX8_isOf_21 : decode cX8_isOf 21 = .ok (.laload, 1) := by decide +kernel
theorem dX8_isOf_22 : decode cX8_isOf 22 = .ok (.iload_n 2, 1) := by decide +kernel
theorem dX8_isOf_23 : decode cX8_isOf 23 = .ok (.i2l, 1) := by decide +kernel
theorem dX8_isOf_24 : decode cX8_isOf 24 = .ok (.lcmp, 1) := by decide +kernel
theorem dX8_isOf_25 : decode cX8_isOf 25 = .ok (.ifCond .eq 23, 3) := by decide +kernel
theorem dX8_isOf_28 : decode cX8_isOf 28 = .ok (.aload_n 0, 1) := by decide +kernel
theorem dX8_isOf_29 : decode cX8_isOf 29 = .ok (.getfield 7, 3) := by decide +kernel
theorem dX8_isOf_32 : decode cX8_isOf 32 = .ok (.sipush 173, 3) := by decide +kernel
theorem dX8_isOf_35 : decode cX8_isOf 35 = .ok (.iconst 5, 1) := by decide +kernel
theorem dX8_isOf_36 : decode cX8_isOf 36 = .ok (.iload_n 1, 1) := by decide +kernel
theorem dX8_isOf_37 : decode cX8_isOf 37 = .ok (.imul, 1) := by decide +kernel
theorem dX8_isOf_38 : decode cX8_isOf 38 = .ok (.iadd, 1) := by decide +kernel
theorem dX8_isOf_39 : decode cX8_isOf 39 = .ok (.iconst 2, 1) := by decide +kernel
theorem dX8_isOf_40 : decode cX8_isOf 40 = .ok (.iadd, 1) := by decide +kernel
theorem dX8_isOf_41 : decode cX8_isOf 41 = .ok (.laload, 1) := by decide +kernel
theorem dX8_isOf_42 : decode cX8_isOf 42 = .ok (.iload_n 2, 1) := by decide +kernel
theorem dX8_isOf_43 : decode cX8_isOf 43 = .ok (.i2l, 1) := by decide +kernel
theorem dX8_isOf_44 : decode cX8_isOf 44 = .ok (.lcmp, 1) := by decide +kernel
theorem dX8_isOf_45 : decode cX8_isOf 45 = .ok (.ifCond .ne 7, 3) := by decide +kernel
theorem dX8_isOf_48 : decode cX8_isOf 48 = .ok (.iconst 1, 1) := by decide +kernel
theorem dX8_isOf_49 : decode cX8_isOf 49 = .ok (.goto 4, 3) := by decide +kernel
theorem dX8_isOf_52 : decode cX8_isOf 52 = .ok (.iconst 0, 1) := by decide +kernel
theorem dX8_isOf_53 : decode cX8_isOf 53 = .ok (.ireturn, 1) := by decide +kernel
theorem dX8_goes_0 : decode cX8_goes 0 = .ok (.iconst 0, 1) := by decide +kernel
theorem dX8_goes_1 : decode cX8_goes 1 = .ok (.istore_n 2, 1) := by decide +kernel
theorem dX8_goes_2 : decode cX8_goes 2 = .ok (.iload_n 2, 1) := by decide +kernel
theorem dX8_goes_3 : decode cX8_goes 3 = .ok (.bipush 10, 2) := by decide +kernel
theorem dX8_goes_5 : decode cX8_goes 5 = .ok (.if_icmp .ge 73, 3) := by decide +kernel
theorem dX8_goes_8 : decode cX8_goes 8 = .ok (.aload_n 0, 1) := by decide +kernel
theorem dX8_goes_9 : decode cX8_goes 9 = .ok (.getfield 7, 3) := by decide +kernel
theorem dX8_goes_12 : decode cX8_goes 12 = .ok (.sipush 213, 3) := by decide +kernel
theorem dX8_goes_15 : decode cX8_goes 15 = .ok (.bipush 10, 2) := by decide +kernel
theorem dX8_goes_17 : decode cX8_goes 17 = .ok (.iload_n 2, 1) := by decide +kernel
theorem dX8_goes_18 : decode cX8_goes 18 = .ok (.imul, 1) := by decide +kernel
theorem dX8_goes_19 : decode cX8_goes 19 = .ok (.iadd, 1) := by decide +kernel
theorem dX8_goes_20 : decode cX8_goes 20 = .ok (.iload_n 1, 1) := by decide +kernel
theorem dX8_goes_21 : decode cX8_goes 21 = .ok (.iadd, 1) := by decide +kernel
theorem dX8_goes_22 : decode cX8_goes 22 = .ok (.lconst 0, 1) := by decide +kernel
theorem dX8_goes_23 : decode cX8_goes 23 = .ok (.lastore, 1) := by decide +kernel
theorem dX8_goes_24 : decode cX8_goes 24 = .ok (.aload_n 0, 1) := by decide +kernel
theorem dX8_goes_25 : decode cX8_goes 25 = .ok (.getfield 7, 3) := by decide +kernel
theorem dX8_goes_28 : decode cX8_goes 28 = .ok (.sipush 213, 3) := by decide +kernel
theorem dX8_goes_31 : decode cX8_goes 31 = .ok (.bipush 10, 2) := by decide +kernel
theorem dX8_goes_33 : decode cX8_goes 33 = .ok (.iload_n 1, 1) := by decide +kernel
theorem dX8_goes_34 : decode cX8_goes 34 = .ok (.imul, 1) := by decide +kernel
theorem dX8_goes_35 : decode cX8_goes 35 = .ok (.iadd, 1) := by decide +kernel
theorem dX8_goes_36 : decode cX8_goes 36 = .ok (.iload_n 2, 1) := by decide +kernel
theorem dX8_goes_37 : decode cX8_goes 37 = .ok (.iadd, 1) := by decide +kernel
theorem dX8_goes_38 : decode cX8_goes 38 = .ok (.lconst 0, 1) := by decide +kernel
theorem dX8_goes_39 : decode cX8_goes 39 = .ok (.lastore, 1) := by decide +kernel
theorem dX8_goes_40 : decode cX8_goes 40 = .ok (.aload_n 0, 1) := by decide +kernel
theorem dX8_goes_41 : decode cX8_goes 41 = .ok (.getfield 7, 3) := by decide +kernel
theorem dX8_goes_44 : decode cX8_goes 44 = .ok (.sipush 313, 3) := by decide +kernel
theorem dX8_goes_47 : decode cX8_goes 47 = .ok (.bipush 10, 2) := by decide +kernel
theorem dX8_goes_49 : decode cX8_goes 49 = .ok (.iload_n 2, 1) := by decide +kernel
theorem dX8_goes_50 : decode cX8_goes 50 = .ok (.imul, 1) := by decide +kernel
theorem dX8_goes_51 : decode cX8_goes 51 = .ok (.iadd, 1) := by decide +kernel
theorem dX8_goes_52 : decode cX8_goes 52 = .ok (.iload_n 1, 1) := by decide +kernel
theorem dX8_goes_53 : decode cX8_goes 53 = .ok (.iadd, 1) := by decide +kernel
theorem dX8_goes_54 : decode cX8_goes 54 = .ok (.lconst 0, 1) := by decide +kernel
theorem dX8_goes_55 : decode cX8_goes 55 = .ok (.lastore, 1) := by decide +kernel
theorem dX8_goes_56 : decode cX8_goes 56 = .ok (.aload_n 0, 1) := by decide +kernel
theorem dX8_goes_57 : decode cX8_goes 57 = .ok (.getfield 7, 3) := by decide +kernel
theorem dX8_goes_60 : decode cX8_goes 60 = .ok (.sipush 313, 3) := by decide +kernel
theorem dX8_goes_63 : decode cX8_goes 63 = .ok (.bipush 10, 2) := by decide +kernel
theorem dX8_goes_65 : decode cX8_goes 65 = .ok (.iload_n 1, 1) := by decide +kernel
theorem dX8_goes_66 : decode cX8_goes 66 = .ok (.imul, 1) := by decide +kernel
theorem dX8_goes_67 : decode cX8_goes 67 = .ok (.iadd, 1) := by decide +kernel
theorem dX8_goes_68 : decode cX8_goes 68 = .ok (.iload_n 2, 1) := by decide +kernel
theorem dX8_goes_69 : decode cX8_goes 69 = .ok (.iadd, 1) := by decide +kernel
theorem dX8_goes_70 : decode cX8_goes 70 = .ok (.lconst 0, 1) := by decide +kernel
theorem dX8_goes_71 : decode cX8_goes 71 = .ok (.lastore, 1) := by decide +kernel
theorem dX8_goes_72 : decode cX8_goes 72 = .ok (.iinc 2 1, 3) := by decide +kernel
theorem dX8_goes_75 : decode cX8_goes 75 = .ok (.goto (-73), 3) := by decide +kernel
theorem dX8_goes_78 : decode cX8_goes 78 = .ok (.aload_n 0, 1) := by decide +kernel
theorem dX8_goes_79 : decode cX8_goes 79 = .ok (.getfield 7, 3) := by decide +kernel
theorem dX8_goes_82 : decode cX8_goes 82 = .ok (.bipush 13, 2) := by decide +kernel
theorem dX8_goes_84 : decode cX8_goes 84 = .ok (.iload_n 1, 1) := by decide +kernel
theorem dX8_goes_85 : decode cX8_goes 85 = .ok (.iadd, 1) := by decide +kernel
theorem dX8_goes_86 : decode cX8_goes 86 = .ok (.lconst 0, 1) := by decide +kernel
theorem dX8_goes_87 : decode cX8_goes 87 = .ok (.lastore, 1) := by decide +kernel
theorem dX8_goes_88 : decode cX8_goes 88 = .ok (.aload_n 0, 1) := by decide +kernel
theorem dX8_goes_89 : decode cX8_goes 89 = .ok (.getfield 7, 3) := by decide +kernel
theorem dX8_goes_92 : decode cX8_goes 92 = .ok (.bipush 33, 2) := by decide +kernel
theorem dX8_goes_94 : decode cX8_goes 94 = .ok (.iload_n 1, 1) := by decide +kernel
theorem dX8_goes_95 : decode cX8_goes 95 = .ok (.iadd, 1) := by decide +kernel
theorem dX8_goes_96 : decode cX8_goes 96 = .ok (.lconst 0, 1) := by decide +kernel
theorem dX8_goes_97 : decode cX8_goes 97 = .ok (.lastore, 1) := by decide +kernel
theorem dX8_goes_98 : decode cX8_goes 98 = .ok (.aload_n 0, 1) := by decide +kernel
theorem dX8_goes_99 : decode cX8_goes 99 = .ok (.getfield 7, 3) := by decide +kernel
theorem dX8_goes_102 : decode cX8_goes 102 = .ok (.bipush 43, 2) := by decide +kernel
theorem dX8_goes_104 : decode cX8_goes 104 = .ok (.iload_n 1, 1) := by decide +kernel
theorem dX8_goes_105 : decode cX8_goes 105 = .ok (.iadd, 1) := by decide +kernel
theorem dX8_goes_106 : decode cX8_goes 106 = .ok (.lconst 0, 1) := by decide +kernel
theorem dX8_goes_107 : decode cX8_goes 107 = .ok (.lastore, 1) := by decide +kernel
theorem dX8_goes_108 : decode cX8_goes 108 = .ok (.return_, 1) := by decide +kernel
set_option maxRecDepth 20000 in
theorem ggX8_fall_X8_isHere : GoodIn wsX8_fall wsX8_isHere := goodIn_r _ [6, 1, 7, 8, 9, 5, 10, 11, 12, 13, 32, 33, 34, 35, 36, 37, 38, 39, 40, 41, 42, 43, 44] (by decide +kernel) (by decide +kernel)
set_option maxRecDepth 20000 in
theorem gX8_fall_X8_isHere : GoodIn wsX8_fall (wsV RX8 101 RX8 yX8_isHere wsX8_isHere) := goodIn_app (goodIn_of _ (by decide +kernel)) ggX8_fall_X8_isHere
set_option maxRecDepth 20000 in
theorem ggX8_fall_X8_keep : GoodIn wsX8_fall wsX8_keep := goodIn_r _ [17, 18, 19, 1, 32, 33, 34, 35, 36, 37, 38, 39, 40, 41, 42, 43, 44] (by decide +kernel) (by decide +kernel)
set_option maxRecDepth 20000 in
theorem gX8_fall_X8_keep : GoodIn wsX8_fall (wsV RX8 84 RX8 yX8_keep wsX8_keep) := goodIn_app (goodIn_of _ (by decide +kernel)) ggX8_fall_X8_keep
set_option maxRecDepth 20000 in
theorem ggX8_fall_X8_isOf : GoodIn wsX8_fall wsX8_isOf := goodIn_r _ [23, 1, 24, 25, 26, 5, 27, 32, 33, 34, 35, 36, 37, 38, 39, 40, 41, 42, 43, 44] (by decide +kernel) (by decide +kernel)
set_option maxRecDepth 20000 in
theorem gX8_fall_X8_isOf : GoodIn wsX8_fall (wsV RX8 104 RX8 yX8_isOf wsX8_isOf) := goodIn_app (goodIn_of _ (by decide +kernel)) ggX8_fall_X8_isOf
set_option maxRecDepth 20000 in
theorem ggX8_fall_X8_goes : GoodIn wsX8_fall wsX8_goes := goodIn_r _ [31, 1, 32, 33, 34, 35, 36, 37, 38, 39, 40, 41, 42, 43, 44] (by decide +kernel) (by decide +kernel)
set_option maxRecDepth 20000 in
theorem gX8_fall_X8_goes : GoodIn wsX8_fall (wsV RX8 107 RX8 yX8_goes wsX8_goes) := goodIn_app (goodIn_of _ (by decide +kernel)) ggX8_fall_X8_goes
theorem dX8_fall_0 : decode cX8_fall 0 = .ok (.aload_n 0, 1) := by decide +kernel
theorem dX8_fall_1 : decode cX8_fall 1 = .ok (.iload_n 1, 1) := by decide +kernel
theorem dX8_fall_2 : decode cX8_fall 2 = .ok (.invokevirtual 101, 3) := by decide +kernel
theorem dX8_fall_5 : decode cX8_fall 5 = .ok (.ifCond .ne 5, 3) := by decide +kernel
theorem dX8_fall_8 : decode cX8_fall 8 = .ok (.iconst (-1), 1) := by decide +kernel
theorem dX8_fall_9 : decode cX8_fall 9 = .ok (.ireturn, 1) := by decide +kernel
theorem dX8_fall_10 : decode cX8_fall 10 = .ok (.aload_n 0, 1) := by decide +kernel
theorem dX8_fall_11 : decode cX8_fall 11 = .ok (.invokevirtual 84, 3) := by decide +kernel
theorem dX8_fall_14 : decode cX8_fall 14 = .ok (.iconst 0, 1) := by decide +kernel
theorem dX8_fall_15 : decode cX8_fall 15 = .ok (.istore_n 2, 1) := by decide +kernel
theorem dX8_fall_16 : decode cX8_fall 16 = .ok (.iconst 0, 1) := by decide +kernel
theorem dX8_fall_17 : decode cX8_fall 17 = .ok (.istore_n 3, 1) := by decide +kernel
theorem dX8_fall_18 : decode cX8_fall 18 = .ok (.iload_n 3, 1) := by decide +kernel
theorem dX8_fall_19 : decode cX8_fall 19 = .ok (.bipush 8, 2) := by decide +kernel
theorem dX8_fall_21 : decode cX8_fall 21 = .ok (.if_icmp .ge 34, 3) := by decide +kernel
theorem dX8_fall_24 : decode cX8_fall 24 = .ok (.aload_n 0, 1) := by decide +kernel
theorem dX8_fall_25 : decode cX8_fall 25 = .ok (.iload_n 3, 1) := by decide +kernel
theorem dX8_fall_26 : decode cX8_fall 26 = .ok (.iload_n 1, 1) := by decide +kernel
theorem dX8_fall_27 : decode cX8_fall 27 = .ok (.invokevirtual 104, 3) := by decide +kernel
theorem dX8_fall_30 : decode cX8_fall 30 = .ok (.ifCond .eq 19, 3) := by decide +kernel
theorem dX8_fall_33 : decode cX8_fall 33 = .ok (.aload_n 0, 1) := by decide +kernel
theorem dX8_fall_34 : decode cX8_fall 34 = .ok (.getfield 7, 3) := by decide +kernel
theorem dX8_fall_37 : decode cX8_fall 37 = .ok (.sipush 173, 3) := by decide +kernel
theorem dX8_fall_40 : decode cX8_fall 40 = .ok (.iconst 5, 1) := by decide +kernel
theorem dX8_fall_41 : decode cX8_fall 41 = .ok (.iload_n 3, 1) := by decide +kernel
theorem dX8_fall_42 : decode cX8_fall 42 = .ok (.imul, 1) := by decide +kernel
theorem dX8_fall_43 : decode cX8_fall 43 = .ok (.iadd, 1) := by decide +kernel
theorem dX8_fall_44 : decode cX8_fall 44 = .ok (.lconst 0, 1) := by decide +kernel
theorem dX8_fall_45 : decode cX8_fall 45 = .ok (.lastore, 1) := by decide +kernel
theorem dX8_fall_46 : decode cX8_fall 46 = .ok (.iinc 2 1, 3) := by decide +kernel
theorem dX8_fall_49 : decode cX8_fall 49 = .ok (.iinc 3 1, 3) := by decide +kernel
theorem dX8_fall_52 : decode cX8_fall 52 = .ok (.goto (-34), 3) := by decide +kernel
theorem dX8_fall_55 : decode cX8_fall 55 = .ok (.iconst 0, 1) := by decide +kernel
theorem dX8_fall_56 : decode cX8_fall 56 = .ok (.istore_n 3, 1) := by decide +kernel
theorem dX8_fall_57 : decode cX8_fall 57 = .ok (.iload_n 3, 1) := by decide +kernel
theorem dX8_fall_58 : decode cX8_fall 58 = .ok (.bipush 10, 2) := by decide +kernel
theorem dX8_fall_60 : decode cX8_fall 60 = .ok (.if_icmp .ge 140, 3) := by decide +kernel
theorem dX8_fall_63 : decode cX8_fall 63 = .ok (.iload_n 3, 1) := by decide +kernel
theorem dX8_fall_64 : decode cX8_fall 64 = .ok (.iload_n 1, 1) := by decide +kernel
theorem dX8_fall_65 : decode cX8_fall 65 = .ok (.if_icmp .eq 65, 3) := by decide +kernel
theorem dX8_fall_68 : decode cX8_fall 68 = .ok (.aload_n 0, 1) := by decide +kernel
theorem dX8_fall_69 : decode cX8_fall 69 = .ok (.iload_n 3, 1) := by decide +kernel
theorem dX8_fall_70 : decode cX8_fall 70 = .ok (.invokevirtual 101, 3) := by decide +kernel
theorem dX8_fall_73 : decode cX8_fall 73 = .ok (.ifCond .eq 57, 3) := by decide +kernel
theorem dX8_fall_76 : decode cX8_fall 76 = .ok (.aload_n 0, 1) := by decide +kernel
theorem dX8_fall_77 : decode cX8_fall 77 = .ok (.getfield 7, 3) := by decide +kernel
theorem dX8_fall_80 : decode cX8_fall 80 = .ok (.bipush 33, 2) := by decide +kernel
theorem dX8_fall_82 : decode cX8_fall 82 = .ok (.iload_n 3, 1) := by decide +kernel
theorem dX8_fall_83 : decode cX8_fall 83 = .ok (.iadd, 1) := by decide +kernel
theorem dX8_fall_84 : decode cX8_fall 84 = .ok (.dup2, 1) := by decide +kernel
theorem dX8_fall_85 : decode cX8_fall 85 = .ok (.laload, 1) := by decide +kernel
theorem dX8_fall_86 : decode cX8_fall 86 = .ok (.aload_n 0, 1) := by decide +kernel
theorem dX8_fall_87 : decode cX8_fall 87 = .ok (.getfield 7, 3) := by decide +kernel
theorem dX8_fall_90 : decode cX8_fall 90 = .ok (.sipush 213, 3) := by decide +kernel
theorem dX8_fall_93 : decode cX8_fall 93 = .ok (.bipush 10, 2) := by decide +kernel
theorem dX8_fall_95 : decode cX8_fall 95 = .ok (.iload_n 3, 1) := by decide +kernel
theorem dX8_fall_96 : decode cX8_fall 96 = .ok (.imul, 1) := by decide +kernel
theorem dX8_fall_97 : decode cX8_fall 97 = .ok (.iadd, 1) := by decide +kernel
theorem dX8_fall_98 : decode cX8_fall 98 = .ok (.iload_n 1, 1) := by decide +kernel
theorem dX8_fall_99 : decode cX8_fall 99 = .ok (.iadd, 1) := by decide +kernel
theorem dX8_fall_100 : decode cX8_fall 100 = .ok (.laload, 1) := by decide +kernel
theorem dX8_fall_101 : decode cX8_fall 101 = .ok (.ladd, 1) := by decide +kernel
theorem dX8_fall_102 : decode cX8_fall 102 = .ok (.lastore, 1) := by decide +kernel
theorem dX8_fall_103 : decode cX8_fall 103 = .ok (.aload_n 0, 1) := by decide +kernel
theorem dX8_fall_104 : decode cX8_fall 104 = .ok (.getfield 7, 3) := by decide +kernel
theorem dX8_fall_107 : decode cX8_fall 107 = .ok (.bipush 43, 2) := by decide +kernel
theorem dX8_fall_109 : decode cX8_fall 109 = .ok (.iload_n 3, 1) := by decide +kernel
theorem dX8_fall_110 : decode cX8_fall 110 = .ok (.iadd, 1) := by decide +kernel
theorem dX8_fall_111 : decode cX8_fall 111 = .ok (.dup2, 1) := by decide +kernel
theorem dX8_fall_112 : decode cX8_fall 112 = .ok (.laload, 1) := by decide +kernel
theorem dX8_fall_113 : decode cX8_fall 113 = .ok (.aload_n 0, 1) := by decide +kernel
theorem dX8_fall_114 : decode cX8_fall 114 = .ok (.getfield 7, 3) := by decide +kernel
theorem dX8_fall_117 : decode cX8_fall 117 = .ok (.sipush 313, 3) := by decide +kernel
theorem dX8_fall_120 : decode cX8_fall 120 = .ok (.bipush 10, 2) := by decide +kernel
theorem dX8_fall_122 : decode cX8_fall 122 = .ok (.iload_n 3, 1) := by decide +kernel
theorem dX8_fall_123 : decode cX8_fall 123 = .ok (.imul, 1) := by decide +kernel
theorem dX8_fall_124 : decode cX8_fall 124 = .ok (.iadd, 1) := by decide +kernel
theorem dX8_fall_125 : decode cX8_fall 125 = .ok (.iload_n 1, 1) := by decide +kernel
theorem dX8_fall_126 : decode cX8_fall 126 = .ok (.iadd, 1) := by decide +kernel
theorem dX8_fall_127 : decode cX8_fall 127 = .ok (.laload, 1) := by decide +kernel
theorem dX8_fall_128 : decode cX8_fall 128 = .ok (.ladd, 1) := by decide +kernel
theorem dX8_fall_129 : decode cX8_fall 129 = .ok (.lastore, 1) := by decide +kernel
theorem dX8_fall_130 : decode cX8_fall 130 = .ok (.aload_n 0, 1) := by decide +kernel
theorem dX8_fall_131 : decode cX8_fall 131 = .ok (.getfield 7, 3) := by decide +kernel
theorem dX8_fall_134 : decode cX8_fall 134 = .ok (.sipush 413, 3) := by decide +kernel
theorem dX8_fall_137 : decode cX8_fall 137 = .ok (.bipush 10, 2) := by decide +kernel
theorem dX8_fall_139 : decode cX8_fall 139 = .ok (.iload_n 3, 1) := by decide +kernel
theorem dX8_fall_140 : decode cX8_fall 140 = .ok (.imul, 1) := by decide +kernel
theorem dX8_fall_141 : decode cX8_fall 141 = .ok (.iadd, 1) := by decide +kernel
theorem dX8_fall_142 : decode cX8_fall 142 = .ok (.iload_n 1, 1) := by decide +kernel
theorem dX8_fall_143 : decode cX8_fall 143 = .ok (.iadd, 1) := by decide +kernel
theorem dX8_fall_144 : decode cX8_fall 144 = .ok (.lconst 0, 1) := by decide +kernel
theorem dX8_fall_145 : decode cX8_fall 145 = .ok (.lastore, 1) := by decide +kernel
theorem dX8_fall_146 : decode cX8_fall 146 = .ok (.aload_n 0, 1) := by decide +kernel
theorem dX8_fall_147 : decode cX8_fall 147 = .ok (.getfield 7, 3) := by decide +kernel
theorem dX8_fall_150 : decode cX8_fall 150 = .ok (.sipush 413, 3) := by decide +kernel
theorem dX8_fall_153 : decode cX8_fall 153 = .ok (.bipush 10, 2) := by decide +kernel
theorem dX8_fall_155 : decode cX8_fall 155 = .ok (.iload_n 1, 1) := by decide +kernel
theorem dX8_fall_156 : decode cX8_fall 156 = .ok (.imul, 1) := by decide +kernel
theorem dX8_fall_157 : decode cX8_fall 157 = .ok (.iadd, 1) := by decide +kernel
theorem dX8_fall_158 : decode cX8_fall 158 = .ok (.iload_n 3, 1) := by decide +kernel
theorem dX8_fall_159 : decode cX8_fall 159 = .ok (.iadd, 1) := by decide +kernel
theorem dX8_fall_160 : decode cX8_fall 160 = .ok (.lconst 0, 1) := by decide +kernel
theorem dX8_fall_161 : decode cX8_fall 161 = .ok (.lastore, 1) := by decide +kernel
theorem dX8_fall_162 : decode cX8_fall 162 = .ok (.aload_n 0, 1) := by decide +kernel
theorem dX8_fall_163 : decode cX8_fall 163 = .ok (.getfield 7, 3) := by decide +kernel
theorem dX8_fall_166 : decode cX8_fall 166 = .ok (.sipush 513, 3) := by decide +kernel
theorem dX8_fall_169 : decode cX8_fall 169 = .ok (.bipush 10, 2) := by decide +kernel
theorem dX8_fall_171 : decode cX8_fall 171 = .ok (.iload_n 3, 1) := by decide +kernel
theorem dX8_fall_172 : decode cX8_fall 172 = .ok (.imul, 1) := by decide +kernel
theorem dX8_fall_173 : decode cX8_fall 173 = .ok (.iadd, 1) := by decide +kernel
theorem dX8_fall_174 : decode cX8_fall 174 = .ok (.iload_n 1, 1) := by decide +kernel
theorem dX8_fall_175 : decode cX8_fall 175 = .ok (.iadd, 1) := by decide +kernel
theorem dX8_fall_176 : decode cX8_fall 176 = .ok (.lconst 0, 1) := by decide +kernel
theorem dX8_fall_177 : decode cX8_fall 177 = .ok (.lastore, 1) := by decide +kernel
theorem dX8_fall_178 : decode cX8_fall 178 = .ok (.aload_n 0, 1) := by decide +kernel
theorem dX8_fall_179 : decode cX8_fall 179 = .ok (.getfield 7, 3) := by decide +kernel
theorem dX8_fall_182 : decode cX8_fall 182 = .ok (.sipush 513, 3) := by decide +kernel
theorem dX8_fall_185 : decode cX8_fall 185 = .ok (.bipush 10, 2) := by decide +kernel
theorem dX8_fall_187 : decode cX8_fall 187 = .ok (.iload_n 1, 1) := by decide +kernel
theorem dX8_fall_188 : decode cX8_fall 188 = .ok (.imul, 1) := by decide +kernel
theorem dX8_fall_189 : decode cX8_fall 189 = .ok (.iadd, 1) := by decide +kernel
theorem dX8_fall_190 : decode cX8_fall 190 = .ok (.iload_n 3, 1) := by decide +kernel
theorem dX8_fall_191 : decode cX8_fall 191 = .ok (.iadd, 1) := by decide +kernel
theorem dX8_fall_192 : decode cX8_fall 192 = .ok (.lconst 0, 1) := by decide +kernel
theorem dX8_fall_193 : decode cX8_fall 193 = .ok (.lastore, 1) := by decide +kernel
theorem dX8_fall_194 : decode cX8_fall 194 = .ok (.iinc 3 1, 3) := by decide +kernel
theorem dX8_fall_197 : decode cX8_fall 197 = .ok (.goto (-140), 3) := by decide +kernel
theorem dX8_fall_200 : decode cX8_fall 200 = .ok (.aload_n 0, 1) := by decide +kernel
theorem dX8_fall_201 : decode cX8_fall 201 = .ok (.iload_n 1, 1) := by decide +kernel
theorem dX8_fall_202 : decode cX8_fall 202 = .ok (.invokevirtual 107, 3) := by decide +kernel
theorem dX8_fall_205 : decode cX8_fall 205 = .ok (.iload_n 2, 1) := by decide +kernel
theorem dX8_fall_206 : decode cX8_fall 206 = .ok (.ireturn, 1) := by decide +kernel
theorem dX8_hands_0 : decode cX8_hands 0 = .ok (.aload_n 0, 1) := by decide +kernel
theorem dX8_hands_1 : decode cX8_hands 1 = .ok (.getfield 7, 3) := by decide +kernel
theorem dX8_hands_4 : decode cX8_hands 4 = .ok (.iload_n 1, 1) := by decide +kernel
theorem dX8_hands_5 : decode cX8_hands 5 = .ok (.bipush 10, 2) := by decide +kernel
theorem dX8_hands_7 : decode cX8_hands 7 = .ok (.iload_n 3, 1) := by decide +kernel
theorem dX8_hands_8 : decode cX8_hands 8 = .ok (.imul, 1) := by decide +kernel
theorem dX8_hands_9 : decode cX8_hands 9 = .ok (.iadd, 1) := by decide +kernel
theorem dX8_hands_10 : decode cX8_hands 10 = .ok (.iload_n 3, 1) := by decide +kernel
theorem dX8_hands_11 : decode cX8_hands 11 = .ok (.iadd, 1) := by decide +kernel
theorem dX8_hands_12 : decode cX8_hands 12 = .ok (.dup2, 1) := by decide +kernel
theorem dX8_hands_13 : decode cX8_hands 13 = .ok (.laload, 1) := by decide +kernel
theorem dX8_hands_14 : decode cX8_hands 14 = .ok (.aload_n 0, 1) := by decide +kernel
theorem dX8_hands_15 : decode cX8_hands 15 = .ok (.getfield 7, 3) := by decide +kernel
theorem dX8_hands_18 : decode cX8_hands 18 = .ok (.iload_n 1, 1) := by decide +kernel
theorem dX8_hands_19 : decode cX8_hands 19 = .ok (.bipush 10, 2) := by decide +kernel
theorem dX8_hands_21 : decode cX8_hands 21 = .ok (.iload_n 2, 1) := by decide +kernel
theorem dX8_hands_22 : decode cX8_hands 22 = .ok (.imul, 1) := by decide +kernel
theorem dX8_hands_23 : decode cX8_hands 23 = .ok (.iadd, 1) := by decide +kernel
theorem dX8_hands_24 : decode cX8_hands 24 = .ok (.iload_n 2, 1) := by decide +kernel
theorem dX8_hands_25 : decode cX8_hands 25 = .ok (.iadd, 1) := by decide +kernel
theorem dX8_hands_26 : decode cX8_hands 26 = .ok (.laload, 1) := by decide +kernel
theorem dX8_hands_27 : decode cX8_hands 27 = .ok (.ladd, 1) := by decide +kernel
theorem dX8_hands_28 : decode cX8_hands 28 = .ok (.lastore, 1) := by decide +kernel
theorem dX8_hands_29 : decode cX8_hands 29 = .ok (.aload_n 0, 1) := by decide +kernel
theorem dX8_hands_30 : decode cX8_hands 30 = .ok (.getfield 7, 3) := by decide +kernel
theorem dX8_hands_33 : decode cX8_hands 33 = .ok (.iload_n 1, 1) := by decide +kernel
theorem dX8_hands_34 : decode cX8_hands 34 = .ok (.bipush 10, 2) := by decide +kernel
theorem dX8_hands_36 : decode cX8_hands 36 = .ok (.iload_n 2, 1) := by decide +kernel
theorem dX8_hands_37 : decode cX8_hands 37 = .ok (.imul, 1) := by decide +kernel
theorem dX8_hands_38 : decode cX8_hands 38 = .ok (.iadd, 1) := by decide +kernel
theorem dX8_hands_39 : decode cX8_hands 39 = .ok (.iload_n 2, 1) := by decide +kernel
theorem dX8_hands_40 : decode cX8_hands 40 = .ok (.iadd, 1) := by decide +kernel
theorem dX8_hands_41 : decode cX8_hands 41 = .ok (.lconst 0, 1) := by decide +kernel
theorem dX8_hands_42 : decode cX8_hands 42 = .ok (.lastore, 1) := by decide +kernel
theorem dX8_hands_43 : decode cX8_hands 43 = .ok (.iconst 0, 1) := by decide +kernel
theorem dX8_hands_44 : decode cX8_hands 44 = .ok (.istore 4, 2) := by decide +kernel
theorem dX8_hands_46 : decode cX8_hands 46 = .ok (.iload 4, 2) := by decide +kernel
theorem dX8_hands_48 : decode cX8_hands 48 = .ok (.bipush 10, 2) := by decide +kernel
theorem dX8_hands_50 : decode cX8_hands 50 = .ok (.if_icmp .ge 61, 3) := by decide +kernel
theorem dX8_hands_53 : decode cX8_hands 53 = .ok (.iload 4, 2) := by decide +kernel
theorem dX8_hands_55 : decode cX8_hands 55 = .ok (.iload_n 2, 1) := by decide +kernel
theorem dX8_hands_56 : decode cX8_hands 56 = .ok (.if_icmp .eq 49, 3) := by decide +kernel
theorem dX8_hands_59 : decode cX8_hands 59 = .ok (.aload_n 0, 1) := by decide +kernel
theorem dX8_hands_60 : decode cX8_hands 60 = .ok (.getfield 7, 3) := by decide +kernel
theorem dX8_hands_63 : decode cX8_hands 63 = .ok (.iload_n 1, 1) := by decide +kernel
theorem dX8_hands_64 : decode cX8_hands 64 = .ok (.bipush 10, 2) := by decide +kernel
theorem dX8_hands_66 : decode cX8_hands 66 = .ok (.iload 4, 2) := by decide +kernel
theorem dX8_hands_68 : decode cX8_hands 68 = .ok (.imul, 1) := by decide +kernel
theorem dX8_hands_69 : decode cX8_hands 69 = .ok (.iadd, 1) := by decide +kernel
theorem dX8_hands_70 : decode cX8_hands 70 = .ok (.iload_n 3, 1) := by decide +kernel
theorem dX8_hands_71 : decode cX8_hands 71 = .ok (.iadd, 1) := by decide +kernel
theorem dX8_hands_72 : decode cX8_hands 72 = .ok (.dup2, 1) := by decide +kernel
theorem dX8_hands_73 : decode cX8_hands 73 = .ok (.laload, 1) := by decide +kernel
theorem dX8_hands_74 : decode cX8_hands 74 = .ok (.aload_n 0, 1) := by decide +kernel
theorem dX8_hands_75 : decode cX8_hands 75 = .ok (.getfield 7, 3) := by decide +kernel
theorem dX8_hands_78 : decode cX8_hands 78 = .ok (.iload_n 1, 1) := by decide +kernel
theorem dX8_hands_79 : decode cX8_hands 79 = .ok (.bipush 10, 2) := by decide +kernel
theorem dX8_hands_81 : decode cX8_hands 81 = .ok (.iload 4, 2) := by decide +kernel
theorem dX8_hands_83 : decode cX8_hands 83 = .ok (.imul, 1) := by decide +kernel
theorem dX8_hands_84 : decode cX8_hands 84 = .ok (.iadd, 1) := by decide +kernel
theorem dX8_hands_85 : decode cX8_hands 85 = .ok (.iload_n 2, 1) := by decide +kernel
theorem dX8_hands_86 : decode cX8_hands 86 = .ok (.iadd, 1) := by decide +kernel
theorem dX8_hands_87 : decode cX8_hands 87 = .ok (.laload, 1) := by decide +kernel
theorem dX8_hands_88 : decode cX8_hands 88 = .ok (.ladd, 1) := by decide +kernel
theorem dX8_hands_89 : decode cX8_hands 89 = .ok (.lastore, 1) := by decide +kernel
theorem dX8_hands_90 : decode cX8_hands 90 = .ok (.aload_n 0, 1) := by decide +kernel
theorem dX8_hands_91 : decode cX8_hands 91 = .ok (.getfield 7, 3) := by decide +kernel
theorem dX8_hands_94 : decode cX8_hands 94 = .ok (.iload_n 1, 1) := by decide +kernel
theorem dX8_hands_95 : decode cX8_hands 95 = .ok (.bipush 10, 2) := by decide +kernel
theorem dX8_hands_97 : decode cX8_hands 97 = .ok (.iload 4, 2) := by decide +kernel
theorem dX8_hands_99 : decode cX8_hands 99 = .ok (.imul, 1) := by decide +kernel
theorem dX8_hands_100 : decode cX8_hands 100 = .ok (.iadd, 1) := by decide +kernel
theorem dX8_hands_101 : decode cX8_hands 101 = .ok (.iload_n 2, 1) := by decide +kernel
theorem dX8_hands_102 : decode cX8_hands 102 = .ok (.iadd, 1) := by decide +kernel
theorem dX8_hands_103 : decode cX8_hands 103 = .ok (.lconst 0, 1) := by decide +kernel
theorem dX8_hands_104 : decode cX8_hands 104 = .ok (.lastore, 1) := by decide +kernel
theorem dX8_hands_105 : decode cX8_hands 105 = .ok (.iinc 4 1, 3) := by decide +kernel
theorem dX8_hands_108 : decode cX8_hands 108 = .ok (.goto (-62), 3) := by decide +kernel
theorem dX8_hands_111 : decode cX8_hands 111 = .ok (.iconst 0, 1) := by decide +kernel
theorem dX8_hands_112 : decode cX8_hands 112 = .ok (.istore 4, 2) := by decide +kernel
theorem dX8_hands_114 : decode cX8_hands 114 = .ok (.iload 4, 2) := by decide +kernel
theorem dX8_hands_116 : decode cX8_hands 116 = .ok (.bipush 10, 2) := by decide +kernel
theorem dX8_hands_118 : decode cX8_hands 118 = .ok (.if_icmp .ge 55, 3) := by decide +kernel
theorem dX8_hands_121 : decode cX8_hands 121 = .ok (.aload_n 0, 1) := by decide +kernel
theorem dX8_hands_122 : decode cX8_hands 122 = .ok (.getfield 7, 3) := by decide +kernel
theorem dX8_hands_125 : decode cX8_hands 125 = .ok (.iload_n 1, 1) := by decide +kernel
theorem dX8_hands_126 : decode cX8_hands 126 = .ok (.bipush 10, 2) := by decide +kernel
theorem dX8_hands_128 : decode cX8_hands 128 = .ok (.iload_n 3, 1) := by decide +kernel
theorem dX8_hands_129 : decode cX8_hands 129 = .ok (.imul, 1) := by decide +kernel
theorem dX8_hands_130 : decode cX8_hands 130 = .ok (.iadd, 1) := by decide +kernel
theorem dX8_hands_131 : decode cX8_hands 131 = .ok (.iload 4, 2) := by decide +kernel
theorem dX8_hands_133 : decode cX8_hands 133 = .ok (.iadd, 1) := by decide +kernel
theorem dX8_hands_134 : decode cX8_hands 134 = .ok (.dup2, 1) := by decide +kernel
theorem dX8_hands_135 : decode cX8_hands 135 = .ok (.laload, 1) := by decide +kernel
theorem dX8_hands_136 : decode cX8_hands 136 = .ok (.aload_n 0, 1) := by decide +kernel
theorem dX8_hands_137 : decode cX8_hands 137 = .ok (.getfield 7, 3) := by decide +kernel
theorem dX8_hands_140 : decode cX8_hands 140 = .ok (.iload_n 1, 1) := by decide +kernel
theorem dX8_hands_141 : decode cX8_hands 141 = .ok (.bipush 10, 2) := by decide +kernel
theorem dX8_hands_143 : decode cX8_hands 143 = .ok (.iload_n 2, 1) := by decide +kernel
theorem dX8_hands_144 : decode cX8_hands 144 = .ok (.imul, 1) := by decide +kernel
theorem dX8_hands_145 : decode cX8_hands 145 = .ok (.iadd, 1) := by decide +kernel
theorem dX8_hands_146 : decode cX8_hands 146 = .ok (.iload 4, 2) := by decide +kernel
theorem dX8_hands_148 : decode cX8_hands 148 = .ok (.iadd, 1) := by decide +kernel
theorem dX8_hands_149 : decode cX8_hands 149 = .ok (.laload, 1) := by decide +kernel
theorem dX8_hands_150 : decode cX8_hands 150 = .ok (.ladd, 1) := by decide +kernel
theorem dX8_hands_151 : decode cX8_hands 151 = .ok (.lastore, 1) := by decide +kernel
theorem dX8_hands_152 : decode cX8_hands 152 = .ok (.aload_n 0, 1) := by decide +kernel
theorem dX8_hands_153 : decode cX8_hands 153 = .ok (.getfield 7, 3) := by decide +kernel
theorem dX8_hands_156 : decode cX8_hands 156 = .ok (.iload_n 1, 1) := by decide +kernel
theorem dX8_hands_157 : decode cX8_hands 157 = .ok (.bipush 10, 2) := by decide +kernel
theorem dX8_hands_159 : decode cX8_hands 159 = .ok (.iload_n 2, 1) := by decide +kernel
theorem dX8_hands_160 : decode cX8_hands 160 = .ok (.imul, 1) := by decide +kernel
theorem dX8_hands_161 : decode cX8_hands 161 = .ok (.iadd, 1) := by decide +kernel
theorem dX8_hands_162 : decode cX8_hands 162 = .ok (.iload 4, 2) := by decide +kernel
theorem dX8_hands_164 : decode cX8_hands 164 = .ok (.iadd, 1) := by decide +kernel
theorem dX8_hands_165 : decode cX8_hands 165 = .ok (.lconst 0, 1) := by decide +kernel
theorem dX8_hands_166 : decode cX8_hands 166 = .ok (.lastore, 1) := by decide +kernel
theorem dX8_hands_167 : decode cX8_hands 167 = .ok (.iinc 4 1, 3) := by decide +kernel
theorem dX8_hands_170 : decode cX8_hands 170 = .ok (.goto (-56), 3) := by decide +kernel
theorem dX8_hands_173 : decode cX8_hands 173 = .ok (.return_, 1) := by decide +kernel
set_option maxRecDepth 20000 in
theorem ggX8_leave_X8_isHere : GoodIn wsX8_leave wsX8_isHere := goodIn_r _ [7, 1, 8, 9, 10, 6, 11, 12, 13, 14, 41, 42, 43, 44, 45, 46, 47, 48, 49, 50, 51, 52, 53] (by decide +kernel) (by decide +kernel)
set_option maxRecDepth 20000 in
theorem gX8_leave_X8_isHere : GoodIn wsX8_leave (wsV RX8 101 RX8 yX8_isHere wsX8_isHere) := goodIn_app (goodIn_of _ (by decide +kernel)) ggX8_leave_X8_isHere
set_option maxRecDepth 20000 in
theorem ggX8_leave_X8_areJoined : GoodIn wsX8_leave wsX8_areJoined := goodIn_r _ [18, 1, 41, 42, 43, 44, 45, 46, 47, 48, 49, 50, 51, 52, 53] (by decide +kernel) (by decide +kernel)
set_option maxRecDepth 20000 in
theorem gX8_leave_X8_areJoined : GoodIn wsX8_leave (wsV RX8 59 RX8 yX8_areJoined wsX8_areJoined) := goodIn_app (goodIn_of _ (by decide +kernel)) ggX8_leave_X8_areJoined
set_option maxRecDepth 20000 in
theorem ggX8_leave_X8_isOf : GoodIn wsX8_leave wsX8_isOf := goodIn_r _ [22, 1, 23, 24, 25, 6, 26, 41, 42, 43, 44, 45, 46, 47, 48, 49, 50, 51, 52, 53] (by decide +kernel) (by decide +kernel)
set_option maxRecDepth 20000 in
theorem gX8_leave_X8_isOf : GoodIn wsX8_leave (wsV RX8 104 RX8 yX8_isOf wsX8_isOf) := goodIn_app (goodIn_of _ (by decide +kernel)) ggX8_leave_X8_isOf
set_option maxRecDepth 20000 in
theorem ggX8_leave_X8_keep : GoodIn wsX8_leave wsX8_keep := goodIn_r _ [30, 31, 32, 1, 41, 42, 43, 44, 45, 46, 47, 48, 49, 50, 51, 52, 53] (by decide +kernel) (by decide +kernel)
set_option maxRecDepth 20000 in
theorem gX8_leave_X8_keep : GoodIn wsX8_leave (wsV RX8 84 RX8 yX8_keep wsX8_keep) := goodIn_app (goodIn_of _ (by decide +kernel)) ggX8_leave_X8_keep
set_option maxRecDepth 20000 in
theorem ggX8_leave_X8_hands : GoodIn wsX8_leave wsX8_hands := goodIn_r _ [36, 1, 41, 42, 43, 44, 45, 46, 47, 48, 49, 50, 51, 52, 53] (by decide +kernel) (by decide +kernel)
set_option maxRecDepth 20000 in
theorem gX8_leave_X8_hands : GoodIn wsX8_leave (wsV RX8 110 RX8 yX8_hands wsX8_hands) := goodIn_app (goodIn_of _ (by decide +kernel)) ggX8_leave_X8_hands
set_option maxRecDepth 20000 in
theorem ggX8_leave_X8_goes : GoodIn wsX8_leave wsX8_goes := goodIn_r _ [40, 1, 41, 42, 43, 44, 45, 46, 47, 48, 49, 50, 51, 52, 53] (by decide +kernel) (by decide +kernel)
set_option maxRecDepth 20000 in
theorem gX8_leave_X8_goes : GoodIn wsX8_leave (wsV RX8 107 RX8 yX8_goes wsX8_goes) := goodIn_app (goodIn_of _ (by decide +kernel)) ggX8_leave_X8_goes
theorem dX8_leave_0 : decode cX8_leave 0 = .ok (.aload_n 0, 1) := by decide +kernel
theorem dX8_leave_1 : decode cX8_leave 1 = .ok (.iload_n 1, 1) := by decide +kernel
theorem dX8_leave_2 : decode cX8_leave 2 = .ok (.invokevirtual 101, 3) := by decide +kernel
theorem dX8_leave_5 : decode cX8_leave 5 = .ok (.ifCond .eq 16, 3) := by decide +kernel
theorem dX8_leave_8 : decode cX8_leave 8 = .ok (.aload_n 0, 1) := by decide +kernel
theorem dX8_leave_9 : decode cX8_leave 9 = .ok (.iload_n 2, 1) := by decide +kernel
theorem dX8_leave_10 : decode cX8_leave 10 = .ok (.invokevirtual 101, 3) := by decide +kernel
theorem dX8_leave_13 : decode cX8_leave 13 = .ok (.ifCond .eq 8, 3) := by decide +kernel
theorem dX8_leave_16 : decode cX8_leave 16 = .ok (.iload_n 1, 1) := by decide +kernel
theorem dX8_leave_17 : decode cX8_leave 17 = .ok (.iload_n 2, 1) := by decide +kernel
theorem dX8_leave_18 : decode cX8_leave 18 = .ok (.if_icmp .ne 5, 3) := by decide +kernel
theorem dX8_leave_21 : decode cX8_leave 21 = .ok (.iconst (-1), 1) := by decide +kernel
theorem dX8_leave_22 : decode cX8_leave 22 = .ok (.ireturn, 1) := by decide +kernel
theorem dX8_leave_23 : decode cX8_leave 23 = .ok (.aload_n 0, 1) := by decide +kernel
theorem dX8_leave_24 : decode cX8_leave 24 = .ok (.iload_n 1, 1) := by decide +kernel
theorem dX8_leave_25 : decode cX8_leave 25 = .ok (.iload_n 2, 1) := by decide +kernel
theorem dX8_leave_26 : decode cX8_leave 26 = .ok (.invokevirtual 59, 3) := by decide +kernel
theorem dX8_leave_29 : decode cX8_leave 29 = .ok (.ifCond .ne 7, 3) := by decide +kernel
theorem dX8_leave_32 : decode cX8_leave 32 = .ok (.iconst 1, 1) := by decide +kernel
theorem dX8_leave_33 : decode cX8_leave 33 = .ok (.goto 4, 3) := by decide +kernel
theorem dX8_leave_36 : decode cX8_leave 36 = .ok (.iconst 0, 1) := by decide +kernel
theorem dX8_leave_37 : decode cX8_leave 37 = .ok (.istore_n 3, 1) := by decide +kernel
theorem dX8_leave_38 : decode cX8_leave 38 = .ok (.iconst 0, 1) := by decide +kernel
theorem dX8_leave_39 : decode cX8_leave 39 = .ok (.istore 4, 2) := by decide +kernel
theorem dX8_leave_41 : decode cX8_leave 41 = .ok (.iload 4, 2) := by decide +kernel
theorem dX8_leave_43 : decode cX8_leave 43 = .ok (.bipush 8, 2) := by decide +kernel
theorem dX8_leave_45 : decode cX8_leave 45 = .ok (.if_icmp .ge 29, 3) := by decide +kernel
theorem dX8_leave_48 : decode cX8_leave 48 = .ok (.iload_n 3, 1) := by decide +kernel
theorem dX8_leave_49 : decode cX8_leave 49 = .ok (.ifCond .ne 13, 3) := by decide +kernel
theorem dX8_leave_52 : decode cX8_leave 52 = .ok (.aload_n 0, 1) := by decide +kernel
theorem dX8_leave_53 : decode cX8_leave 53 = .ok (.iload 4, 2) := by decide +kernel
theorem dX8_leave_55 : decode cX8_leave 55 = .ok (.iload_n 1, 1) := by decide +kernel
theorem dX8_leave_56 : decode cX8_leave 56 = .ok (.invokevirtual 104, 3) := by decide +kernel
theorem dX8_leave_59 : decode cX8_leave 59 = .ok (.ifCond .eq 7, 3) := by decide +kernel
theorem dX8_leave_62 : decode cX8_leave 62 = .ok (.iconst 1, 1) := by decide +kernel
theorem dX8_leave_63 : decode cX8_leave 63 = .ok (.goto 4, 3) := by decide +kernel
theorem dX8_leave_66 : decode cX8_leave 66 = .ok (.iconst 0, 1) := by decide +kernel
theorem dX8_leave_67 : decode cX8_leave 67 = .ok (.istore_n 3, 1) := by decide +kernel
theorem dX8_leave_68 : decode cX8_leave 68 = .ok (.iinc 4 1, 3) := by decide +kernel
theorem dX8_leave_71 : decode cX8_leave 71 = .ok (.goto (-30), 3) := by decide +kernel
theorem dX8_leave_74 : decode cX8_leave 74 = .ok (.iload_n 3, 1) := by decide +kernel
theorem dX8_leave_75 : decode cX8_leave 75 = .ok (.ifCond .eq 6, 3) := by decide +kernel
theorem dX8_leave_78 : decode cX8_leave 78 = .ok (.bipush (-2), 2) := by decide +kernel
theorem dX8_leave_80 : decode cX8_leave 80 = .ok (.ireturn, 1) := by decide +kernel
theorem dX8_leave_81 : decode cX8_leave 81 = .ok (.aload_n 0, 1) := by decide +kernel
theorem dX8_leave_82 : decode cX8_leave 82 = .ok (.invokevirtual 84, 3) := by decide +kernel
theorem dX8_leave_85 : decode cX8_leave 85 = .ok (.aload_n 0, 1) := by decide +kernel
theorem dX8_leave_86 : decode cX8_leave 86 = .ok (.getfield 7, 3) := by decide +kernel
theorem dX8_leave_89 : decode cX8_leave 89 = .ok (.bipush 33, 2) := by decide +kernel
theorem dX8_leave_91 : decode cX8_leave 91 = .ok (.iload_n 2, 1) := by decide +kernel
theorem dX8_leave_92 : decode cX8_leave 92 = .ok (.iadd, 1) := by decide +kernel
theorem dX8_leave_93 : decode cX8_leave 93 = .ok (.dup2, 1) := by decide +kernel
theorem dX8_leave_94 : decode cX8_leave 94 = .ok (.laload, 1) := by decide +kernel
theorem dX8_leave_95 : decode cX8_leave 95 = .ok (.aload_n 0, 1) := by decide +kernel
theorem dX8_leave_96 : decode cX8_leave 96 = .ok (.getfield 7, 3) := by decide +kernel
theorem dX8_leave_99 : decode cX8_leave 99 = .ok (.bipush 33, 2) := by decide +kernel
theorem dX8_leave_101 : decode cX8_leave 101 = .ok (.iload_n 1, 1) := by decide +kernel
theorem dX8_leave_102 : decode cX8_leave 102 = .ok (.iadd, 1) := by decide +kernel
theorem dX8_leave_103 : decode cX8_leave 103 = .ok (.laload, 1) := by decide +kernel
theorem dX8_leave_104 : decode cX8_leave 104 = .ok (.aload_n 0, 1) := by decide +kernel
theorem dX8_leave_105 : decode cX8_leave 105 = .ok (.getfield 7, 3) := by decide +kernel
theorem dX8_leave_108 : decode cX8_leave 108 = .ok (.bipush 23, 2) := by decide +kernel
theorem dX8_leave_110 : decode cX8_leave 110 = .ok (.iload_n 1, 1) := by decide +kernel
theorem dX8_leave_111 : decode cX8_leave 111 = .ok (.iadd, 1) := by decide +kernel
theorem dX8_leave_112 : decode cX8_leave 112 = .ok (.laload, 1) := by decide +kernel
theorem dX8_leave_113 : decode cX8_leave 113 = .ok (.ldc2_w 69, 3) := by decide +kernel
theorem dX8_leave_116 : decode cX8_leave 116 = .ok (.lmul, 1) := by decide +kernel
theorem dX8_leave_117 : decode cX8_leave 117 = .ok (.lsub, 1) := by decide +kernel
theorem dX8_leave_118 : decode cX8_leave 118 = .ok (.ladd, 1) := by decide +kernel
theorem dX8_leave_119 : decode cX8_leave 119 = .ok (.lastore, 1) := by decide +kernel
theorem dX8_leave_120 : decode cX8_leave 120 = .ok (.aload_n 0, 1) := by decide +kernel
theorem dX8_leave_121 : decode cX8_leave 121 = .ok (.getfield 7, 3) := by decide +kernel
theorem dX8_leave_124 : decode cX8_leave 124 = .ok (.bipush 43, 2) := by decide +kernel
theorem dX8_leave_126 : decode cX8_leave 126 = .ok (.iload_n 2, 1) := by decide +kernel
theorem dX8_leave_127 : decode cX8_leave 127 = .ok (.iadd, 1) := by decide +kernel
theorem dX8_leave_128 : decode cX8_leave 128 = .ok (.dup2, 1) := by decide +kernel
theorem dX8_leave_129 : decode cX8_leave 129 = .ok (.laload, 1) := by decide +kernel
theorem dX8_leave_130 : decode cX8_leave 130 = .ok (.aload_n 0, 1) := by decide +kernel
theorem dX8_leave_131 : decode cX8_leave 131 = .ok (.getfield 7, 3) := by decide +kernel
theorem dX8_leave_134 : decode cX8_leave 134 = .ok (.bipush 43, 2) := by decide +kernel
theorem dX8_leave_136 : decode cX8_leave 136 = .ok (.iload_n 1, 1) := by decide +kernel
theorem dX8_leave_137 : decode cX8_leave 137 = .ok (.iadd, 1) := by decide +kernel
theorem dX8_leave_138 : decode cX8_leave 138 = .ok (.laload, 1) := by decide +kernel
theorem dX8_leave_139 : decode cX8_leave 139 = .ok (.ldc2_w 69, 3) := by decide +kernel
theorem dX8_leave_142 : decode cX8_leave 142 = .ok (.lsub, 1) := by decide +kernel
theorem dX8_leave_143 : decode cX8_leave 143 = .ok (.ladd, 1) := by decide +kernel
theorem dX8_leave_144 : decode cX8_leave 144 = .ok (.lastore, 1) := by decide +kernel
theorem dX8_leave_145 : decode cX8_leave 145 = .ok (.iconst 0, 1) := by decide +kernel
theorem dX8_leave_146 : decode cX8_leave 146 = .ok (.istore 4, 2) := by decide +kernel
theorem dX8_leave_148 : decode cX8_leave 148 = .ok (.iload 4, 2) := by decide +kernel
theorem dX8_leave_150 : decode cX8_leave 150 = .ok (.bipush 10, 2) := by decide +kernel
theorem dX8_leave_152 : decode cX8_leave 152 = .ok (.if_icmp .ge 161, 3) := by decide +kernel
theorem dX8_leave_155 : decode cX8_leave 155 = .ok (.iload 4, 2) := by decide +kernel
theorem dX8_leave_157 : decode cX8_leave 157 = .ok (.iload_n 1, 1) := by decide +kernel
theorem dX8_leave_158 : decode cX8_leave 158 = .ok (.if_icmp .eq 149, 3) := by decide +kernel
theorem dX8_leave_161 : decode cX8_leave 161 = .ok (.iload 4, 2) := by decide +kernel
theorem dX8_leave_163 : decode cX8_leave 163 = .ok (.iload_n 2, 1) := by decide +kernel
theorem dX8_leave_164 : decode cX8_leave 164 = .ok (.if_icmp .eq 143, 3) := by decide +kernel
theorem dX8_leave_167 : decode cX8_leave 167 = .ok (.aload_n 0, 1) := by decide +kernel
theorem dX8_leave_168 : decode cX8_leave 168 = .ok (.getfield 7, 3) := by decide +kernel
theorem dX8_leave_171 : decode cX8_leave 171 = .ok (.sipush 213, 3) := by decide +kernel
theorem dX8_leave_174 : decode cX8_leave 174 = .ok (.bipush 10, 2) := by decide +kernel
theorem dX8_leave_176 : decode cX8_leave 176 = .ok (.iload 4, 2) := by decide +kernel
theorem dX8_leave_178 : decode cX8_leave 178 = .ok (.imul, 1) := by decide +kernel
theorem dX8_leave_179 : decode cX8_leave 179 = .ok (.iadd, 1) := by decide +kernel
theorem dX8_leave_180 : decode cX8_leave 180 = .ok (.iload_n 2, 1) := by decide +kernel
theorem dX8_leave_181 : decode cX8_leave 181 = .ok (.iadd, 1) := by decide +kernel
theorem dX8_leave_182 : decode cX8_leave 182 = .ok (.dup2, 1) := by decide +kernel
theorem dX8_leave_183 : decode cX8_leave 183 = .ok (.laload, 1) := by decide +kernel
theorem dX8_leave_184 : decode cX8_leave 184 = .ok (.aload_n 0, 1) := by decide +kernel
theorem dX8_leave_185 : decode cX8_leave 185 = .ok (.getfield 7, 3) := by decide +kernel
theorem dX8_leave_188 : decode cX8_leave 188 = .ok (.sipush 213, 3) := by decide +kernel
theorem dX8_leave_191 : decode cX8_leave 191 = .ok (.bipush 10, 2) := by decide +kernel
theorem dX8_leave_193 : decode cX8_leave 193 = .ok (.iload 4, 2) := by decide +kernel
theorem dX8_leave_195 : decode cX8_leave 195 = .ok (.imul, 1) := by decide +kernel
theorem dX8_leave_196 : decode cX8_leave 196 = .ok (.iadd, 1) := by decide +kernel
theorem dX8_leave_197 : decode cX8_leave 197 = .ok (.iload_n 1, 1) := by decide +kernel
theorem dX8_leave_198 : decode cX8_leave 198 = .ok (.iadd, 1) := by decide +kernel
theorem dX8_leave_199 : decode cX8_leave 199 = .ok (.laload, 1) := by decide +kernel
theorem dX8_leave_200 : decode cX8_leave 200 = .ok (.ladd, 1) := by decide +kernel
theorem dX8_leave_201 : decode cX8_leave 201 = .ok (.lastore, 1) := by decide +kernel
theorem dX8_leave_202 : decode cX8_leave 202 = .ok (.aload_n 0, 1) := by decide +kernel
theorem dX8_leave_203 : decode cX8_leave 203 = .ok (.getfield 7, 3) := by decide +kernel
theorem dX8_leave_206 : decode cX8_leave 206 = .ok (.sipush 313, 3) := by decide +kernel
theorem dX8_leave_209 : decode cX8_leave 209 = .ok (.bipush 10, 2) := by decide +kernel
theorem dX8_leave_211 : decode cX8_leave 211 = .ok (.iload 4, 2) := by decide +kernel
theorem dX8_leave_213 : decode cX8_leave 213 = .ok (.imul, 1) := by decide +kernel
theorem dX8_leave_214 : decode cX8_leave 214 = .ok (.iadd, 1) := by decide +kernel
theorem dX8_leave_215 : decode cX8_leave 215 = .ok (.iload_n 2, 1) := by decide +kernel
theorem dX8_leave_216 : decode cX8_leave 216 = .ok (.iadd, 1) := by decide +kernel
theorem dX8_leave_217 : decode cX8_leave 217 = .ok (.dup2, 1) := by decide +kernel
theorem dX8_leave_218 : decode cX8_leave 218 = .ok (.laload, 1) := by decide +kernel
theorem dX8_leave_219 : decode cX8_leave 219 = .ok (.aload_n 0, 1) := by decide +kernel
theorem dX8_leave_220 : decode cX8_leave 220 = .ok (.getfield 7, 3) := by decide +kernel
theorem dX8_leave_223 : decode cX8_leave 223 = .ok (.sipush 313, 3) := by decide +kernel
theorem dX8_leave_226 : decode cX8_leave 226 = .ok (.bipush 10, 2) := by decide +kernel
theorem dX8_leave_228 : decode cX8_leave 228 = .ok (.iload 4, 2) := by decide +kernel
theorem dX8_leave_230 : decode cX8_leave 230 = .ok (.imul, 1) := by decide +kernel
theorem dX8_leave_231 : decode cX8_leave 231 = .ok (.iadd, 1) := by decide +kernel
theorem dX8_leave_232 : decode cX8_leave 232 = .ok (.iload_n 1, 1) := by decide +kernel
theorem dX8_leave_233 : decode cX8_leave 233 = .ok (.iadd, 1) := by decide +kernel
theorem dX8_leave_234 : decode cX8_leave 234 = .ok (.laload, 1) := by decide +kernel
theorem dX8_leave_235 : decode cX8_leave 235 = .ok (.ladd, 1) := by decide +kernel
theorem dX8_leave_236 : decode cX8_leave 236 = .ok (.lastore, 1) := by decide +kernel
theorem dX8_leave_237 : decode cX8_leave 237 = .ok (.aload_n 0, 1) := by decide +kernel
theorem dX8_leave_238 : decode cX8_leave 238 = .ok (.getfield 7, 3) := by decide +kernel
theorem dX8_leave_241 : decode cX8_leave 241 = .ok (.sipush 213, 3) := by decide +kernel
theorem dX8_leave_244 : decode cX8_leave 244 = .ok (.bipush 10, 2) := by decide +kernel
theorem dX8_leave_246 : decode cX8_leave 246 = .ok (.iload_n 2, 1) := by decide +kernel
theorem dX8_leave_247 : decode cX8_leave 247 = .ok (.imul, 1) := by decide +kernel
theorem dX8_leave_248 : decode cX8_leave 248 = .ok (.iadd, 1) := by decide +kernel
theorem dX8_leave_249 : decode cX8_leave 249 = .ok (.iload 4, 2) := by decide +kernel
theorem dX8_leave_251 : decode cX8_leave 251 = .ok (.iadd, 1) := by decide +kernel
theorem dX8_leave_252 : decode cX8_leave 252 = .ok (.dup2, 1) := by decide +kernel
theorem dX8_leave_253 : decode cX8_leave 253 = .ok (.laload, 1) := by decide +kernel
theorem dX8_leave_254 : decode cX8_leave 254 = .ok (.aload_n 0, 1) := by decide +kernel
theorem dX8_leave_255 : decode cX8_leave 255 = .ok (.getfield 7, 3) := by decide +kernel
theorem dX8_leave_258 : decode cX8_leave 258 = .ok (.sipush 213, 3) := by decide +kernel
theorem dX8_leave_261 : decode cX8_leave 261 = .ok (.bipush 10, 2) := by decide +kernel
theorem dX8_leave_263 : decode cX8_leave 263 = .ok (.iload_n 1, 1) := by decide +kernel
theorem dX8_leave_264 : decode cX8_leave 264 = .ok (.imul, 1) := by decide +kernel
theorem dX8_leave_265 : decode cX8_leave 265 = .ok (.iadd, 1) := by decide +kernel
theorem dX8_leave_266 : decode cX8_leave 266 = .ok (.iload 4, 2) := by decide +kernel
theorem dX8_leave_268 : decode cX8_leave 268 = .ok (.iadd, 1) := by decide +kernel
theorem dX8_leave_269 : decode cX8_leave 269 = .ok (.laload, 1) := by decide +kernel
theorem dX8_leave_270 : decode cX8_leave 270 = .ok (.ladd, 1) := by decide +kernel
theorem dX8_leave_271 : decode cX8_leave 271 = .ok (.lastore, 1) := by decide +kernel
theorem dX8_leave_272 : decode cX8_leave 272 = .ok (.aload_n 0, 1) := by decide +kernel
theorem dX8_leave_273 : decode cX8_leave 273 = .ok (.getfield 7, 3) := by decide +kernel
theorem dX8_leave_276 : decode cX8_leave 276 = .ok (.sipush 313, 3) := by decide +kernel
theorem dX8_leave_279 : decode cX8_leave 279 = .ok (.bipush 10, 2) := by decide +kernel
theorem dX8_leave_281 : decode cX8_leave 281 = .ok (.iload_n 2, 1) := by decide +kernel
theorem dX8_leave_282 : decode cX8_leave 282 = .ok (.imul, 1) := by decide +kernel
theorem dX8_leave_283 : decode cX8_leave 283 = .ok (.iadd, 1) := by decide +kernel
theorem dX8_leave_284 : decode cX8_leave 284 = .ok (.iload 4, 2) := by decide +kernel
theorem dX8_leave_286 : decode cX8_leave 286 = .ok (.iadd, 1) := by decide +kernel
theorem dX8_leave_287 : decode cX8_leave 287 = .ok (.dup2, 1) := by decide +kernel
theorem dX8_leave_288 : decode cX8_leave 288 = .ok (.laload, 1) := by decide +kernel
theorem dX8_leave_289 : decode cX8_leave 289 = .ok (.aload_n 0, 1) := by decide +kernel
theorem dX8_leave_290 : decode cX8_leave 290 = .ok (.getfield 7, 3) := by decide +kernel
theorem dX8_leave_293 : decode cX8_leave 293 = .ok (.sipush 313, 3) := by decide +kernel
theorem dX8_leave_296 : decode cX8_leave 296 = .ok (.bipush 10, 2) := by decide +kernel
theorem dX8_leave_298 : decode cX8_leave 298 = .ok (.iload_n 1, 1) := by decide +kernel
theorem dX8_leave_299 : decode cX8_leave 299 = .ok (.imul, 1) := by decide +kernel
theorem dX8_leave_300 : decode cX8_leave 300 = .ok (.iadd, 1) := by decide +kernel
theorem dX8_leave_301 : decode cX8_leave 301 = .ok (.iload 4, 2) := by decide +kernel
theorem dX8_leave_303 : decode cX8_leave 303 = .ok (.iadd, 1) := by decide +kernel
theorem dX8_leave_304 : decode cX8_leave 304 = .ok (.laload, 1) := by decide +kernel
theorem dX8_leave_305 : decode cX8_leave 305 = .ok (.ladd, 1) := by decide +kernel
theorem dX8_leave_306 : decode cX8_leave 306 = .ok (.lastore, 1) := by decide +kernel
theorem dX8_leave_307 : decode cX8_leave 307 = .ok (.iinc 4 1, 3) := by decide +kernel
theorem dX8_leave_310 : decode cX8_leave 310 = .ok (.goto (-162), 3) := by decide +kernel
theorem dX8_leave_313 : decode cX8_leave 313 = .ok (.aload_n 0, 1) := by decide +kernel
theorem dX8_leave_314 : decode cX8_leave 314 = .ok (.sipush 413, 3) := by decide +kernel
theorem dX8_leave_317 : decode cX8_leave 317 = .ok (.iload_n 1, 1) := by decide +kernel
theorem dX8_leave_318 : decode cX8_leave 318 = .ok (.iload_n 2, 1) := by decide +kernel
theorem dX8_leave_319 : decode cX8_leave 319 = .ok (.invokevirtual 110, 3) := by decide +kernel
theorem dX8_leave_322 : decode cX8_leave 322 = .ok (.aload_n 0, 1) := by decide +kernel
theorem dX8_leave_323 : decode cX8_leave 323 = .ok (.sipush 513, 3) := by decide +kernel
theorem dX8_leave_326 : decode cX8_leave 326 = .ok (.iload_n 1, 1) := by decide +kernel
theorem dX8_leave_327 : decode cX8_leave 327 = .ok (.iload_n 2, 1) := by decide +kernel
theorem dX8_leave_328 : decode cX8_leave 328 = .ok (.invokevirtual 110, 3) := by decide +kernel
theorem dX8_leave_331 : decode cX8_leave 331 = .ok (.aload_n 0, 1) := by decide +kernel
theorem dX8_leave_332 : decode cX8_leave 332 = .ok (.iload_n 1, 1) := by decide +kernel
theorem dX8_leave_333 : decode cX8_leave 333 = .ok (.invokevirtual 107, 3) := by decide +kernel
theorem dX8_leave_336 : decode cX8_leave 336 = .ok (.iconst 1, 1) := by decide +kernel
theorem dX8_leave_337 : decode cX8_leave 337 = .ok (.ireturn, 1) := by decide +kernel
theorem dX8_even_0 : decode cX8_even 0 = .ok (.aload_n 0, 1) := by decide +kernel
theorem dX8_even_1 : decode cX8_even 1 = .ok (.getfield 7, 3) := by decide +kernel
theorem dX8_even_4 : decode cX8_even 4 = .ok (.bipush 33, 2) := by decide +kernel
theorem dX8_even_6 : decode cX8_even 6 = .ok (.iload_n 1, 1) := by decide +kernel
theorem dX8_even_7 : decode cX8_even 7 = .ok (.iadd, 1) := by decide +kernel
theorem dX8_even_8 : decode cX8_even 8 = .ok (.laload, 1) := by decide +kernel
theorem dX8_even_9 : decode cX8_even 9 = .ok (.aload_n 0, 1) := by decide +kernel
theorem dX8_even_10 : decode cX8_even 10 = .ok (.getfield 7, 3) := by decide +kernel
theorem dX8_even_13 : decode cX8_even 13 = .ok (.bipush 33, 2) := by decide +kernel
theorem dX8_even_15 : decode cX8_even 15 = .ok (.iload_n 2, 1) := by decide +kernel
theorem dX8_even_16 : decode cX8_even 16 = .ok (.iadd, 1) := by decide +kernel
theorem dX8_even_17 : decode cX8_even 17 = .ok (.laload, 1) := by decide +kernel
theorem dX8_even_18 : decode cX8_even 18 = .ok (.ladd, 1) := by decide +kernel
theorem dX8_even_19 : decode cX8_even 19 = .ok (.lstore_n 3, 1) := by decide +kernel
theorem dX8_even_20 : decode cX8_even 20 = .ok (.aload_n 0, 1) := by decide +kernel
theorem dX8_even_21 : decode cX8_even 21 = .ok (.getfield 7, 3) := by decide +kernel
theorem dX8_even_24 : decode cX8_even 24 = .ok (.bipush 43, 2) := by decide +kernel
theorem dX8_even_26 : decode cX8_even 26 = .ok (.iload_n 1, 1) := by decide +kernel
theorem dX8_even_27 : decode cX8_even 27 = .ok (.iadd, 1) := by decide +kernel
theorem dX8_even_28 : decode cX8_even 28 = .ok (.laload, 1) := by decide +kernel
theorem dX8_even_29 : decode cX8_even 29 = .ok (.aload_n 0, 1) := by decide +kernel
theorem dX8_even_30 : decode cX8_even 30 = .ok (.getfield 7, 3) := by decide +kernel
theorem dX8_even_33 : decode cX8_even 33 = .ok (.bipush 43, 2) := by decide +kernel
theorem dX8_even_35 : decode cX8_even 35 = .ok (.iload_n 2, 1) := by decide +kernel
theorem dX8_even_36 : decode cX8_even 36 = .ok (.iadd, 1) := by decide +kernel
theorem dX8_even_37 : decode cX8_even 37 = .ok (.laload, 1) := by decide +kernel
theorem dX8_even_38 : decode cX8_even 38 = .ok (.ladd, 1) := by decide +kernel
theorem dX8_even_39 : decode cX8_even 39 = .ok (.lstore 5, 2) := by decide +kernel
theorem dX8_even_41 : decode cX8_even 41 = .ok (.lload_n 3, 1) := by decide +kernel
theorem dX8_even_42 : decode cX8_even 42 = .ok (.iconst 1, 1) := by decide +kernel
theorem dX8_even_43 : decode cX8_even 43 = .ok (.lshr, 1) := by decide +kernel
theorem dX8_even_44 : decode cX8_even 44 = .ok (.lstore 7, 2) := by decide +kernel
theorem dX8_even_46 : decode cX8_even 46 = .ok (.lload 5, 2) := by decide +kernel
theorem dX8_even_48 : decode cX8_even 48 = .ok (.iconst 1, 1) := by decide +kernel
theorem dX8_even_49 : decode cX8_even 49 = .ok (.lshr, 1) := by decide +kernel
theorem dX8_even_50 : decode cX8_even 50 = .ok (.lstore 9, 2) := by decide +kernel
theorem dX8_even_52 : decode cX8_even 52 = .ok (.aload_n 0, 1) := by decide +kernel
theorem dX8_even_53 : decode cX8_even 53 = .ok (.getfield 7, 3) := by decide +kernel
theorem dX8_even_56 : decode cX8_even 56 = .ok (.sipush 213, 3) := by decide +kernel
theorem dX8_even_59 : decode cX8_even 59 = .ok (.bipush 10, 2) := by decide +kernel
theorem dX8_even_61 : decode cX8_even 61 = .ok (.iload_n 1, 1) := by decide +kernel
theorem dX8_even_62 : decode cX8_even 62 = .ok (.imul, 1) := by decide +kernel
theorem dX8_even_63 : decode cX8_even 63 = .ok (.iadd, 1) := by decide +kernel
theorem dX8_even_64 : decode cX8_even 64 = .ok (.iload_n 2, 1) := by decide +kernel
theorem dX8_even_65 : decode cX8_even 65 = .ok (.iadd, 1) := by decide +kernel
theorem dX8_even_66 : decode cX8_even 66 = .ok (.dup2, 1) := by decide +kernel
theorem dX8_even_67 : decode cX8_even 67 = .ok (.laload, 1) := by decide +kernel
theorem dX8_even_68 : decode cX8_even 68 = .ok (.lload 7, 2) := by decide +kernel
theorem dX8_even_70 : decode cX8_even 70 = .ok (.aload_n 0, 1) := by decide +kernel
theorem dX8_even_71 : decode cX8_even 71 = .ok (.getfield 7, 3) := by decide +kernel
theorem dX8_even_74 : decode cX8_even 74 = .ok (.bipush 33, 2) := by decide +kernel
theorem dX8_even_76 : decode cX8_even 76 = .ok (.iload_n 2, 1) := by decide +kernel
theorem dX8_even_77 : decode cX8_even 77 = .ok (.iadd, 1) := by decide +kernel
theorem dX8_even_78 : decode cX8_even 78 = .ok (.laload, 1) := by decide +kernel
theorem dX8_even_79 : decode cX8_even 79 = .ok (.lsub, 1) := by decide +kernel
theorem dX8_even_80 : decode cX8_even 80 = .ok (.ladd, 1) := by decide +kernel
theorem dX8_even_81 : decode cX8_even 81 = .ok (.lastore, 1) := by decide +kernel
theorem dX8_even_82 : decode cX8_even 82 = .ok (.aload_n 0, 1) := by decide +kernel
theorem dX8_even_83 : decode cX8_even 83 = .ok (.getfield 7, 3) := by decide +kernel
theorem dX8_even_86 : decode cX8_even 86 = .ok (.sipush 313, 3) := by decide +kernel
theorem dX8_even_89 : decode cX8_even 89 = .ok (.bipush 10, 2) := by decide +kernel
theorem dX8_even_91 : decode cX8_even 91 = .ok (.iload_n 1, 1) := by decide +kernel
theorem dX8_even_92 : decode cX8_even 92 = .ok (.imul, 1) := by decide +kernel
theorem dX8_even_93 : decode cX8_even 93 = .ok (.iadd, 1) := by decide +kernel
theorem dX8_even_94 : decode cX8_even 94 = .ok (.iload_n 2, 1) := by decide +kernel
theorem dX8_even_95 : decode cX8_even 95 = .ok (.iadd, 1) := by decide +kernel
theorem dX8_even_96 : decode cX8_even 96 = .ok (.dup2, 1) := by decide +kernel
theorem dX8_even_97 : decode cX8_even 97 = .ok (.laload, 1) := by decide +kernel
theorem dX8_even_98 : decode cX8_even 98 = .ok (.lload 9, 2) := by decide +kernel
theorem dX8_even_100 : decode cX8_even 100 = .ok (.aload_n 0, 1) := by decide +kernel
theorem dX8_even_101 : decode cX8_even 101 = .ok (.getfield 7, 3) := by decide +kernel
theorem dX8_even_104 : decode cX8_even 104 = .ok (.bipush 43, 2) := by decide +kernel
theorem dX8_even_106 : decode cX8_even 106 = .ok (.iload_n 2, 1) := by decide +kernel
theorem dX8_even_107 : decode cX8_even 107 = .ok (.iadd, 1) := by decide +kernel
theorem dX8_even_108 : decode cX8_even 108 = .ok (.laload, 1) := by decide +kernel
theorem dX8_even_109 : decode cX8_even 109 = .ok (.lsub, 1) := by decide +kernel
theorem dX8_even_110 : decode cX8_even 110 = .ok (.ladd, 1) := by decide +kernel
theorem dX8_even_111 : decode cX8_even 111 = .ok (.lastore, 1) := by decide +kernel
theorem dX8_even_112 : decode cX8_even 112 = .ok (.aload_n 0, 1) := by decide +kernel
theorem dX8_even_113 : decode cX8_even 113 = .ok (.getfield 7, 3) := by decide +kernel
theorem dX8_even_116 : decode cX8_even 116 = .ok (.sipush 213, 3) := by decide +kernel
theorem dX8_even_119 : decode cX8_even 119 = .ok (.bipush 10, 2) := by decide +kernel
theorem dX8_even_121 : decode cX8_even 121 = .ok (.iload_n 2, 1) := by decide +kernel
theorem dX8_even_122 : decode cX8_even 122 = .ok (.imul, 1) := by decide +kernel
theorem dX8_even_123 : decode cX8_even 123 = .ok (.iadd, 1) := by decide +kernel
theorem dX8_even_124 : decode cX8_even 124 = .ok (.iload_n 1, 1) := by decide +kernel
theorem dX8_even_125 : decode cX8_even 125 = .ok (.iadd, 1) := by decide +kernel
theorem dX8_even_126 : decode cX8_even 126 = .ok (.dup2, 1) := by decide +kernel
theorem dX8_even_127 : decode cX8_even 127 = .ok (.laload, 1) := by decide +kernel
theorem dX8_even_128 : decode cX8_even 128 = .ok (.lload_n 3, 1) := by decide +kernel
theorem dX8_even_129 : decode cX8_even 129 = .ok (.lload 7, 2) := by decide +kernel
theorem dX8_even_131 : decode cX8_even 131 = .ok (.lsub, 1) := by decide +kernel
theorem dX8_even_132 : decode cX8_even 132 = .ok (.aload_n 0, 1) := by decide +kernel
theorem dX8_even_133 : decode cX8_even 133 = .ok (.getfield 7, 3) := by decide +kernel
theorem dX8_even_136 : decode cX8_even 136 = .ok (.bipush 33, 2) := by decide +kernel
theorem dX8_even_138 : decode cX8_even 138 = .ok (.iload_n 1, 1) := by decide +kernel
theorem dX8_even_139 : decode cX8_even 139 = .ok (.iadd, 1) := by decide +kernel
theorem dX8_even_140 : decode cX8_even 140 = .ok (.laload, 1) := by decide +kernel
theorem dX8_even_141 : decode cX8_even 141 = .ok (.lsub, 1) := by decide +kernel
theorem dX8_even_142 : decode cX8_even 142 = .ok (.ladd, 1) := by decide +kernel
theorem dX8_even_143 : decode cX8_even 143 = .ok (.lastore, 1) := by decide +kernel
theorem dX8_even_144 : decode cX8_even 144 = .ok (.aload_n 0, 1) := by decide +kernel
theorem dX8_even_145 : decode cX8_even 145 = .ok (.getfield 7, 3) := by decide +kernel
theorem dX8_even_148 : decode cX8_even 148 = .ok (.sipush 313, 3) := by decide +kernel
theorem dX8_even_151 : decode cX8_even 151 = .ok (.bipush 10, 2) := by decide +kernel
theorem dX8_even_153 : decode cX8_even 153 = .ok (.iload_n 2, 1) := by decide +kernel
theorem dX8_even_154 : decode cX8_even 154 = .ok (.imul, 1) := by decide +kernel
theorem dX8_even_155 : decode cX8_even 155 = .ok (.iadd, 1) := by decide +kernel
theorem dX8_even_156 : decode cX8_even 156 = .ok (.iload_n 1, 1) := by decide +kernel
theorem dX8_even_157 : decode cX8_even 157 = .ok (.iadd, 1) := by decide +kernel
theorem dX8_even_158 : decode cX8_even 158 = .ok (.dup2, 1) := by decide +kernel
theorem dX8_even_159 : decode cX8_even 159 = .ok (.laload, 1) := by decide +kernel
theorem dX8_even_160 : decode cX8_even 160 = .ok (.lload 5, 2) := by decide +kernel
theorem dX8_even_162 : decode cX8_even 162 = .ok (.lload 9, 2) := by decide +kernel
theorem dX8_even_164 : decode cX8_even 164 = .ok (.lsub, 1) := by decide +kernel
theorem dX8_even_165 : decode cX8_even 165 = .ok (.aload_n 0, 1) := by decide +kernel
theorem dX8_even_166 : decode cX8_even 166 = .ok (.getfield 7, 3) := by decide +kernel
theorem dX8_even_169 : decode cX8_even 169 = .ok (.bipush 43, 2) := by decide +kernel
theorem dX8_even_171 : decode cX8_even 171 = .ok (.iload_n 1, 1) := by decide +kernel
theorem dX8_even_172 : decode cX8_even 172 = .ok (.iadd, 1) := by decide +kernel
theorem dX8_even_173 : decode cX8_even 173 = .ok (.laload, 1) := by decide +kernel
theorem dX8_even_174 : decode cX8_even 174 = .ok (.lsub, 1) := by decide +kernel
theorem dX8_even_175 : decode cX8_even 175 = .ok (.ladd, 1) := by decide +kernel
theorem dX8_even_176 : decode cX8_even 176 = .ok (.lastore, 1) := by decide +kernel
theorem dX8_even_177 : decode cX8_even 177 = .ok (.aload_n 0, 1) := by decide +kernel
theorem dX8_even_178 : decode cX8_even 178 = .ok (.getfield 7, 3) := by decide +kernel
theorem dX8_even_181 : decode cX8_even 181 = .ok (.bipush 33, 2) := by decide +kernel
theorem dX8_even_183 : decode cX8_even 183 = .ok (.iload_n 1, 1) := by decide +kernel
theorem dX8_even_184 : decode cX8_even 184 = .ok (.iadd, 1) := by decide +kernel
theorem dX8_even_185 : decode cX8_even 185 = .ok (.lload_n 3, 1) := by decide +kernel
theorem dX8_even_186 : decode cX8_even 186 = .ok (.lload 7, 2) := by decide +kernel
theorem dX8_even_188 : decode cX8_even 188 = .ok (.lsub, 1) := by decide +kernel
theorem dX8_even_189 : decode cX8_even 189 = .ok (.lastore, 1) := by decide +kernel
theorem dX8_even_190 : decode cX8_even 190 = .ok (.aload_n 0, 1) := by decide +kernel
theorem dX8_even_191 : decode cX8_even 191 = .ok (.getfield 7, 3) := by decide +kernel
theorem dX8_even_194 : decode cX8_even 194 = .ok (.bipush 33, 2) := by decide +kernel
theorem dX8_even_196 : decode cX8_even 196 = .ok (.iload_n 2, 1) := by decide +kernel
theorem dX8_even_197 : decode cX8_even 197 = .ok (.iadd, 1) := by decide +kernel
theorem dX8_even_198 : decode cX8_even 198 = .ok (.lload 7, 2) := by decide +kernel
theorem dX8_even_200 : decode cX8_even 200 = .ok (.lastore, 1) := by decide +kernel
theorem dX8_even_201 : decode cX8_even 201 = .ok (.aload_n 0, 1) := by decide +kernel
theorem dX8_even_202 : decode cX8_even 202 = .ok (.getfield 7, 3) := by decide +kernel
theorem dX8_even_205 : decode cX8_even 205 = .ok (.bipush 43, 2) := by decide +kernel
theorem dX8_even_207 : decode cX8_even 207 = .ok (.iload_n 1, 1) := by decide +kernel
theorem dX8_even_208 : decode cX8_even 208 = .ok (.iadd, 1) := by decide +kernel
theorem dX8_even_209 : decode cX8_even 209 = .ok (.lload 5, 2) := by decide +kernel
theorem dX8_even_211 : decode cX8_even 211 = .ok (.lload 9, 2) := by decide +kernel
theorem dX8_even_213 : decode cX8_even 213 = .ok (.lsub, 1) := by decide +kernel
theorem dX8_even_214 : decode cX8_even 214 = .ok (.lastore, 1) := by decide +kernel
theorem dX8_even_215 : decode cX8_even 215 = .ok (.aload_n 0, 1) := by decide +kernel
theorem dX8_even_216 : decode cX8_even 216 = .ok (.getfield 7, 3) := by decide +kernel
theorem dX8_even_219 : decode cX8_even 219 = .ok (.bipush 43, 2) := by decide +kernel
theorem dX8_even_221 : decode cX8_even 221 = .ok (.iload_n 2, 1) := by decide +kernel
theorem dX8_even_222 : decode cX8_even 222 = .ok (.iadd, 1) := by decide +kernel
theorem dX8_even_223 : decode cX8_even 223 = .ok (.lload 9, 2) := by decide +kernel
theorem dX8_even_225 : decode cX8_even 225 = .ok (.lastore, 1) := by decide +kernel
theorem dX8_even_226 : decode cX8_even 226 = .ok (.return_, 1) := by decide +kernel
