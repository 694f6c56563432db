theorem dX8_great_0 : decode cX8_great 0 = .ok (.aload_n 0, 1) := by decide +kernel
theorem dX8_great_1 : decode cX8_great 1 = .ok (.getfield 7, 3) := by decide +kernel
theorem dX8_great_4 : decode cX8_great 4 = .ok (.bipush 53, 2) := by decide +kernel
theorem dX8_great_6 : decode cX8_great 6 = .ok (.iload_n 1, 1) := by decide +kernel
theorem dX8_great_7 : decode cX8_great 7 = .ok (.iadd, 1) := by decide +kernel
theorem dX8_great_8 : decode cX8_great 8 = .ok (.laload, 1) := by decide +kernel
theorem dX8_great_9 : decode cX8_great 9 = .ok (.aload_n 0, 1) := by decide +kernel
theorem dX8_great_10 : decode cX8_great 10 = .ok (.getfield 7, 3) := by decide +kernel
theorem dX8_great_13 : decode cX8_great 13 = .ok (.bipush 53, 2) := by decide +kernel
theorem dX8_great_15 : decode cX8_great 15 = .ok (.iload_n 2, 1) := by decide +kernel
theorem dX8_great_16 : decode cX8_great 16 = .ok (.iadd, 1) := by decide +kernel
theorem dX8_great_17 : decode cX8_great 17 = .ok (.laload, 1) := by decide +kernel
theorem dX8_great_18 : decode cX8_great 18 = .ok (.lcmp, 1) := by decide +kernel
theorem dX8_great_19 : decode cX8_great 19 = .ok (.ifCond .le 15, 3) := by decide +kernel
theorem dX8_great_22 : decode cX8_great 22 = .ok (.aload_n 0, 1) := by decide +kernel
theorem dX8_great_23 : decode cX8_great 23 = .ok (.getfield 7, 3) := by decide +kernel
theorem dX8_great_26 : decode cX8_great 26 = .ok (.bipush 53, 2) := by decide +kernel
theorem dX8_great_28 : decode cX8_great 28 = .ok (.iload_n 1, 1) := by decide +kernel
theorem dX8_great_29 : decode cX8_great 29 = .ok (.iadd, 1) := by decide +kernel
theorem dX8_great_30 : decode cX8_great 30 = .ok (.laload, 1) := by decide +kernel
theorem dX8_great_31 : decode cX8_great 31 = .ok (.goto 12, 3) := by decide +kernel
theorem dX8_great_34 : decode cX8_great 34 = .ok (.aload_n 0, 1) := by decide +kernel
theorem dX8_great_35 : decode cX8_great 35 = .ok (.getfield 7, 3) := by decide +kernel
theorem dX8_great_38 : decode cX8_great 38 = .ok (.bipush 53, 2) := by decide +kernel
theorem dX8_great_40 : decode cX8_great 40 = .ok (.iload_n 2, 1) := by decide +kernel
theorem dX8_great_41 : decode cX8_great 41 = .ok (.iadd, 1) := by decide +kernel
theorem dX8_great_42 : decode cX8_great 42 = .ok (.laload, 1) := by decide +kernel
theorem dX8_great_43 : decode cX8_great 43 = .ok (.lstore_n 3, 1) := by decide +kernel
theorem dX8_great_44 : decode cX8_great 44 = .ok (.aload_n 0, 1) := by decide +kernel
theorem dX8_great_45 : decode cX8_great 45 = .ok (.getfield 7, 3) := by decide +kernel
theorem dX8_great_48 : decode cX8_great 48 = .ok (.bipush 63, 2) := by decide +kernel
theorem dX8_great_50 : decode cX8_great 50 = .ok (.iload_n 1, 1) := by decide +kernel
theorem dX8_great_51 : decode cX8_great 51 = .ok (.iadd, 1) := by decide +kernel
theorem dX8_great_52 : decode cX8_great 52 = .ok (.laload, 1) := by decide +kernel
theorem dX8_great_53 : decode cX8_great 53 = .ok (.aload_n 0, 1) := by decide +kernel
theorem dX8_great_54 : decode cX8_great 54 = .ok (.getfield 7, 3) := by decide +kernel
theorem dX8_great_57 : decode cX8_great 57 = .ok (.bipush 63, 2) := by decide +kernel
theorem dX8_great_59 : decode cX8_great 59 = .ok (.iload_n 2, 1) := by decide +kernel
theorem dX8_great_60 : decode cX8_great 60 = .ok (.iadd, 1) := by decide +kernel
theorem dX8_great_61 : decode cX8_great 61 = .ok (.laload, 1) := by decide +kernel
theorem dX8_great_62 : decode cX8_great 62 = .ok (.lcmp, 1) := by decide +kernel
theorem dX8_great_63 : decode cX8_great 63 = .ok (.ifCond .ge 15, 3) := by decide +kernel
theorem dX8_great_66 : decode cX8_great 66 = .ok (.aload_n 0, 1) := by decide +kernel
theorem dX8_great_67 : decode cX8_great 67 = .ok (.getfield 7, 3) := by decide +kernel
theorem dX8_great_70 : decode cX8_great 70 = .ok (.bipush 63, 2) := by decide +kernel
theorem dX8_great_72 : decode cX8_great 72 = .ok (.iload_n 1, 1) := by decide +kernel
theorem dX8_great_73 : decode cX8_great 73 = .ok (.iadd, 1) := by decide +kernel
theorem dX8_great_74 : decode cX8_great 74 = .ok (.laload, 1) := by decide +kernel
theorem dX8_great_75 : decode cX8_great 75 = .ok (.goto 12, 3) := by decide +kernel
theorem dX8_great_78 : decode cX8_great 78 = .ok (.aload_n 0, 1) := by decide +kernel
theorem dX8_great_79 : decode cX8_great 79 = .ok (.getfield 7, 3) := by decide +kernel
theorem dX8_great_82 : decode cX8_great 82 = .ok (.bipush 63, 2) := by decide +kernel
theorem dX8_great_84 : decode cX8_great 84 = .ok (.iload_n 2, 1) := by decide +kernel
theorem dX8_great_85 : decode cX8_great 85 = .ok (.iadd, 1) := by decide +kernel
theorem dX8_great_86 : decode cX8_great 86 = .ok (.laload, 1) := by decide +kernel
theorem dX8_great_87 : decode cX8_great 87 = .ok (.lstore 5, 2) := by decide +kernel
theorem dX8_great_89 : decode cX8_great 89 = .ok (.aload_n 0, 1) := by decide +kernel
theorem dX8_great_90 : decode cX8_great 90 = .ok (.getfield 7, 3) := by decide +kernel
theorem dX8_great_93 : decode cX8_great 93 = .ok (.bipush 73, 2) := by decide +kernel
theorem dX8_great_95 : decode cX8_great 95 = .ok (.iload_n 1, 1) := by decide +kernel
theorem dX8_great_96 : decode cX8_great 96 = .ok (.iadd, 1) := by decide +kernel
theorem dX8_great_97 : decode cX8_great 97 = .ok (.laload, 1) := by decide +kernel
theorem dX8_great_98 : decode cX8_great 98 = .ok (.aload_n 0, 1) := by decide +kernel
theorem dX8_great_99 : decode cX8_great 99 = .ok (.getfield 7, 3) := by decide +kernel
theorem dX8_great_102 : decode cX8_great 102 = .ok (.bipush 73, 2) := by decide +kernel
theorem dX8_great_104 : decode cX8_great 104 = .ok (.iload_n 2, 1) := by decide +kernel
theorem dX8_great_105 : decode cX8_great 105 = .ok (.iadd, 1) := by decide +kernel
theorem dX8_great_106 : decode cX8_great 106 = .ok (.laload, 1) := by decide +kernel
theorem dX8_great_107 : decode cX8_great 107 = .ok (.lor, 1) := by decide +kernel
theorem dX8_great_108 : decode cX8_great 108 = .ok (.lstore 7, 2) := by decide +kernel
theorem dX8_great_110 : decode cX8_great 110 = .ok (.iconst 0, 1) := by decide +kernel
theorem dX8_great_111 : decode cX8_great 111 = .ok (.istore 9, 2) := by decide +kernel
theorem dX8_great_113 : decode cX8_great 113 = .ok (.iload 9, 2) := by decide +kernel
theorem dX8_great_115 : decode cX8_great 115 = .ok (.iconst 2, 1) := by decide +kernel
theorem dX8_great_116 : decode cX8_great 116 = .ok (.if_icmp .ge 56, 3) := by decide +kernel
theorem dX8_great_119 : decode cX8_great 119 = .ok (.iload 9, 2) := by decide +kernel
theorem dX8_great_121 : decode cX8_great 121 = .ok (.ifCond .ne 7, 3) := by decide +kernel
theorem dX8_great_124 : decode cX8_great 124 = .ok (.iload_n 1, 1) := by decide +kernel
theorem dX8_great_125 : decode cX8_great 125 = .ok (.goto 4, 3) := by decide +kernel
theorem dX8_great_128 : decode cX8_great 128 = .ok (.iload_n 2, 1) := by decide +kernel
theorem dX8_great_129 : decode cX8_great 129 = .ok (.istore 10, 2) := by decide +kernel
theorem dX8_great_131 : decode cX8_great 131 = .ok (.aload_n 0, 1) := by decide +kernel
theorem dX8_great_132 : decode cX8_great 132 = .ok (.getfield 7, 3) := by decide +kernel
theorem dX8_great_135 : decode cX8_great 135 = .ok (.bipush 53, 2) := by decide +kernel
theorem dX8_great_137 : decode cX8_great 137 = .ok (.iload 10, 2) := by decide +kernel
theorem dX8_great_139 : decode cX8_great 139 = .ok (.iadd, 1) := by decide +kernel
theorem dX8_great_140 : decode cX8_great 140 = .ok (.lload_n 3, 1) := by decide +kernel
theorem dX8_great_141 : decode cX8_great 141 = .ok (.lastore, 1) := by decide +kernel
theorem dX8_great_142 : decode cX8_great 142 = .ok (.aload_n 0, 1) := by decide +kernel
theorem dX8_great_143 : decode cX8_great 143 = .ok (.getfield 7, 3) := by decide +kernel
theorem dX8_great_146 : decode cX8_great 146 = .ok (.bipush 63, 2) := by decide +kernel
theorem dX8_great_148 : decode cX8_great 148 = .ok (.iload 10, 2) := by decide +kernel
theorem dX8_great_150 : decode cX8_great 150 = .ok (.iadd, 1) := by decide +kernel
theorem dX8_great_151 : decode cX8_great 151 = .ok (.lload 5, 2) := by decide +kernel
theorem dX8_great_153 : decode cX8_great 153 = .ok (.lastore, 1) := by decide +kernel
theorem dX8_great_154 : decode cX8_great 154 = .ok (.aload_n 0, 1) := by decide +kernel
theorem dX8_great_155 : decode cX8_great 155 = .ok (.getfield 7, 3) := by decide +kernel
theorem dX8_great_158 : decode cX8_great 158 = .ok (.bipush 73, 2) := by decide +kernel
theorem dX8_great_160 : decode cX8_great 160 = .ok (.iload 10, 2) := by decide +kernel
theorem dX8_great_162 : decode cX8_great 162 = .ok (.iadd, 1) := by decide +kernel
theorem dX8_great_163 : decode cX8_great 163 = .ok (.lload 7, 2) := by decide +kernel
theorem dX8_great_165 : decode cX8_great 165 = .ok (.lastore, 1) := by decide +kernel
theorem dX8_great_166 : decode cX8_great 166 = .ok (.iinc 9 1, 3) := by decide +kernel
theorem dX8_great_169 : decode cX8_great 169 = .ok (.goto (-56), 3) := by decide +kernel
theorem dX8_great_172 : decode cX8_great 172 = .ok (.return_, 1) := by decide +kernel
theorem dX8_knows_0 : decode cX8_knows 0 = .ok (.iconst 0, 1) := by decide +kernel
theorem dX8_knows_1 : decode cX8_knows 1 = .ok (.istore 4, 2) := by decide +kernel
theorem dX8_knows_3 : decode cX8_knows 3 = .ok (.iload 4, 2) := by decide +kernel
theorem dX8_knows_5 : decode cX8_knows 5 = .ok (.i2l, 1) := by decide +kernel
theorem dX8_knows_6 : decode cX8_knows 6 = .ok (.aload_n 0, 1) := by decide +kernel
theorem dX8_knows_7 : decode cX8_knows 7 = .ok (.getfield 7, 3) := by decide +kernel
theorem dX8_knows_10 : decode cX8_knows 10 = .ok (.bipush 83, 2) := by decide +kernel
theorem dX8_knows_12 : decode cX8_knows 12 = .ok (.iload_n 1, 1) := by decide +kernel
theorem dX8_knows_13 : decode cX8_knows 13 = .ok (.iadd, 1) := by decide +kernel
theorem dX8_knows_14 : decode cX8_knows 14 = .ok (.laload, 1) := by decide +kernel
theorem dX8_knows_15 : decode cX8_knows 15 = .ok (.lcmp, 1) := by decide +kernel
theorem dX8_knows_16 : decode cX8_knows 16 = .ok (.ifCond .ge 31, 3) := by decide +kernel
theorem dX8_knows_19 : decode cX8_knows 19 = .ok (.aload_n 0, 1) := by decide +kernel
theorem dX8_knows_20 : decode cX8_knows 20 = .ok (.getfield 7, 3) := by decide +kernel
theorem dX8_knows_23 : decode cX8_knows 23 = .ok (.sipush 133, 3) := by decide +kernel
theorem dX8_knows_26 : decode cX8_knows 26 = .ok (.iconst 4, 1) := by decide +kernel
theorem dX8_knows_27 : decode cX8_knows 27 = .ok (.iload_n 1, 1) := by decide +kernel
theorem dX8_knows_28 : decode cX8_knows 28 = .ok (.imul, 1) := by decide +kernel
theorem dX8_knows_29 : decode cX8_knows 29 = .ok (.iadd, 1) := by decide +kernel
theorem dX8_knows_30 : decode cX8_knows 30 = .ok (.iload 4, 2) := by decide +kernel
theorem dX8_knows_32 : decode cX8_knows 32 = .ok (.iadd, 1) := by decide +kernel
theorem dX8_knows_33 : decode cX8_knows 33 = .ok (.laload, 1) := by decide +kernel
theorem dX8_knows_34 : decode cX8_knows 34 = .ok (.lload_n 2, 1) := by decide +kernel
theorem dX8_knows_35 : decode cX8_knows 35 = .ok (.lcmp, 1) := by decide +kernel
theorem dX8_knows_36 : decode cX8_knows 36 = .ok (.ifCond .ne 5, 3) := by decide +kernel
theorem dX8_knows_39 : decode cX8_knows 39 = .ok (.iconst 1, 1) := by decide +kernel
theorem dX8_knows_40 : decode cX8_knows 40 = .ok (.ireturn, 1) := by decide +kernel
theorem dX8_knows_41 : decode cX8_knows 41 = .ok (.iinc 4 1, 3) := by decide +kernel
theorem dX8_knows_44 : decode cX8_knows 44 = .ok (.goto (-41), 3) := by decide +kernel
theorem dX8_knows_47 : decode cX8_knows 47 = .ok (.iconst 0, 1) := by decide +kernel
theorem dX8_knows_48 : decode cX8_knows 48 = .ok (.ireturn, 1) := by decide +kernel
set_option maxRecDepth 20000 in
theorem ggX8_tickets_X8_knows : GoodIn wsX8_tickets wsX8_knows := goodIn_r _ [8, 1, 9, 10, 11, 12, 13, 14, 15, 16, 17, 18, 19, 20, 21] (by decide +kernel) (by decide +kernel)
set_option maxRecDepth 20000 in
theorem gX8_tickets_X8_knows : GoodIn wsX8_tickets (wsV RX8 114 RX8 yX8_knows wsX8_knows) := goodIn_app (goodIn_of _ (by decide +kernel)) ggX8_tickets_X8_knows
theorem dX8_tickets_0 : decode cX8_tickets 0 = .ok (.iconst 0, 1) := by decide +kernel
theorem dX8_tickets_1 : decode cX8_tickets 1 = .ok (.istore_n 3, 1) := by decide +kernel
theorem dX8_tickets_2 : decode cX8_tickets 2 = .ok (.iconst 0, 1) := by decide +kernel
theorem dX8_tickets_3 : decode cX8_tickets 3 = .ok (.istore 4, 2) := by decide +kernel
theorem dX8_tickets_5 : decode cX8_tickets 5 = .ok (.iload 4, 2) := by decide +kernel
theorem dX8_tickets_7 : decode cX8_tickets 7 = .ok (.bipush 8, 2) := by decide +kernel
theorem dX8_tickets_9 : decode cX8_tickets 9 = .ok (.if_icmp .ge 224, 3) := by decide +kernel
theorem dX8_tickets_12 : decode cX8_tickets 12 = .ok (.iload 4, 2) := by decide +kernel
theorem dX8_tickets_14 : decode cX8_tickets 14 = .ok (.iconst 4, 1) := by decide +kernel
theorem dX8_tickets_15 : decode cX8_tickets 15 = .ok (.if_icmp .ge 7, 3) := by decide +kernel
theorem dX8_tickets_18 : decode cX8_tickets 18 = .ok (.iload_n 1, 1) := by decide +kernel
theorem dX8_tickets_19 : decode cX8_tickets 19 = .ok (.goto 4, 3) := by decide +kernel
theorem dX8_tickets_22 : decode cX8_tickets 22 = .ok (.iload_n 2, 1) := by decide +kernel
theorem dX8_tickets_23 : decode cX8_tickets 23 = .ok (.istore 5, 2) := by decide +kernel
theorem dX8_tickets_25 : decode cX8_tickets 25 = .ok (.iload 4, 2) := by decide +kernel
theorem dX8_tickets_27 : decode cX8_tickets 27 = .ok (.iconst 4, 1) := by decide +kernel
theorem dX8_tickets_28 : decode cX8_tickets 28 = .ok (.irem, 1) := by decide +kernel
theorem dX8_tickets_29 : decode cX8_tickets 29 = .ok (.i2l, 1) := by decide +kernel
theorem dX8_tickets_30 : decode cX8_tickets 30 = .ok (.aload_n 0, 1) := by decide +kernel
theorem dX8_tickets_31 : decode cX8_tickets 31 = .ok (.getfield 7, 3) := by decide +kernel
theorem dX8_tickets_34 : decode cX8_tickets 34 = .ok (.bipush 83, 2) := by decide +kernel
theorem dX8_tickets_36 : decode cX8_tickets 36 = .ok (.iload 5, 2) := by decide +kernel
theorem dX8_tickets_38 : decode cX8_tickets 38 = .ok (.iadd, 1) := by decide +kernel
theorem dX8_tickets_39 : decode cX8_tickets 39 = .ok (.laload, 1) := by decide +kernel
theorem dX8_tickets_40 : decode cX8_tickets 40 = .ok (.lcmp, 1) := by decide +kernel
theorem dX8_tickets_41 : decode cX8_tickets 41 = .ok (.ifCond .ge 186, 3) := by decide +kernel
theorem dX8_tickets_44 : decode cX8_tickets 44 = .ok (.iload 4, 2) := by decide +kernel
theorem dX8_tickets_46 : decode cX8_tickets 46 = .ok (.iconst 4, 1) := by decide +kernel
theorem dX8_tickets_47 : decode cX8_tickets 47 = .ok (.if_icmp .lt 29, 3) := by decide +kernel
theorem dX8_tickets_50 : decode cX8_tickets 50 = .ok (.aload_n 0, 1) := by decide +kernel
theorem dX8_tickets_51 : decode cX8_tickets 51 = .ok (.iload_n 1, 1) := by decide +kernel
theorem dX8_tickets_52 : decode cX8_tickets 52 = .ok (.aload_n 0, 1) := by decide +kernel
theorem dX8_tickets_53 : decode cX8_tickets 53 = .ok (.getfield 7, 3) := by decide +kernel
theorem dX8_tickets_56 : decode cX8_tickets 56 = .ok (.sipush 133, 3) := by decide +kernel
theorem dX8_tickets_59 : decode cX8_tickets 59 = .ok (.iconst 4, 1) := by decide +kernel
theorem dX8_tickets_60 : decode cX8_tickets 60 = .ok (.iload 5, 2) := by decide +kernel
theorem dX8_tickets_62 : decode cX8_tickets 62 = .ok (.imul, 1) := by decide +kernel
theorem dX8_tickets_63 : decode cX8_tickets 63 = .ok (.iadd, 1) := by decide +kernel
theorem dX8_tickets_64 : decode cX8_tickets 64 = .ok (.iload 4, 2) := by decide +kernel
theorem dX8_tickets_66 : decode cX8_tickets 66 = .ok (.iconst 4, 1) := by decide +kernel
theorem dX8_tickets_67 : decode cX8_tickets 67 = .ok (.irem, 1) := by decide +kernel
theorem dX8_tickets_68 : decode cX8_tickets 68 = .ok (.iadd, 1) := by decide +kernel
theorem dX8_tickets_69 : decode cX8_tickets 69 = .ok (.laload, 1) := by decide +kernel
theorem dX8_tickets_70 : decode cX8_tickets 70 = .ok (.invokevirtual 114, 3) := by decide +kernel
theorem dX8_tickets_73 : decode cX8_tickets 73 = .ok (.ifCond .ne 154, 3) := by decide +kernel
theorem dX8_tickets_76 : decode cX8_tickets 76 = .ok (.iload_n 3, 1) := by decide +kernel
theorem dX8_tickets_77 : decode cX8_tickets 77 = .ok (.istore 6, 2) := by decide +kernel
theorem dX8_tickets_79 : decode cX8_tickets 79 = .ok (.aload_n 0, 1) := by decide +kernel
theorem dX8_tickets_80 : decode cX8_tickets 80 = .ok (.getfield 7, 3) := by decide +kernel
theorem dX8_tickets_83 : decode cX8_tickets 83 = .ok (.bipush 93, 2) := by decide +kernel
theorem dX8_tickets_85 : decode cX8_tickets 85 = .ok (.iconst 4, 1) := by decide +kernel
theorem dX8_tickets_86 : decode cX8_tickets 86 = .ok (.iload 5, 2) := by decide +kernel
theorem dX8_tickets_88 : decode cX8_tickets 88 = .ok (.imul, 1) := by decide +kernel
theorem dX8_tickets_89 : decode cX8_tickets 89 = .ok (.iadd, 1) := by decide +kernel
theorem dX8_tickets_90 : decode cX8_tickets 90 = .ok (.iload 4, 2) := by decide +kernel
theorem dX8_tickets_92 : decode cX8_tickets 92 = .ok (.iconst 4, 1) := by decide +kernel
theorem dX8_tickets_93 : decode cX8_tickets 93 = .ok (.irem, 1) := by decide +kernel
theorem dX8_tickets_94 : decode cX8_tickets 94 = .ok (.iadd, 1) := by decide +kernel
theorem dX8_tickets_95 : decode cX8_tickets 95 = .ok (.laload, 1) := by decide +kernel
theorem dX8_tickets_96 : decode cX8_tickets 96 = .ok (.lstore 7, 2) := by decide +kernel
theorem dX8_tickets_98 : decode cX8_tickets 98 = .ok (.aload_n 0, 1) := by decide +kernel
theorem dX8_tickets_99 : decode cX8_tickets 99 = .ok (.getfield 7, 3) := by decide +kernel
theorem dX8_tickets_102 : decode cX8_tickets 102 = .ok (.sipush 133, 3) := by decide +kernel
theorem dX8_tickets_105 : decode cX8_tickets 105 = .ok (.iconst 4, 1) := by decide +kernel
theorem dX8_tickets_106 : decode cX8_tickets 106 = .ok (.iload 5, 2) := by decide +kernel
theorem dX8_tickets_108 : decode cX8_tickets 108 = .ok (.imul, 1) := by decide +kernel
theorem dX8_tickets_109 : decode cX8_tickets 109 = .ok (.iadd, 1) := by decide +kernel
theorem dX8_tickets_110 : decode cX8_tickets 110 = .ok (.iload 4, 2) := by decide +kernel
theorem dX8_tickets_112 : decode cX8_tickets 112 = .ok (.iconst 4, 1) := by decide +kernel
theorem dX8_tickets_113 : decode cX8_tickets 113 = .ok (.irem, 1) := by decide +kernel
theorem dX8_tickets_114 : decode cX8_tickets 114 = .ok (.iadd, 1) := by decide +kernel
theorem dX8_tickets_115 : decode cX8_tickets 115 = .ok (.laload, 1) := by decide +kernel
theorem dX8_tickets_116 : decode cX8_tickets 116 = .ok (.lstore 9, 2) := by decide +kernel
theorem dX8_tickets_118 : decode cX8_tickets 118 = .ok (.iload 6, 2) := by decide +kernel
theorem dX8_tickets_120 : decode cX8_tickets 120 = .ok (.ifCond .le 86, 3) := by decide +kernel
theorem dX8_tickets_123 : decode cX8_tickets 123 = .ok (.aload_n 0, 1) := by decide +kernel
theorem dX8_tickets_124 : decode cX8_tickets 124 = .ok (.getfield 16, 3) := by decide +kernel
theorem dX8_tickets_127 : decode cX8_tickets 127 = .ok (.iload 6, 2) := by decide +kernel
theorem dX8_tickets_129 : decode cX8_tickets 129 = .ok (.iconst 1, 1) := by decide +kernel
theorem dX8_tickets_130 : decode cX8_tickets 130 = .ok (.isub, 1) := by decide +kernel
theorem dX8_tickets_131 : decode cX8_tickets 131 = .ok (.laload, 1) := by decide +kernel
theorem dX8_tickets_132 : decode cX8_tickets 132 = .ok (.lload 7, 2) := by decide +kernel
theorem dX8_tickets_134 : decode cX8_tickets 134 = .ok (.lcmp, 1) := by decide +kernel
theorem dX8_tickets_135 : decode cX8_tickets 135 = .ok (.ifCond .gt 33, 3) := by decide +kernel
theorem dX8_tickets_138 : decode cX8_tickets 138 = .ok (.aload_n 0, 1) := by decide +kernel
theorem dX8_tickets_139 : decode cX8_tickets 139 = .ok (.getfield 16, 3) := by decide +kernel
theorem dX8_tickets_142 : decode cX8_tickets 142 = .ok (.iload 6, 2) := by decide +kernel
theorem dX8_tickets_144 : decode cX8_tickets 144 = .ok (.iconst 1, 1) := by decide +kernel
theorem dX8_tickets_145 : decode cX8_tickets 145 = .ok (.isub, 1) := by decide +kernel
theorem dX8_tickets_146 : decode cX8_tickets 146 = .ok (.laload, 1) := by decide +kernel
theorem dX8_tickets_147 : decode cX8_tickets 147 = .ok (.lload 7, 2) := by decide +kernel
theorem dX8_tickets_149 : decode cX8_tickets 149 = .ok (.lcmp, 1) := by decide +kernel
theorem dX8_tickets_150 : decode cX8_tickets 150 = .ok (.ifCond .ne 56, 3) := by decide +kernel
theorem dX8_tickets_153 : decode cX8_tickets 153 = .ok (.aload_n 0, 1) := by decide +kernel
theorem dX8_tickets_154 : decode cX8_tickets 154 = .ok (.getfield 19, 3) := by decide +kernel
theorem dX8_tickets_157 : decode cX8_tickets 157 = .ok (.iload 6, 2) := by decide +kernel
theorem dX8_tickets_159 : decode cX8_tickets 159 = .ok (.iconst 1, 1) := by decide +kernel
theorem dX8_tickets_160 : decode cX8_tickets 160 = .ok (.isub, 1) := by decide +kernel
theorem dX8_tickets_161 : decode cX8_tickets 161 = .ok (.laload, 1) := by decide +kernel
theorem dX8_tickets_162 : decode cX8_tickets 162 = .ok (.lload 9, 2) := by decide +kernel
theorem dX8_tickets_164 : decode cX8_tickets 164 = .ok (.lcmp, 1) := by decide +kernel
theorem dX8_tickets_165 : decode cX8_tickets 165 = .ok (.ifCond .le 41, 3) := by decide +kernel
theorem dX8_tickets_168 : decode cX8_tickets 168 = .ok (.aload_n 0, 1) := by decide +kernel
theorem dX8_tickets_169 : decode cX8_tickets 169 = .ok (.getfield 16, 3) := by decide +kernel
theorem dX8_tickets_172 : decode cX8_tickets 172 = .ok (.iload 6, 2) := by decide +kernel
theorem dX8_tickets_174 : decode cX8_tickets 174 = .ok (.aload_n 0, 1) := by decide +kernel
theorem dX8_tickets_175 : decode cX8_tickets 175 = .ok (.getfield 16, 3) := by decide +kernel
theorem dX8_tickets_178 : decode cX8_tickets 178 = .ok (.iload 6, 2) := by decide +kernel
theorem dX8_tickets_180 : decode cX8_tickets 180 = .ok (.iconst 1, 1) := by decide +kernel
theorem dX8_tickets_181 : decode cX8_tickets 181 = .ok (.isub, 1) := by decide +kernel
theorem dX8_tickets_182 : decode cX8_tickets 182 = .ok (.laload, 1) := by decide +kernel
theorem dX8_tickets_183 : decode cX8_tickets 183 = .ok (.lastore, 1) := by decide +kernel
theorem dX8_tickets_184 : decode cX8_tickets 184 = .ok (.aload_n 0, 1) := by decide +kernel
theorem dX8_tickets_185 : decode cX8_tickets 185 = .ok (.getfield 19, 3) := by decide +kernel
theorem dX8_tickets_188 : decode cX8_tickets 188 = .ok (.iload 6, 2) := by decide +kernel
theorem dX8_tickets_190 : decode cX8_tickets 190 = .ok (.aload_n 0, 1) := by decide +kernel
theorem dX8_tickets_191 : decode cX8_tickets 191 = .ok (.getfield 19, 3) := by decide +kernel
theorem dX8_tickets_194 : decode cX8_tickets 194 = .ok (.iload 6, 2) := by decide +kernel
theorem dX8_tickets_196 : decode cX8_tickets 196 = .ok (.iconst 1, 1) := by decide +kernel
theorem dX8_tickets_197 : decode cX8_tickets 197 = .ok (.isub, 1) := by decide +kernel
theorem dX8_tickets_198 : decode cX8_tickets 198 = .ok (.laload, 1) := by decide +kernel
theorem dX8_tickets_199 : decode cX8_tickets 199 = .ok (.lastore, 1) := by decide +kernel
theorem dX8_tickets_200 : decode cX8_tickets 200 = .ok (.iinc 6 (-1), 3) := by decide +kernel
theorem dX8_tickets_203 : decode cX8_tickets 203 = .ok (.goto (-85), 3) := by decide +kernel
theorem dX8_tickets_206 : decode cX8_tickets 206 = .ok (.aload_n 0, 1) := by decide +kernel
theorem dX8_tickets_207 : decode cX8_tickets 207 = .ok (.getfield 16, 3) := by decide +kernel
theorem dX8_tickets_210 : decode cX8_tickets 210 = .ok (.iload 6, 2) := by decide +kernel
theorem dX8_tickets_212 : decode cX8_tickets 212 = .ok (.lload 7, 2) := by decide +kernel
theorem dX8_tickets_214 : decode cX8_tickets 214 = .ok (.lastore, 1) := by decide +kernel
theorem dX8_tickets_215 : decode cX8_tickets 215 = .ok (.aload_n 0, 1) := by decide +kernel
theorem dX8_tickets_216 : decode cX8_tickets 216 = .ok (.getfield 19, 3) := by decide +kernel
theorem dX8_tickets_219 : decode cX8_tickets 219 = .ok (.iload 6, 2) := by decide +kernel
theorem dX8_tickets_221 : decode cX8_tickets 221 = .ok (.lload 9, 2) := by decide +kernel
theorem dX8_tickets_223 : decode cX8_tickets 223 = .ok (.lastore, 1) := by decide +kernel
theorem dX8_tickets_224 : decode cX8_tickets 224 = .ok (.iinc 3 1, 3) := by decide +kernel
theorem dX8_tickets_227 : decode cX8_tickets 227 = .ok (.iinc 4 1, 3) := by decide +kernel
theorem dX8_tickets_230 : decode cX8_tickets 230 = .ok (.goto (-225), 3) := by decide +kernel
theorem dX8_tickets_233 : decode cX8_tickets 233 = .ok (.iload_n 3, 1) := by decide +kernel
theorem dX8_tickets_234 : decode cX8_tickets 234 = .ok (.iconst 4, 1) := by decide +kernel
theorem dX8_tickets_235 : decode cX8_tickets 235 = .ok (.if_icmp .ge 7, 3) := by decide +kernel
theorem dX8_tickets_238 : decode cX8_tickets 238 = .ok (.iload_n 3, 1) := by decide +kernel
theorem dX8_tickets_239 : decode cX8_tickets 239 = .ok (.goto 4, 3) := by decide +kernel
theorem dX8_tickets_242 : decode cX8_tickets 242 = .ok (.iconst 4, 1) := by decide +kernel
theorem dX8_tickets_243 : decode cX8_tickets 243 = .ok (.istore 4, 2) := by decide +kernel
theorem dX8_tickets_245 : decode cX8_tickets 245 = .ok (.aload_n 0, 1) := by decide +kernel
theorem dX8_tickets_246 : decode cX8_tickets 246 = .ok (.getfield 7, 3) := by decide +kernel
theorem dX8_tickets_249 : decode cX8_tickets 249 = .ok (.bipush 83, 2) := by decide +kernel
theorem dX8_tickets_251 : decode cX8_tickets 251 = .ok (.iload_n 1, 1) := by decide +kernel
theorem dX8_tickets_252 : decode cX8_tickets 252 = .ok (.iadd, 1) := by decide +kernel
theorem dX8_tickets_253 : decode cX8_tickets 253 = .ok (.iload 4, 2) := by decide +kernel
theorem dX8_tickets_255 : decode cX8_tickets 255 = .ok (.i2l, 1) := by decide +kernel
theorem dX8_tickets_256 : decode cX8_tickets 256 = .ok (.lastore, 1) := by decide +kernel
theorem dX8_tickets_257 : decode cX8_tickets 257 = .ok (.aload_n 0, 1) := by decide +kernel
theorem dX8_tickets_258 : decode cX8_tickets 258 = .ok (.getfield 7, 3) := by decide +kernel
theorem dX8_tickets_261 : decode cX8_tickets 261 = .ok (.bipush 83, 2) := by decide +kernel
theorem dX8_tickets_263 : decode cX8_tickets 263 = .ok (.iload_n 2, 1) := by decide +kernel
theorem dX8_tickets_264 : decode cX8_tickets 264 = .ok (.iadd, 1) := by decide +kernel
theorem dX8_tickets_265 : decode cX8_tickets 265 = .ok (.iload 4, 2) := by decide +kernel
theorem dX8_tickets_267 : decode cX8_tickets 267 = .ok (.i2l, 1) := by decide +kernel
theorem dX8_tickets_268 : decode cX8_tickets 268 = .ok (.lastore, 1) := by decide +kernel
theorem dX8_tickets_269 : decode cX8_tickets 269 = .ok (.iconst 0, 1) := by decide +kernel
theorem dX8_tickets_270 : decode cX8_tickets 270 = .ok (.istore 5, 2) := by decide +kernel
theorem dX8_tickets_272 : decode cX8_tickets 272 = .ok (.iload 5, 2) := by decide +kernel
theorem dX8_tickets_274 : decode cX8_tickets 274 = .ok (.iload 4, 2) := by decide +kernel
theorem dX8_tickets_276 : decode cX8_tickets 276 = .ok (.if_icmp .ge 95, 3) := by decide +kernel
theorem dX8_tickets_279 : decode cX8_tickets 279 = .ok (.aload_n 0, 1) := by decide +kernel
theorem dX8_tickets_280 : decode cX8_tickets 280 = .ok (.getfield 7, 3) := by decide +kernel
theorem dX8_tickets_283 : decode cX8_tickets 283 = .ok (.bipush 93, 2) := by decide +kernel
theorem dX8_tickets_285 : decode cX8_tickets 285 = .ok (.iconst 4, 1) := by decide +kernel
theorem dX8_tickets_286 : decode cX8_tickets 286 = .ok (.iload_n 1, 1) := by decide +kernel
theorem dX8_tickets_287 : decode cX8_tickets 287 = .ok (.imul, 1) := by decide +kernel
theorem dX8_tickets_288 : decode cX8_tickets 288 = .ok (.iadd, 1) := by decide +kernel
theorem dX8_tickets_289 : decode cX8_tickets 289 = .ok (.iload 5, 2) := by decide +kernel
theorem dX8_tickets_291 : decode cX8_tickets 291 = .ok (.iadd, 1) := by decide +kernel
theorem dX8_tickets_292 : decode cX8_tickets 292 = .ok (.aload_n 0, 1) := by decide +kernel
theorem dX8_tickets_293 : decode cX8_tickets 293 = .ok (.getfield 16, 3) := by decide +kernel
theorem dX8_tickets_296 : decode cX8_tickets 296 = .ok (.iload 5, 2) := by decide +kernel
theorem dX8_tickets_298 : decode cX8_tickets 298 = .ok (.laload, 1) := by decide +kernel
theorem dX8_tickets_299 : decode cX8_tickets 299 = .ok (.lastore, 1) := by decide +kernel
theorem dX8_tickets_300 : decode cX8_tickets 300 = .ok (.aload_n 0, 1) := by decide +kernel
theorem dX8_tickets_301 : decode cX8_tickets 301 = .ok (.getfield 7, 3) := by decide +kernel
theorem dX8_tickets_304 : decode cX8_tickets 304 = .ok (.sipush 133, 3) := by decide +kernel
theorem dX8_tickets_307 : decode cX8_tickets 307 = .ok (.iconst 4, 1) := by decide +kernel
theorem dX8_tickets_308 : decode cX8_tickets 308 = .ok (.iload_n 1, 1) := by decide +kernel
theorem dX8_tickets_309 : decode cX8_tickets 309 = .ok (.imul, 1) := by decide +kernel
theorem dX8_tickets_310 : decode cX8_tickets 310 = .ok (.iadd, 1) := by decide +kernel
theorem dX8_tickets_311 : decode cX8_tickets 311 = .ok (.iload 5, 2) := by decide +kernel
theorem dX8_tickets_313 : decode cX8_tickets 313 = .ok (.iadd, 1) := by decide +kernel
theorem dX8_tickets_314 : decode cX8_tickets 314 = .ok (.aload_n 0, 1) := by decide +kernel
theorem dX8_tickets_315 : decode cX8_tickets 315 = .ok (.getfield 19, 3) := by decide +kernel
theorem dX8_tickets_318 : decode cX8_tickets 318 = .ok (.iload 5, 2) := by decide +kernel
theorem dX8_tickets_320 : decode cX8_tickets 320 = .ok (.laload, 1) := by decide +kernel
theorem dX8_tickets_321 : decode cX8_tickets 321 = .ok (.lastore, 1) := by decide +kernel
theorem dX8_tickets_322 : decode cX8_tickets 322 = .ok (.aload_n 0, 1) := by decide +kernel
theorem dX8_tickets_323 : decode cX8_tickets 323 = .ok (.getfield 7, 3) := by decide +kernel
theorem dX8_tickets_326 : decode cX8_tickets 326 = .ok (.bipush 93, 2) := by decide +kernel
theorem dX8_tickets_328 : decode cX8_tickets 328 = .ok (.iconst 4, 1) := by decide +kernel
theorem dX8_tickets_329 : decode cX8_tickets 329 = .ok (.iload_n 2, 1) := by decide +kernel
theorem dX8_tickets_330 : decode cX8_tickets 330 = .ok (.imul, 1) := by decide +kernel
theorem dX8_tickets_331 : decode cX8_tickets 331 = .ok (.iadd, 1) := by decide +kernel
theorem dX8_tickets_332 : decode cX8_tickets 332 = .ok (.iload 5, 2) := by decide +kernel
theorem dX8_tickets_334 : decode cX8_tickets 334 = .ok (.iadd, 1) := by decide +kernel
theorem dX8_tickets_335 : decode cX8_tickets 335 = .ok (.aload_n 0, 1) := by decide +kernel
theorem dX8_tickets_336 : decode cX8_tickets 336 = .ok (.getfield 16, 3) := by decide +kernel
theorem dX8_tickets_339 : decode cX8_tickets 339 = .ok (.iload 5, 2) := by decide +kernel
theorem dX8_tickets_341 : decode cX8_tickets 341 = .ok (.laload, 1) := by decide +kernel
theorem dX8_tickets_342 : decode cX8_tickets 342 = .ok (.lastore, 1) := by decide +kernel
theorem dX8_tickets_343 : decode cX8_tickets 343 = .ok (.aload_n 0, 1) := by decide +kernel
theorem dX8_tickets_344 : decode cX8_tickets 344 = .ok (.getfield 7, 3) := by decide +kernel
theorem dX8_tickets_347 : decode cX8_tickets 347 = .ok (.sipush 133, 3) := by decide +kernel
theorem dX8_tickets_350 : decode cX8_tickets 350 = .ok (.iconst 4, 1) := by decide +kernel
theorem dX8_tickets_351 : decode cX8_tickets 351 = .ok (.iload_n 2, 1) := by decide +kernel
theorem dX8_tickets_352 : decode cX8_tickets 352 = .ok (.imul, 1) := by decide +kernel
theorem dX8_tickets_353 : decode cX8_tickets 353 = .ok (.iadd, 1) := by decide +kernel
theorem dX8_tickets_354 : decode cX8_tickets 354 = .ok (.iload 5, 2) := by decide +kernel
theorem dX8_tickets_356 : decode cX8_tickets 356 = .ok (.iadd, 1) := by decide +kernel
theorem dX8_tickets_357 : decode cX8_tickets 357 = .ok (.aload_n 0, 1) := by decide +kernel
theorem dX8_tickets_358 : decode cX8_tickets 358 = .ok (.getfield 19, 3) := by decide +kernel
theorem dX8_tickets_361 : decode cX8_tickets 361 = .ok (.iload 5, 2) := by decide +kernel
theorem dX8_tickets_363 : decode cX8_tickets 363 = .ok (.laload, 1) := by decide +kernel
theorem dX8_tickets_364 : decode cX8_tickets 364 = .ok (.lastore, 1) := by decide +kernel
theorem dX8_tickets_365 : decode cX8_tickets 365 = .ok (.iinc 5 1, 3) := by decide +kernel
theorem dX8_tickets_368 : decode cX8_tickets 368 = .ok (.goto (-96), 3) := by decide +kernel
theorem dX8_tickets_371 : decode cX8_tickets 371 = .ok (.return_, 1) := by decide +kernel
set_option maxRecDepth 20000 in
theorem ggX8_talks_X8_even : GoodIn wsX8_talks wsX8_even := goodIn_r _ [6, 1, 21, 22, 23, 24, 25, 26, 27, 28, 29, 30, 31, 32, 33] (by decide +kernel) (by decide +kernel)
set_option maxRecDepth 20000 in
theorem gX8_talks_X8_even : GoodIn wsX8_talks (wsV RX8 118 RX8 yX8_even wsX8_even) := goodIn_app (goodIn_of _ (by decide +kernel)) ggX8_talks_X8_even
set_option maxRecDepth 20000 in
theorem ggX8_talks_X8_great : GoodIn wsX8_talks wsX8_great := goodIn_r _ [10, 1, 21, 22, 23, 24, 25, 26, 27, 28, 29, 30, 31, 32, 33] (by decide +kernel) (by decide +kernel)
set_option maxRecDepth 20000 in
theorem gX8_talks_X8_great : GoodIn wsX8_talks (wsV RX8 121 RX8 yX8_great wsX8_great) := goodIn_app (goodIn_of _ (by decide +kernel)) ggX8_talks_X8_great
set_option maxRecDepth 20000 in
theorem ggX8_talks_X8_tickets : GoodIn wsX8_talks wsX8_tickets := goodIn_r _ [14, 1, 15, 16, 17, 18, 19, 5, 20, 21, 22, 23, 24, 25, 26, 27, 28, 29, 30, 31, 32, 33] (by decide +kernel) (by decide +kernel)
set_option maxRecDepth 20000 in
theorem gX8_talks_X8_tickets : GoodIn wsX8_talks (wsV RX8 124 RX8 yX8_tickets wsX8_tickets) := goodIn_app (goodIn_of _ (by decide +kernel)) ggX8_talks_X8_tickets
theorem dX8_talks_0 : decode cX8_talks 0 = .ok (.aload_n 0, 1) := by decide +kernel
theorem dX8_talks_1 : decode cX8_talks 1 = .ok (.getfield 7, 3) := by decide +kernel
theorem dX8_talks_4 : decode cX8_talks 4 = .ok (.iconst 2, 1) := by decide +kernel
theorem dX8_talks_5 : decode cX8_talks 5 = .ok (.dup2, 1) := by decide +kernel
theorem dX8_talks_6 : decode cX8_talks 6 = .ok (.laload, 1) := by decide +kernel
theorem dX8_talks_7 : decode cX8_talks 7 = .ok (.lconst 1, 1) := by decide +kernel
theorem dX8_talks_8 : decode cX8_talks 8 = .ok (.ladd, 1) := by decide +kernel
theorem dX8_talks_9 : decode cX8_talks 9 = .ok (.lastore, 1) := by decide +kernel
theorem dX8_talks_10 : decode cX8_talks 10 = .ok (.iload_n 1, 1) := by decide +kernel
theorem dX8_talks_11 : decode cX8_talks 11 = .ok (.ifCond .ne 12, 3) := by decide +kernel
theorem dX8_talks_14 : decode cX8_talks 14 = .ok (.aload_n 0, 1) := by decide +kernel
theorem dX8_talks_15 : decode cX8_talks 15 = .ok (.iload_n 2, 1) := by decide +kernel
theorem dX8_talks_16 : decode cX8_talks 16 = .ok (.iload_n 3, 1) := by decide +kernel
theorem dX8_talks_17 : decode cX8_talks 17 = .ok (.invokevirtual 118, 3) := by decide +kernel
theorem dX8_talks_20 : decode cX8_talks 20 = .ok (.goto 23, 3) := by decide +kernel
theorem dX8_talks_23 : decode cX8_talks 23 = .ok (.iload_n 1, 1) := by decide +kernel
theorem dX8_talks_24 : decode cX8_talks 24 = .ok (.iconst 1, 1) := by decide +kernel
theorem dX8_talks_25 : decode cX8_talks 25 = .ok (.if_icmp .ne 12, 3) := by decide +kernel
theorem dX8_talks_28 : decode cX8_talks 28 = .ok (.aload_n 0, 1) := by decide +kernel
theorem dX8_talks_29 : decode cX8_talks 29 = .ok (.iload_n 2, 1) := by decide +kernel
theorem dX8_talks_30 : decode cX8_talks 30 = .ok (.iload_n 3, 1) := by decide +kernel
theorem dX8_talks_31 : decode cX8_talks 31 = .ok (.invokevirtual 121, 3) := by decide +kernel
theorem dX8_talks_34 : decode cX8_talks 34 = .ok (.goto 9, 3) := by decide +kernel
theorem dX8_talks_37 : decode cX8_talks 37 = .ok (.aload_n 0, 1) := by decide +kernel
theorem dX8_talks_38 : decode cX8_talks 38 = .ok (.iload_n 2, 1) := by decide +kernel
theorem dX8_talks_39 : decode cX8_talks 39 = .ok (.iload_n 3, 1) := by decide +kernel
theorem dX8_talks_40 : decode cX8_talks 40 = .ok (.invokevirtual 124, 3) := by decide +kernel
theorem dX8_talks_43 : decode cX8_talks 43 = .ok (.return_, 1) := by decide +kernel
set_option maxRecDepth 20000 in
theorem ggX8_talk_X8_in : GoodIn wsX8_talk wsX8_in := goodIn_r _ [5] (by decide +kernel) (by decide +kernel)
set_option maxRecDepth 20000 in
theorem gX8_talk_X8_in : GoodIn wsX8_talk (va_wsS RX8 45 yX8_in wsX8_in) := goodIn_app (goodIn_of _ (by decide +kernel)) ggX8_talk_X8_in
set_option maxRecDepth 20000 in
theorem ggX8_talk_X8_isHere : GoodIn wsX8_talk wsX8_isHere := goodIn_r _ [9, 10, 11, 12, 13, 4, 14, 2, 3, 5, 47, 48, 49, 50, 51, 52, 53, 54, 55, 56, 57, 58, 59] (by decide +kernel) (by decide +kernel)
set_option maxRecDepth 20000 in
theorem gX8_talk_X8_isHere : GoodIn wsX8_talk (wsV RX8 101 RX8 yX8_isHere wsX8_isHere) := goodIn_app (goodIn_of _ (by decide +kernel)) ggX8_talk_X8_isHere
set_option maxRecDepth 20000 in
theorem ggX8_talk_X8_areJoined : GoodIn wsX8_talk wsX8_areJoined := goodIn_r _ [18, 10, 47, 48, 49, 50, 51, 52, 53, 54, 55, 56, 57, 58, 59] (by decide +kernel) (by decide +kernel)
set_option maxRecDepth 20000 in
theorem gX8_talk_X8_areJoined : GoodIn wsX8_talk (wsV RX8 59 RX8 yX8_areJoined wsX8_areJoined) := goodIn_app (goodIn_of _ (by decide +kernel)) ggX8_talk_X8_areJoined
set_option maxRecDepth 20000 in
theorem ggX8_talk_X8_keep : GoodIn wsX8_talk wsX8_keep := goodIn_r _ [22, 23, 24, 10, 47, 48, 49, 50, 51, 52, 53, 54, 55, 56, 57, 58, 59] (by decide +kernel) (by decide +kernel)
set_option maxRecDepth 20000 in
theorem gX8_talk_X8_keep : GoodIn wsX8_talk (wsV RX8 84 RX8 yX8_keep wsX8_keep) := goodIn_app (goodIn_of _ (by decide +kernel)) ggX8_talk_X8_keep
set_option maxRecDepth 20000 in
theorem ggX8_talk_X8_talks : GoodIn wsX8_talk wsX8_talks := goodIn_r _ [28, 10, 29, 30, 31, 4, 32, 33, 34, 35, 36, 37, 38, 39, 40, 41, 42, 43, 44, 45, 46, 47, 48, 49, 50, 51, 52, 53, 54, 55, 56, 57, 58, 59] (by decide +kernel) (by decide +kernel)
set_option maxRecDepth 20000 in
theorem gX8_talk_X8_talks : GoodIn wsX8_talk (wsV RX8 129 RX8 yX8_talks wsX8_talks) := goodIn_app (goodIn_of _ (by decide +kernel)) ggX8_talk_X8_talks
theorem dX8_talk_0 : decode cX8_talk 0 = .ok (.iload_n 1, 1) := by decide +kernel
theorem dX8_talk_1 : decode cX8_talk 1 = .ok (.i2l, 1) := by decide +kernel
theorem dX8_talk_2 : decode cX8_talk 2 = .ok (.lconst 0, 1) := by decide +kernel
theorem dX8_talk_3 : decode cX8_talk 3 = .ok (.ldc2_w 127, 3) := by decide +kernel
theorem dX8_talk_6 : decode cX8_talk 6 = .ok (.invokestatic 45, 3) := by decide +kernel
theorem dX8_talk_9 : decode cX8_talk 9 = .ok (.ifCond .eq 19, 3) := by decide +kernel
theorem dX8_talk_12 : decode cX8_talk 12 = .ok (.aload_n 0, 1) := by decide +kernel
theorem dX8_talk_13 : decode cX8_talk 13 = .ok (.iload_n 2, 1) := by decide +kernel
theorem dX8_talk_14 : decode cX8_talk 14 = .ok (.invokevirtual 101, 3) := by decide +kernel
theorem dX8_talk_17 : decode cX8_talk 17 = .ok (.ifCond .eq 11, 3) := by decide +kernel
theorem dX8_talk_20 : decode cX8_talk 20 = .ok (.aload_n 0, 1) := by decide +kernel
theorem dX8_talk_21 : decode cX8_talk 21 = .ok (.iload_n 3, 1) := by decide +kernel
theorem dX8_talk_22 : decode cX8_talk 22 = .ok (.invokevirtual 101, 3) := by decide +kernel
theorem dX8_talk_25 : decode cX8_talk 25 = .ok (.ifCond .ne 5, 3) := by decide +kernel
theorem dX8_talk_28 : decode cX8_talk 28 = .ok (.iconst (-1), 1) := by decide +kernel
theorem dX8_talk_29 : decode cX8_talk 29 = .ok (.ireturn, 1) := by decide +kernel
theorem dX8_talk_30 : decode cX8_talk 30 = .ok (.aload_n 0, 1) := by decide +kernel
theorem dX8_talk_31 : decode cX8_talk 31 = .ok (.iload_n 2, 1) := by decide +kernel
theorem dX8_talk_32 : decode cX8_talk 32 = .ok (.iload_n 3, 1) := by decide +kernel
theorem dX8_talk_33 : decode cX8_talk 33 = .ok (.invokevirtual 59, 3) := by decide +kernel
theorem dX8_talk_36 : decode cX8_talk 36 = .ok (.ifCond .ne 6, 3) := by decide +kernel
theorem dX8_talk_39 : decode cX8_talk 39 = .ok (.bipush (-2), 2) := by decide +kernel
theorem dX8_talk_41 : decode cX8_talk 41 = .ok (.ireturn, 1) := by decide +kernel
theorem dX8_talk_42 : decode cX8_talk 42 = .ok (.aload_n 0, 1) := by decide +kernel
theorem dX8_talk_43 : decode cX8_talk 43 = .ok (.invokevirtual 84, 3) := by decide +kernel
theorem dX8_talk_46 : decode cX8_talk 46 = .ok (.aload_n 0, 1) := by decide +kernel
theorem dX8_talk_47 : decode cX8_talk 47 = .ok (.iload_n 1, 1) := by decide +kernel
theorem dX8_talk_48 : decode cX8_talk 48 = .ok (.iload_n 2, 1) := by decide +kernel
theorem dX8_talk_49 : decode cX8_talk 49 = .ok (.iload_n 3, 1) := by decide +kernel
theorem dX8_talk_50 : decode cX8_talk 50 = .ok (.invokevirtual 129, 3) := by decide +kernel
theorem dX8_talk_53 : decode cX8_talk 53 = .ok (.iconst 1, 1) := by decide +kernel
theorem dX8_talk_54 : decode cX8_talk 54 = .ok (.ireturn, 1) := by decide +kernel
set_option maxRecDepth 20000 in
theorem ggX8_send_X8_isHere : GoodIn wsX8_send wsX8_isHere := goodIn_r _ [6, 1, 7, 8, 9, 5, 10, 11, 12, 13, 28, 29, 30, 31, 32, 33, 34, 35, 36, 37, 38, 39, 40] (by decide +kernel) (by decide +kernel)
set_option maxRecDepth 20000 in
theorem gX8_send_X8_isHere : GoodIn wsX8_send (wsV RX8 101 RX8 yX8_isHere wsX8_isHere) := goodIn_app (goodIn_of _ (by decide +kernel)) ggX8_send_X8_isHere
set_option maxRecDepth 20000 in
theorem ggX8_send_X8_areJoined : GoodIn wsX8_send wsX8_areJoined := goodIn_r _ [17, 1, 28, 29, 30, 31, 32, 33, 34, 35, 36, 37, 38, 39, 40] (by decide +kernel) (by decide +kernel)
set_option maxRecDepth 20000 in
theorem gX8_send_X8_areJoined : GoodIn wsX8_send (wsV RX8 59 RX8 yX8_areJoined wsX8_areJoined) := goodIn_app (goodIn_of _ (by decide +kernel)) ggX8_send_X8_areJoined
set_option maxRecDepth 20000 in
theorem ggX8_send_X8_isUnderWay : GoodIn wsX8_send wsX8_isUnderWay := goodIn_r _ [21, 1, 28, 29, 30, 31, 32, 33, 34, 35, 36, 37, 38, 39, 40] (by decide +kernel) (by decide +kernel)
set_option maxRecDepth 20000 in
theorem gX8_send_X8_isUnderWay : GoodIn wsX8_send (wsV RX8 94 RX8 yX8_isUnderWay wsX8_isUnderWay) := goodIn_app (goodIn_of _ (by decide +kernel)) ggX8_send_X8_isUnderWay
set_option maxRecDepth 20000 in
theorem ggX8_send_X8_keep : GoodIn wsX8_send wsX8_keep := goodIn_r _ [25, 26, 27, 1, 28, 29, 30, 31, 32, 33, 34, 35, 36, 37, 38, 39, 40] (by decide +kernel) (by decide +kernel)
set_option maxRecDepth 20000 in
theorem gX8_send_X8_keep : GoodIn wsX8_send (wsV RX8 84 RX8 yX8_keep wsX8_keep) := goodIn_app (goodIn_of _ (by decide +kernel)) ggX8_send_X8_keep
theorem dX8_send_0 : decode cX8_send 0 = .ok (.aload_n 0, 1) := by decide +kernel
theorem dX8_send_1 : decode cX8_send 1 = .ok (.iload_n 1, 1) := by decide +kernel
theorem dX8_send_2 : decode cX8_send 2 = .ok (.invokevirtual 101, 3) := by decide +kernel
theorem dX8_send_5 : decode cX8_send 5 = .ok (.ifCond .eq 11, 3) := by decide +kernel
theorem dX8_send_8 : decode cX8_send 8 = .ok (.aload_n 0, 1) := by decide +kernel
theorem dX8_send_9 : decode cX8_send 9 = .ok (.iload_n 2, 1) := by decide +kernel
theorem dX8_send_10 : decode cX8_send 10 = .ok (.invokevirtual 101, 3) := by decide +kernel
theorem dX8_send_13 : decode cX8_send 13 = .ok (.ifCond .ne 5, 3) := by decide +kernel
theorem dX8_send_16 : decode cX8_send 16 = .ok (.iconst (-1), 1) := by decide +kernel
theorem dX8_send_17 : decode cX8_send 17 = .ok (.ireturn, 1) := by decide +kernel
theorem dX8_send_18 : decode cX8_send 18 = .ok (.aload_n 0, 1) := by decide +kernel
theorem dX8_send_19 : decode cX8_send 19 = .ok (.iload_n 1, 1) := by decide +kernel
theorem dX8_send_20 : decode cX8_send 20 = .ok (.iload_n 2, 1) := by decide +kernel
theorem dX8_send_21 : decode cX8_send 21 = .ok (.invokevirtual 59, 3) := by decide +kernel
theorem dX8_send_24 : decode cX8_send 24 = .ok (.ifCond .ne 6, 3) := by decide +kernel
theorem dX8_send_27 : decode cX8_send 27 = .ok (.bipush (-2), 2) := by decide +kernel
theorem dX8_send_29 : decode cX8_send 29 = .ok (.ireturn, 1) := by decide +kernel
theorem dX8_send_30 : decode cX8_send 30 = .ok (.iconst 0, 1) := by decide +kernel
theorem dX8_send_31 : decode cX8_send 31 = .ok (.istore_n 3, 1) := by decide +kernel
theorem dX8_send_32 : decode cX8_send 32 = .ok (.iload_n 3, 1) := by decide +kernel
theorem dX8_send_33 : decode cX8_send 33 = .ok (.bipush 8, 2) := by decide +kernel
theorem dX8_send_35 : decode cX8_send 35 = .ok (.if_icmp .ge 17, 3) := by decide +kernel
theorem dX8_send_38 : decode cX8_send 38 = .ok (.aload_n 0, 1) := by decide +kernel
theorem dX8_send_39 : decode cX8_send 39 = .ok (.iload_n 3, 1) := by decide +kernel
theorem dX8_send_40 : decode cX8_send 40 = .ok (.invokevirtual 94, 3) := by decide +kernel
theorem dX8_send_43 : decode cX8_send 43 = .ok (.ifCond .eq 9, 3) := by decide +kernel
theorem dX8_send_46 : decode cX8_send 46 = .ok (.iinc 3 1, 3) := by decide +kernel
theorem dX8_send_49 : decode cX8_send 49 = .ok (.goto (-17), 3) := by decide +kernel
theorem dX8_send_52 : decode cX8_send 52 = .ok (.iload_n 3, 1) := by decide +kernel
theorem dX8_send_53 : decode cX8_send 53 = .ok (.bipush 8, 2) := by decide +kernel
theorem dX8_send_55 : decode cX8_send 55 = .ok (.if_icmp .ne 6, 3) := by decide +kernel
theorem dX8_send_58 : decode cX8_send 58 = .ok (.bipush (-3), 2) := by decide +kernel
theorem dX8_send_60 : decode cX8_send 60 = .ok (.ireturn, 1) := by decide +kernel
theorem dX8_send_61 : decode cX8_send 61 = .ok (.aload_n 0, 1) := by decide +kernel
theorem dX8_send_62 : decode cX8_send 62 = .ok (.invokevirtual 84, 3) := by decide +kernel
theorem dX8_send_65 : decode cX8_send 65 = .ok (.aload_n 0, 1) := by decide +kernel
theorem dX8_send_66 : decode cX8_send 66 = .ok (.getfield 7, 3) := by decide +kernel
theorem dX8_send_69 : decode cX8_send 69 = .ok (.bipush 33, 2) := by decide +kernel
theorem dX8_send_71 : decode cX8_send 71 = .ok (.iload_n 1, 1) := by decide +kernel
theorem dX8_send_72 : decode cX8_send 72 = .ok (.iadd, 1) := by decide +kernel
theorem dX8_send_73 : decode cX8_send 73 = .ok (.laload, 1) := by decide +kernel
theorem dX8_send_74 : decode cX8_send 74 = .ok (.iconst 1, 1) := by decide +kernel
theorem dX8_send_75 : decode cX8_send 75 = .ok (.lshr, 1) := by decide +kernel
theorem dX8_send_76 : decode cX8_send 76 = .ok (.lstore 4, 2) := by decide +kernel
theorem dX8_send_78 : decode cX8_send 78 = .ok (.aload_n 0, 1) := by decide +kernel
theorem dX8_send_79 : decode cX8_send 79 = .ok (.getfield 7, 3) := by decide +kernel
theorem dX8_send_82 : decode cX8_send 82 = .ok (.bipush 43, 2) := by decide +kernel
theorem dX8_send_84 : decode cX8_send 84 = .ok (.iload_n 1, 1) := by decide +kernel
theorem dX8_send_85 : decode cX8_send 85 = .ok (.iadd, 1) := by decide +kernel
theorem dX8_send_86 : decode cX8_send 86 = .ok (.laload, 1) := by decide +kernel
theorem dX8_send_87 : decode cX8_send 87 = .ok (.iconst 1, 1) := by decide +kernel
theorem dX8_send_88 : decode cX8_send 88 = .ok (.lshr, 1) := by decide +kernel
theorem dX8_send_89 : decode cX8_send 89 = .ok (.lstore 6, 2) := by decide +kernel
theorem dX8_send_91 : decode cX8_send 91 = .ok (.aload_n 0, 1) := by decide +kernel
theorem dX8_send_92 : decode cX8_send 92 = .ok (.getfield 7, 3) := by decide +kernel
theorem dX8_send_95 : decode cX8_send 95 = .ok (.sipush 173, 3) := by decide +kernel
theorem dX8_send_98 : decode cX8_send 98 = .ok (.iconst 5, 1) := by decide +kernel
theorem dX8_send_99 : decode cX8_send 99 = .ok (.iload_n 3, 1) := by decide +kernel
theorem dX8_send_100 : decode cX8_send 100 = .ok (.imul, 1) := by decide +kernel
theorem dX8_send_101 : decode cX8_send 101 = .ok (.iadd, 1) := by decide +kernel
theorem dX8_send_102 : decode cX8_send 102 = .ok (.lconst 1, 1) := by decide +kernel
theorem dX8_send_103 : decode cX8_send 103 = .ok (.lastore, 1) := by decide +kernel
theorem dX8_send_104 : decode cX8_send 104 = .ok (.aload_n 0, 1) := by decide +kernel
theorem dX8_send_105 : decode cX8_send 105 = .ok (.getfield 7, 3) := by decide +kernel
theorem dX8_send_108 : decode cX8_send 108 = .ok (.sipush 173, 3) := by decide +kernel
theorem dX8_send_111 : decode cX8_send 111 = .ok (.iconst 5, 1) := by decide +kernel
theorem dX8_send_112 : decode cX8_send 112 = .ok (.iload_n 3, 1) := by decide +kernel
theorem dX8_send_113 : decode cX8_send 113 = .ok (.imul, 1) := by decide +kernel
theorem dX8_send_114 : decode cX8_send 114 = .ok (.iadd, 1) := by decide +kernel
theorem dX8_send_115 : decode cX8_send 115 = .ok (.iconst 1, 1) := by decide +kernel
theorem dX8_send_116 : decode cX8_send 116 = .ok (.iadd, 1) := by decide +kernel
theorem dX8_send_117 : decode cX8_send 117 = .ok (.iload_n 1, 1) := by decide +kernel
theorem dX8_send_118 : decode cX8_send 118 = .ok (.i2l, 1) := by decide +kernel
theorem dX8_send_119 : decode cX8_send 119 = .ok (.lastore, 1) := by decide +kernel
theorem dX8_send_120 : decode cX8_send 120 = .ok (.aload_n 0, 1) := by decide +kernel
theorem dX8_send_121 : decode cX8_send 121 = .ok (.getfield 7, 3) := by decide +kernel
theorem dX8_send_124 : decode cX8_send 124 = .ok (.sipush 173, 3) := by decide +kernel
theorem dX8_send_127 : decode cX8_send 127 = .ok (.iconst 5, 1) := by decide +kernel
theorem dX8_send_128 : decode cX8_send 128 = .ok (.iload_n 3, 1) := by decide +kernel
theorem dX8_send_129 : decode cX8_send 129 = .ok (.imul, 1) := by decide +kernel
theorem dX8_send_130 : decode cX8_send 130 = .ok (.iadd, 1) := by decide +kernel
theorem dX8_send_131 : decode cX8_send 131 = .ok (.iconst 2, 1) := by decide +kernel
theorem dX8_send_132 : decode cX8_send 132 = .ok (.iadd, 1) := by decide +kernel
theorem dX8_send_133 : decode cX8_send 133 = .ok (.iload_n 2, 1) := by decide +kernel
theorem dX8_send_134 : decode cX8_send 134 = .ok (.i2l, 1) := by decide +kernel
theorem dX8_send_135 : decode cX8_send 135 = .ok (.lastore, 1) := by decide +kernel
theorem dX8_send_136 : decode cX8_send 136 = .ok (.aload_n 0, 1) := by decide +kernel
theorem dX8_send_137 : decode cX8_send 137 = .ok (.getfield 7, 3) := by decide +kernel
theorem dX8_send_140 : decode cX8_send 140 = .ok (.sipush 173, 3) := by decide +kernel
theorem dX8_send_143 : decode cX8_send 143 = .ok (.iconst 5, 1) := by decide +kernel
theorem dX8_send_144 : decode cX8_send 144 = .ok (.iload_n 3, 1) := by decide +kernel
theorem dX8_send_145 : decode cX8_send 145 = .ok (.imul, 1) := by decide +kernel
theorem dX8_send_146 : decode cX8_send 146 = .ok (.iadd, 1) := by decide +kernel
theorem dX8_send_147 : decode cX8_send 147 = .ok (.iconst 3, 1) := by decide +kernel
theorem dX8_send_148 : decode cX8_send 148 = .ok (.iadd, 1) := by decide +kernel
theorem dX8_send_149 : decode cX8_send 149 = .ok (.lload 4, 2) := by decide +kernel
theorem dX8_send_151 : decode cX8_send 151 = .ok (.lastore, 1) := by decide +kernel
theorem dX8_send_152 : decode cX8_send 152 = .ok (.aload_n 0, 1) := by decide +kernel
theorem dX8_send_153 : decode cX8_send 153 = .ok (.getfield 7, 3) := by decide +kernel
theorem dX8_send_156 : decode cX8_send 156 = .ok (.sipush 173, 3) := by decide +kernel
theorem dX8_send_159 : decode cX8_send 159 = .ok (.iconst 5, 1) := by decide +kernel
theorem dX8_send_160 : decode cX8_send 160 = .ok (.iload_n 3, 1) := by decide +kernel
theorem dX8_send_161 : decode cX8_send 161 = .ok (.imul, 1) := by decide +kernel
theorem dX8_send_162 : decode cX8_send 162 = .ok (.iadd, 1) := by decide +kernel
theorem dX8_send_163 : decode cX8_send 163 = .ok (.iconst 4, 1) := by decide +kernel
theorem dX8_send_164 : decode cX8_send 164 = .ok (.iadd, 1) := by decide +kernel
theorem dX8_send_165 : decode cX8_send 165 = .ok (.lload 6, 2) := by decide +kernel
theorem dX8_send_167 : decode cX8_send 167 = .ok (.lastore, 1) := by decide +kernel
theorem dX8_send_168 : decode cX8_send 168 = .ok (.aload_n 0, 1) := by decide +kernel
theorem dX8_send_169 : decode cX8_send 169 = .ok (.getfield 7, 3) := by decide +kernel
theorem dX8_send_172 : decode cX8_send 172 = .ok (.bipush 33, 2) := by decide +kernel
theorem dX8_send_174 : decode cX8_send 174 = .ok (.iload_n 1, 1) := by decide +kernel
theorem dX8_send_175 : decode cX8_send 175 = .ok (.iadd, 1) := by decide +kernel
theorem dX8_send_176 : decode cX8_send 176 = .ok (.dup2, 1) := by decide +kernel
theorem dX8_send_177 : decode cX8_send 177 = .ok (.laload, 1) := by decide +kernel
theorem dX8_send_178 : decode cX8_send 178 = .ok (.lload 4, 2) := by decide +kernel
theorem dX8_send_180 : decode cX8_send 180 = .ok (.lsub, 1) := by decide +kernel
theorem dX8_send_181 : decode cX8_send 181 = .ok (.lastore, 1) := by decide +kernel
theorem dX8_send_182 : decode cX8_send 182 = .ok (.aload_n 0, 1) := by decide +kernel
theorem dX8_send_183 : decode cX8_send 183 = .ok (.getfield 7, 3) := by decide +kernel
theorem dX8_send_186 : decode cX8_send 186 = .ok (.bipush 43, 2) := by decide +kernel
theorem dX8_send_188 : decode cX8_send 188 = .ok (.iload_n 1, 1) := by decide +kernel
theorem dX8_send_189 : decode cX8_send 189 = .ok (.iadd, 1) := by decide +kernel
theorem dX8_send_190 : decode cX8_send 190 = .ok (.dup2, 1) := by decide +kernel
theorem dX8_send_191 : decode cX8_send 191 = .ok (.laload, 1) := by decide +kernel
theorem dX8_send_192 : decode cX8_send 192 = .ok (.lload 6, 2) := by decide +kernel
theorem dX8_send_194 : decode cX8_send 194 = .ok (.lsub, 1) := by decide +kernel
theorem dX8_send_195 : decode cX8_send 195 = .ok (.lastore, 1) := by decide +kernel
theorem dX8_send_196 : decode cX8_send 196 = .ok (.aload_n 0, 1) := by decide +kernel
theorem dX8_send_197 : decode cX8_send 197 = .ok (.getfield 7, 3) := by decide +kernel
theorem dX8_send_200 : decode cX8_send 200 = .ok (.sipush 213, 3) := by decide +kernel
theorem dX8_send_203 : decode cX8_send 203 = .ok (.bipush 10, 2) := by decide +kernel
theorem dX8_send_205 : decode cX8_send 205 = .ok (.iload_n 1, 1) := by decide +kernel
theorem dX8_send_206 : decode cX8_send 206 = .ok (.imul, 1) := by decide +kernel
theorem dX8_send_207 : decode cX8_send 207 = .ok (.iadd, 1) := by decide +kernel
theorem dX8_send_208 : decode cX8_send 208 = .ok (.iload_n 2, 1) := by decide +kernel
theorem dX8_send_209 : decode cX8_send 209 = .ok (.iadd, 1) := by decide +kernel
theorem dX8_send_210 : decode cX8_send 210 = .ok (.dup2, 1) := by decide +kernel
theorem dX8_send_211 : decode cX8_send 211 = .ok (.laload, 1) := by decide +kernel
theorem dX8_send_212 : decode cX8_send 212 = .ok (.lload 4, 2) := by decide +kernel
theorem dX8_send_214 : decode cX8_send 214 = .ok (.ladd, 1) := by decide +kernel
theorem dX8_send_215 : decode cX8_send 215 = .ok (.lastore, 1) := by decide +kernel
theorem dX8_send_216 : decode cX8_send 216 = .ok (.aload_n 0, 1) := by decide +kernel
theorem dX8_send_217 : decode cX8_send 217 = .ok (.getfield 7, 3) := by decide +kernel
theorem dX8_send_220 : decode cX8_send 220 = .ok (.sipush 313, 3) := by decide +kernel
theorem dX8_send_223 : decode cX8_send 223 = .ok (.bipush 10, 2) := by decide +kernel
theorem dX8_send_225 : decode cX8_send 225 = .ok (.iload_n 1, 1) := by decide +kernel
theorem dX8_send_226 : decode cX8_send 226 = .ok (.imul, 1) := by decide +kernel
theorem dX8_send_227 : decode cX8_send 227 = .ok (.iadd, 1) := by decide +kernel
theorem dX8_send_228 : decode cX8_send 228 = .ok (.iload_n 2, 1) := by decide +kernel
theorem dX8_send_229 : decode cX8_send 229 = .ok (.iadd, 1) := by decide +kernel
theorem dX8_send_230 : decode cX8_send 230 = .ok (.dup2, 1) := by decide +kernel
theorem dX8_send_231 : decode cX8_send 231 = .ok (.laload, 1) := by decide +kernel
theorem dX8_send_232 : decode cX8_send 232 = .ok (.lload 6, 2) := by decide +kernel
theorem dX8_send_234 : decode cX8_send 234 = .ok (.ladd, 1) := by decide +kernel
theorem dX8_send_235 : decode cX8_send 235 = .ok (.lastore, 1) := by decide +kernel
theorem dX8_send_236 : decode cX8_send 236 = .ok (.iload_n 3, 1) := by decide +kernel
theorem dX8_send_237 : decode cX8_send 237 = .ok (.ireturn, 1) := by decide +kernel
set_option maxRecDepth 20000 in
theorem ggX8_isLetter_X8_in : GoodIn wsX8_isLetter wsX8_in := goodIn_r _ [5] (by decide +kernel) (by decide +kernel)
set_option maxRecDepth 20000 in
theorem gX8_isLetter_X8_in : GoodIn wsX8_isLetter (va_wsS RX8 45 yX8_in wsX8_in) := goodIn_app (goodIn_of _ (by decide +kernel)) ggX8_isLetter_X8_in
set_option maxRecDepth 20000 in
theorem ggX8_isLetter_X8_isUnderWay : GoodIn wsX8_isLetter wsX8_isUnderWay := goodIn_r _ [9, 10, 11, 12, 13, 14, 15, 16, 17, 18, 19, 20, 21, 22, 23] (by decide +kernel) (by decide +kernel)
set_option maxRecDepth 20000 in
theorem gX8_isLetter_X8_isUnderWay : GoodIn wsX8_isLetter (wsV RX8 94 RX8 yX8_isUnderWay wsX8_isUnderWay) := goodIn_app (goodIn_of _ (by decide +kernel)) ggX8_isLetter_X8_isUnderWay
theorem dX8_isLetter_0 : decode cX8_isLetter 0 = .ok (.iload_n 1, 1) := by decide +kernel
theorem dX8_isLetter_1 : decode cX8_isLetter 1 = .ok (.i2l, 1) := by decide +kernel
theorem dX8_isLetter_2 : decode cX8_isLetter 2 = .ok (.lconst 0, 1) := by decide +kernel
theorem dX8_isLetter_3 : decode cX8_isLetter 3 = .ok (.ldc2_w 132, 3) := by decide +kernel
theorem dX8_isLetter_6 : decode cX8_isLetter 6 = .ok (.invokestatic 45, 3) := by decide +kernel
theorem dX8_isLetter_9 : decode cX8_isLetter 9 = .ok (.ifCond .eq 15, 3) := by decide +kernel
theorem dX8_isLetter_12 : decode cX8_isLetter 12 = .ok (.aload_n 0, 1) := by decide +kernel
theorem dX8_isLetter_13 : decode cX8_isLetter 13 = .ok (.iload_n 1, 1) := by decide +kernel
theorem dX8_isLetter_14 : decode cX8_isLetter 14 = .ok (.invokevirtual 94, 3) := by decide +kernel
theorem dX8_isLetter_17 : decode cX8_isLetter 17 = .ok (.ifCond .eq 7, 3) := by decide +kernel
theorem dX8_isLetter_20 : decode cX8_isLetter 20 = .ok (.iconst 1, 1) := by decide +kernel
theorem dX8_isLetter_21 : decode cX8_isLetter 21 = .ok (.goto 4, 3) := by decide +kernel
theorem dX8_isLetter_24 : decode cX8_isLetter 24 = .ok (.iconst 0, 1) := by decide +kernel
theorem dX8_isLetter_25 : decode cX8_isLetter 25 = .ok (.ireturn, 1) := by decide +kernel
set_option maxRecDepth 20000 in
theorem ggX8_bring_X8_isLetter : GoodIn wsX8_bring wsX8_isLetter := goodIn_r _ [6, 7, 8, 9, 5, 10, 11, 12, 13, 14, 1, 21, 22, 23, 24, 25, 26, 27, 28, 29, 30, 31, 32, 33] (by decide +kernel) (by decide +kernel)
set_option maxRecDepth 20000 in
theorem gX8_bring_X8_isLetter : GoodIn wsX8_bring (wsV RX8 134 RX8 yX8_isLetter wsX8_isLetter) := goodIn_app (goodIn_of _ (by decide +kernel)) ggX8_bring_X8_isLetter
set_option maxRecDepth 20000 in
theorem ggX8_bring_X8_keep : GoodIn wsX8_bring wsX8_keep := goodIn_r _ [18, 19, 20, 1, 21, 22, 23, 24, 25, 26, 27, 28, 29, 30, 31, 32, 33] (by decide +kernel) (by decide +kernel)
set_option maxRecDepth 20000 in
theorem gX8_bring_X8_keep : GoodIn wsX8_bring (wsV RX8 84 RX8 yX8_keep wsX8_keep) := goodIn_app (goodIn_of _ (by decide +kernel)) ggX8_bring_X8_keep
theorem dX8_bring_0 : decode cX8_bring 0 = .ok (.aload_n 0, 1) := by decide +kernel
theorem dX8_bring_1 : decode cX8_bring 1 = .ok (.iload_n 1, 1) := by decide +kernel
theorem dX8_bring_2 : decode cX8_bring 2 = .ok (.invokevirtual 134, 3) := by decide +kernel
theorem dX8_bring_5 : decode cX8_bring 5 = .ok (.ifCond .ne 5, 3) := by decide +kernel
theorem dX8_bring_8 : decode cX8_bring 8 = .ok (.iconst (-1), 1) := by decide +kernel
theorem dX8_bring_9 : decode cX8_bring 9 = .ok (.ireturn, 1) := by decide +kernel
theorem dX8_bring_10 : decode cX8_bring 10 = .ok (.aload_n 0, 1) := by decide +kernel
theorem dX8_bring_11 : decode cX8_bring 11 = .ok (.invokevirtual 84, 3) := by decide +kernel
theorem dX8_bring_14 : decode cX8_bring 14 = .ok (.sipush 173, 3) := by decide +kernel
theorem dX8_bring_17 : decode cX8_bring 17 = .ok (.iconst 5, 1) := by decide +kernel
theorem dX8_bring_18 : decode cX8_bring 18 = .ok (.iload_n 1, 1) := by decide +kernel
theorem dX8_bring_19 : decode cX8_bring 19 = .ok (.imul, 1) := by decide +kernel
theorem dX8_bring_20 : decode cX8_bring 20 = .ok (.iadd, 1) := by decide +kernel
theorem dX8_bring_21 : decode cX8_bring 21 = .ok (.istore_n 2, 1) := by decide +kernel
theorem dX8_bring_22 : decode cX8_bring 22 = .ok (.aload_n 0, 1) := by decide +kernel
theorem dX8_bring_23 : decode cX8_bring 23 = .ok (.getfield 7, 3) := by decide +kernel
theorem dX8_bring_26 : decode cX8_bring 26 = .ok (.iload_n 2, 1) := by decide +kernel
theorem dX8_bring_27 : decode cX8_bring 27 = .ok (.iconst 1, 1) := by decide +kernel
theorem dX8_bring_28 : decode cX8_bring 28 = .ok (.iadd, 1) := by decide +kernel
theorem dX8_bring_29 : decode cX8_bring 29 = .ok (.laload, 1) := by decide +kernel
theorem dX8_bring_30 : decode cX8_bring 30 = .ok (.l2i, 1) := by decide +kernel
theorem dX8_bring_31 : decode cX8_bring 31 = .ok (.istore_n 3, 1) := by decide +kernel
theorem dX8_bring_32 : decode cX8_bring 32 = .ok (.aload_n 0, 1) := by decide +kernel
theorem dX8_bring_33 : decode cX8_bring 33 = .ok (.getfield 7, 3) := by decide +kernel
theorem dX8_bring_36 : decode cX8_bring 36 = .ok (.iload_n 2, 1) := by decide +kernel
theorem dX8_bring_37 : decode cX8_bring 37 = .ok (.iconst 2, 1) := by decide +kernel
theorem dX8_bring_38 : decode cX8_bring 38 = .ok (.iadd, 1) := by decide +kernel
theorem dX8_bring_39 : decode cX8_bring 39 = .ok (.laload, 1) := by decide +kernel
theorem dX8_bring_40 : decode cX8_bring 40 = .ok (.l2i, 1) := by decide +kernel
theorem dX8_bring_41 : decode cX8_bring 41 = .ok (.istore 4, 2) := by decide +kernel
theorem dX8_bring_43 : decode cX8_bring 43 = .ok (.aload_n 0, 1) := by decide +kernel
theorem dX8_bring_44 : decode cX8_bring 44 = .ok (.getfield 7, 3) := by decide +kernel
theorem dX8_bring_47 : decode cX8_bring 47 = .ok (.bipush 33, 2) := by decide +kernel
theorem dX8_bring_49 : decode cX8_bring 49 = .ok (.iload 4, 2) := by decide +kernel
theorem dX8_bring_51 : decode cX8_bring 51 = .ok (.iadd, 1) := by decide +kernel
theorem dX8_bring_52 : decode cX8_bring 52 = .ok (.dup2, 1) := by decide +kernel
theorem dX8_bring_53 : decode cX8_bring 53 = .ok (.laload, 1) := by decide +kernel
theorem dX8_bring_54 : decode cX8_bring 54 = .ok (.aload_n 0, 1) := by decide +kernel
theorem dX8_bring_55 : decode cX8_bring 55 = .ok (.getfield 7, 3) := by decide +kernel
theorem dX8_bring_58 : decode cX8_bring 58 = .ok (.iload_n 2, 1) := by decide +kernel
theorem dX8_bring_59 : decode cX8_bring 59 = .ok (.iconst 3, 1) := by decide +kernel
theorem dX8_bring_60 : decode cX8_bring 60 = .ok (.iadd, 1) := by decide +kernel
theorem dX8_bring_61 : decode cX8_bring 61 = .ok (.laload, 1) := by decide +kernel
theorem dX8_bring_62 : decode cX8_bring 62 = .ok (.ladd, 1) := by decide +kernel
theorem dX8_bring_63 : decode cX8_bring 63 = .ok (.lastore, 1) := by decide +kernel
theorem dX8_bring_64 : decode cX8_bring 64 = .ok (.aload_n 0, 1) := by decide +kernel
theorem dX8_bring_65 : decode cX8_bring 65 = .ok (.getfield 7, 3) := by decide +kernel
theorem dX8_bring_68 : decode cX8_bring 68 = .ok (.bipush 43, 2) := by decide +kernel
theorem dX8_bring_70 : decode cX8_bring 70 = .ok (.iload 4, 2) := by decide +kernel
theorem dX8_bring_72 : decode cX8_bring 72 = .ok (.iadd, 1) := by decide +kernel
theorem dX8_bring_73 : decode cX8_bring 73 = .ok (.dup2, 1) := by decide +kernel
theorem dX8_bring_74 : decode cX8_bring 74 = .ok (.laload, 1) := by decide +kernel
theorem dX8_bring_75 : decode cX8_bring 75 = .ok (.aload_n 0, 1) := by decide +kernel
theorem dX8_bring_76 : decode cX8_bring 76 = .ok (.getfield 7, 3) := by decide +kernel
theorem dX8_bring_79 : decode cX8_bring 79 = .ok (.iload_n 2, 1) := by decide +kernel
theorem dX8_bring_80 : decode cX8_bring 80 = .ok (.iconst 4, 1) := by decide +kernel
theorem dX8_bring_81 : decode cX8_bring 81 = .ok (.iadd, 1) := by decide +kernel
theorem dX8_bring_82 : decode cX8_bring 82 = .ok (.laload, 1) := by decide +kernel
theorem dX8_bring_83 : decode cX8_bring 83 = .ok (.ladd, 1) := by decide +kernel
theorem dX8_bring_84 : decode cX8_bring 84 = .ok (.lastore, 1) := by decide +kernel
theorem dX8_bring_85 : decode cX8_bring 85 = .ok (.aload_n 0, 1) := by decide +kernel
theorem dX8_bring_86 : decode cX8_bring 86 = .ok (.getfield 7, 3) := by decide +kernel
theorem dX8_bring_89 : decode cX8_bring 89 = .ok (.sipush 213, 3) := by decide +kernel
theorem dX8_bring_92 : decode cX8_bring 92 = .ok (.bipush 10, 2) := by decide +kernel
theorem dX8_bring_94 : decode cX8_bring 94 = .ok (.iload 4, 2) := by decide +kernel
theorem dX8_bring_96 : decode cX8_bring 96 = .ok (.imul, 1) := by decide +kernel
theorem dX8_bring_97 : decode cX8_bring 97 = .ok (.iadd, 1) := by decide +kernel
theorem dX8_bring_98 : decode cX8_bring 98 = .ok (.iload_n 3, 1) := by decide +kernel
theorem dX8_bring_99 : decode cX8_bring 99 = .ok (.iadd, 1) := by decide +kernel
theorem dX8_bring_100 : decode cX8_bring 100 = .ok (.dup2, 1) := by decide +kernel
theorem dX8_bring_101 : decode cX8_bring 101 = .ok (.laload, 1) := by decide +kernel
theorem dX8_bring_102 : decode cX8_bring 102 = .ok (.aload_n 0, 1) := by decide +kernel
theorem dX8_bring_103 : decode cX8_bring 103 = .ok (.getfield 7, 3) := by decide +kernel
theorem dX8_bring_106 : decode cX8_bring 106 = .ok (.iload_n 2, 1) := by decide +kernel
theorem dX8_bring_107 : decode cX8_bring 107 = .ok (.iconst 3, 1) := by decide +kernel
theorem dX8_bring_108 : decode cX8_bring 108 = .ok (.iadd, 1) := by decide +kernel
theorem dX8_bring_109 : decode cX8_bring 109 = .ok (.laload, 1) := by decide +kernel
theorem dX8_bring_110 : decode cX8_bring 110 = .ok (.lsub, 1) := by decide +kernel
theorem dX8_bring_111 : decode cX8_bring 111 = .ok (.lastore, 1) := by decide +kernel
theorem dX8_bring_112 : decode cX8_bring 112 = .ok (.aload_n 0, 1) := by decide +kernel
theorem dX8_bring_113 : decode cX8_bring 113 = .ok (.getfield 7, 3) := by decide +kernel
theorem dX8_bring_116 : decode cX8_bring 116 = .ok (.sipush 313, 3) := by decide +kernel
theorem dX8_bring_119 : decode cX8_bring 119 = .ok (.bipush 10, 2) := by decide +kernel
theorem dX8_bring_121 : decode cX8_bring 121 = .ok (.iload 4, 2) := by decide +kernel
theorem dX8_bring_123 : decode cX8_bring 123 = .ok (.imul, 1) := by decide +kernel
theorem dX8_bring_124 : decode cX8_bring 124 = .ok (.iadd, 1) := by decide +kernel
theorem dX8_bring_125 : decode cX8_bring 125 = .ok (.iload_n 3, 1) := by decide +kernel
theorem dX8_bring_126 : decode cX8_bring 126 = .ok (.iadd, 1) := by decide +kernel
theorem dX8_bring_127 : decode cX8_bring 127 = .ok (.dup2, 1) := by decide +kernel
theorem dX8_bring_128 : decode cX8_bring 128 = .ok (.laload, 1) := by decide +kernel
theorem dX8_bring_129 : decode cX8_bring 129 = .ok (.aload_n 0, 1) := by decide +kernel
theorem dX8_bring_130 : decode cX8_bring 130 = .ok (.getfield 7, 3) := by decide +kernel
theorem dX8_bring_133 : decode cX8_bring 133 = .ok (.iload_n 2, 1) := by decide +kernel
theorem dX8_bring_134 : decode cX8_bring 134 = .ok (.iconst 4, 1) := by decide +kernel
theorem dX8_bring_135 : decode cX8_bring 135 = .ok (.iadd, 1) := by decide +kernel
theorem dX8_bring_136 : decode cX8_bring 136 = .ok (.laload, 1) := by decide +kernel
theorem dX8_bring_137 : decode cX8_bring 137 = .ok (.lsub, 1) := by decide +kernel
theorem dX8_bring_138 : decode cX8_bring 138 = .ok (.lastore, 1) := by decide +kernel
theorem dX8_bring_139 : decode cX8_bring 139 = .ok (.aload_n 0, 1) := by decide +kernel
theorem dX8_bring_140 : decode cX8_bring 140 = .ok (.getfield 7, 3) := by decide +kernel
theorem dX8_bring_143 : decode cX8_bring 143 = .ok (.iload_n 2, 1) := by decide +kernel
theorem dX8_bring_144 : decode cX8_bring 144 = .ok (.lconst 0, 1) := by decide +kernel
theorem dX8_bring_145 : decode cX8_bring 145 = .ok (.lastore, 1) := by decide +kernel
theorem dX8_bring_146 : decode cX8_bring 146 = .ok (.iload 4, 2) := by decide +kernel
theorem dX8_bring_148 : decode cX8_bring 148 = .ok (.ireturn, 1) := by decide +kernel
set_option maxRecDepth 20000 in
theorem ggX8_lose_X8_isLetter : GoodIn wsX8_lose wsX8_isLetter := goodIn_r _ [7, 8, 9, 10, 6, 11, 12, 13, 14, 15, 2, 22, 23, 24, 25, 26, 27, 28, 29, 30, 31, 32, 33, 34] (by decide +kernel) (by decide +kernel)
set_option maxRecDepth 20000 in
theorem gX8_lose_X8_isLetter : GoodIn wsX8_lose (wsV RX8 134 RX8 yX8_isLetter wsX8_isLetter) := goodIn_app (goodIn_of _ (by decide +kernel)) ggX8_lose_X8_isLetter
set_option maxRecDepth 20000 in
theorem ggX8_lose_X8_keep : GoodIn wsX8_lose wsX8_keep := goodIn_r _ [19, 20, 21, 2, 22, 23, 24, 25, 26, 27, 28, 29, 30, 31, 32, 33, 34] (by decide +kernel) (by decide +kernel)
set_option maxRecDepth 20000 in
theorem gX8_lose_X8_keep : GoodIn wsX8_lose (wsV RX8 84 RX8 yX8_keep wsX8_keep) := goodIn_app (goodIn_of _ (by decide +kernel)) ggX8_lose_X8_keep
theorem dX8_lose_0 : decode cX8_lose 0 = .ok (.aload_n 0, 1) := by decide +kernel
theorem dX8_lose_1 : decode cX8_lose 1 = .ok (.iload_n 1, 1) := by decide +kernel
theorem dX8_lose_2 : decode cX8_lose 2 = .ok (.invokevirtual 134, 3) := by decide +kernel
theorem dX8_lose_5 : decode cX8_lose 5 = .ok (.ifCond .ne 5, 3) := by decide +kernel
theorem dX8_lose_8 : decode cX8_lose 8 = .ok (.iconst (-1), 1) := by decide +kernel
theorem dX8_lose_9 : decode cX8_lose 9 = .ok (.ireturn, 1) := by decide +kernel
theorem dX8_lose_10 : decode cX8_lose 10 = .ok (.aload_n 0, 1) := by decide +kernel
theorem dX8_lose_11 : decode cX8_lose 11 = .ok (.invokevirtual 84, 3) := by decide +kernel
theorem dX8_lose_14 : decode cX8_lose 14 = .ok (.sipush 173, 3) := by decide +kernel
theorem dX8_lose_17 : decode cX8_lose 17 = .ok (.iconst 5, 1) := by decide +kernel
theorem dX8_lose_18 : decode cX8_lose 18 = .ok (.iload_n 1, 1) := by decide +kernel
theorem dX8_lose_19 : decode cX8_lose 19 = .ok (.imul, 1) := by decide +kernel
theorem dX8_lose_20 : decode cX8_lose 20 = .ok (.iadd, 1) := by decide +kernel
theorem dX8_lose_21 : decode cX8_lose 21 = .ok (.istore_n 2, 1) := by decide +kernel
theorem dX8_lose_22 : decode cX8_lose 22 = .ok (.ldc2_w 82, 3) := by decide +kernel
theorem dX8_lose_25 : decode cX8_lose 25 = .ok (.aload_n 0, 1) := by decide +kernel
theorem dX8_lose_26 : decode cX8_lose 26 = .ok (.getfield 7, 3) := by decide +kernel
theorem dX8_lose_29 : decode cX8_lose 29 = .ok (.iload_n 2, 1) := by decide +kernel
theorem dX8_lose_30 : decode cX8_lose 30 = .ok (.iconst 1, 1) := by decide +kernel
theorem dX8_lose_31 : decode cX8_lose 31 = .ok (.iadd, 1) := by decide +kernel
theorem dX8_lose_32 : decode cX8_lose 32 = .ok (.laload, 1) := by decide +kernel
theorem dX8_lose_33 : decode cX8_lose 33 = .ok (.lmul, 1) := by decide +kernel
theorem dX8_lose_34 : decode cX8_lose 34 = .ok (.aload_n 0, 1) := by decide +kernel
theorem dX8_lose_35 : decode cX8_lose 35 = .ok (.getfield 7, 3) := by decide +kernel
theorem dX8_lose_38 : decode cX8_lose 38 = .ok (.iload_n 2, 1) := by decide +kernel
theorem dX8_lose_39 : decode cX8_lose 39 = .ok (.iconst 2, 1) := by decide +kernel
theorem dX8_lose_40 : decode cX8_lose 40 = .ok (.iadd, 1) := by decide +kernel
theorem dX8_lose_41 : decode cX8_lose 41 = .ok (.laload, 1) := by decide +kernel
theorem dX8_lose_42 : decode cX8_lose 42 = .ok (.ladd, 1) := by decide +kernel
theorem dX8_lose_43 : decode cX8_lose 43 = .ok (.l2i, 1) := by decide +kernel
theorem dX8_lose_44 : decode cX8_lose 44 = .ok (.istore_n 3, 1) := by decide +kernel
theorem dX8_lose_45 : decode cX8_lose 45 = .ok (.aload_n 0, 1) := by decide +kernel
theorem dX8_lose_46 : decode cX8_lose 46 = .ok (.getfield 7, 3) := by decide +kernel
theorem dX8_lose_49 : decode cX8_lose 49 = .ok (.sipush 413, 3) := by decide +kernel
theorem dX8_lose_52 : decode cX8_lose 52 = .ok (.iload_n 3, 1) := by decide +kernel
theorem dX8_lose_53 : decode cX8_lose 53 = .ok (.iadd, 1) := by decide +kernel
theorem dX8_lose_54 : decode cX8_lose 54 = .ok (.dup2, 1) := by decide +kernel
theorem dX8_lose_55 : decode cX8_lose 55 = .ok (.laload, 1) := by decide +kernel
theorem dX8_lose_56 : decode cX8_lose 56 = .ok (.aload_n 0, 1) := by decide +kernel
theorem dX8_lose_57 : decode cX8_lose 57 = .ok (.getfield 7, 3) := by decide +kernel
theorem dX8_lose_60 : decode cX8_lose 60 = .ok (.iload_n 2, 1) := by decide +kernel
theorem dX8_lose_61 : decode cX8_lose 61 = .ok (.iconst 3, 1) := by decide +kernel
theorem dX8_lose_62 : decode cX8_lose 62 = .ok (.iadd, 1) := by decide +kernel
theorem dX8_lose_63 : decode cX8_lose 63 = .ok (.laload, 1) := by decide +kernel
theorem dX8_lose_64 : decode cX8_lose 64 = .ok (.ladd, 1) := by decide +kernel
theorem dX8_lose_65 : decode cX8_lose 65 = .ok (.lastore, 1) := by decide +kernel
theorem dX8_lose_66 : decode cX8_lose 66 = .ok (.aload_n 0, 1) := by decide +kernel
theorem dX8_lose_67 : decode cX8_lose 67 = .ok (.getfield 7, 3) := by decide +kernel
theorem dX8_lose_70 : decode cX8_lose 70 = .ok (.sipush 513, 3) := by decide +kernel
theorem dX8_lose_73 : decode cX8_lose 73 = .ok (.iload_n 3, 1) := by decide +kernel
theorem dX8_lose_74 : decode cX8_lose 74 = .ok (.iadd, 1) := by decide +kernel
theorem dX8_lose_75 : decode cX8_lose 75 = .ok (.dup2, 1) := by decide +kernel
theorem dX8_lose_76 : decode cX8_lose 76 = .ok (.laload, 1) := by decide +kernel
theorem dX8_lose_77 : decode cX8_lose 77 = .ok (.aload_n 0, 1) := by decide +kernel
theorem dX8_lose_78 : decode cX8_lose 78 = .ok (.getfield 7, 3) := by decide +kernel
theorem dX8_lose_81 : decode cX8_lose 81 = .ok (.iload_n 2, 1) := by decide +kernel
theorem dX8_lose_82 : decode cX8_lose 82 = .ok (.iconst 4, 1) := by decide +kernel
theorem dX8_lose_83 : decode cX8_lose 83 = .ok (.iadd, 1) := by decide +kernel
theorem dX8_lose_84 : decode cX8_lose 84 = .ok (.laload, 1) := by decide +kernel
theorem dX8_lose_85 : decode cX8_lose 85 = .ok (.ladd, 1) := by decide +kernel
theorem dX8_lose_86 : decode cX8_lose 86 = .ok (.lastore, 1) := by decide +kernel
theorem dX8_lose_87 : decode cX8_lose 87 = .ok (.aload_n 0, 1) := by decide +kernel
theorem dX8_lose_88 : decode cX8_lose 88 = .ok (.getfield 7, 3) := by decide +kernel
theorem dX8_lose_91 : decode cX8_lose 91 = .ok (.iload_n 2, 1) := by decide +kernel
theorem dX8_lose_92 : decode cX8_lose 92 = .ok (.lconst 0, 1) := by decide +kernel
theorem dX8_lose_93 : decode cX8_lose 93 = .ok (.lastore, 1) := by decide +kernel
theorem dX8_lose_94 : decode cX8_lose 94 = .ok (.aload_n 0, 1) := by decide +kernel
theorem dX8_lose_95 : decode cX8_lose 95 = .ok (.getfield 7, 3) := by decide +kernel
theorem dX8_lose_98 : decode cX8_lose 98 = .ok (.iload_n 2, 1) := by decide +kernel
theorem dX8_lose_99 : decode cX8_lose 99 = .ok (.iconst 1, 1) := by decide +kernel
theorem dX8_lose_100 : decode cX8_lose 100 = .ok (.iadd, 1) := by decide +kernel
theorem dX8_lose_101 : decode cX8_lose 101 = .ok (.laload, 1) := by decide +kernel
theorem dX8_lose_102 : decode cX8_lose 102 = .ok (.l2i, 1) := by decide +kernel
theorem dX8_lose_103 : decode cX8_lose 103 = .ok (.ireturn, 1) := by decide +kernel
set_option maxRecDepth 20000 in
theorem ggX8_seed_X8_keep : GoodIn wsX8_seed wsX8_keep := goodIn_r _ [6, 7, 8, 1, 9, 10, 11, 12, 13, 14, 15, 16, 17, 18, 19, 20, 21] (by decide +kernel) (by decide +kernel)
set_option maxRecDepth 20000 in
theorem gX8_seed_X8_keep : GoodIn wsX8_seed (wsV RX8 84 RX8 yX8_keep wsX8_keep) := goodIn_app (goodIn_of _ (by decide +kernel)) ggX8_seed_X8_keep
theorem dX8_seed_0 : decode cX8_seed 0 = .ok (.iload_n 1, 1) := by decide +kernel
theorem dX8_seed_1 : decode cX8_seed 1 = .ok (.ifCond .ge 5, 3) := by decide +kernel
theorem dX8_seed_4 : decode cX8_seed 4 = .ok (.iconst (-1), 1) := by decide +kernel
theorem dX8_seed_5 : decode cX8_seed 5 = .ok (.ireturn, 1) := by decide +kernel
theorem dX8_seed_6 : decode cX8_seed 6 = .ok (.aload_n 0, 1) := by decide +kernel
theorem dX8_seed_7 : decode cX8_seed 7 = .ok (.invokevirtual 84, 3) := by decide +kernel
theorem dX8_seed_10 : decode cX8_seed 10 = .ok (.aload_n 0, 1) := by decide +kernel
theorem dX8_seed_11 : decode cX8_seed 11 = .ok (.getfield 7, 3) := by decide +kernel
theorem dX8_seed_14 : decode cX8_seed 14 = .ok (.iconst 1, 1) := by decide +kernel
theorem dX8_seed_15 : decode cX8_seed 15 = .ok (.iload_n 1, 1) := by decide +kernel
theorem dX8_seed_16 : decode cX8_seed 16 = .ok (.i2l, 1) := by decide +kernel
theorem dX8_seed_17 : decode cX8_seed 17 = .ok (.lastore, 1) := by decide +kernel
theorem dX8_seed_18 : decode cX8_seed 18 = .ok (.iconst 1, 1) := by decide +kernel
theorem dX8_seed_19 : decode cX8_seed 19 = .ok (.ireturn, 1) := by decide +kernel
set_option maxRecDepth 20000 in
theorem ggX8_look_X8_areJoined : GoodIn wsX8_look wsX8_areJoined := goodIn_r _ [8, 9, 21, 22, 23, 24, 25, 26, 27, 28, 29, 30, 31, 32, 33] (by decide +kernel) (by decide +kernel)
set_option maxRecDepth 20000 in
theorem gX8_look_X8_areJoined : GoodIn wsX8_look (wsV RX8 59 RX8 yX8_areJoined wsX8_areJoined) := goodIn_app (goodIn_of _ (by decide +kernel)) ggX8_look_X8_areJoined
set_option maxRecDepth 20000 in
theorem ggX8_look_X8_isHere : GoodIn wsX8_look wsX8_isHere := goodIn_r _ [13, 9, 14, 15, 16, 7, 17, 18, 19, 20, 21, 22, 23, 24, 25, 26, 27, 28, 29, 30, 31, 32, 33] (by decide +kernel) (by decide +kernel)
set_option maxRecDepth 20000 in
theorem gX8_look_X8_isHere : GoodIn wsX8_look (wsV RX8 101 RX8 yX8_isHere wsX8_isHere) := goodIn_app (goodIn_of _ (by decide +kernel)) ggX8_look_X8_isHere
theorem dX8_look_0 : decode cX8_look 0 = .ok (.aload_n 0, 1) := by decide +kernel
theorem dX8_look_1 : decode cX8_look 1 = .ok (.iconst 0, 1) := by decide +kernel
theorem dX8_look_2 : decode cX8_look 2 = .ok (.putfield 137, 3) := by decide +kernel
theorem dX8_look_5 : decode cX8_look 5 = .ok (.iconst 0, 1) := by decide +kernel
theorem dX8_look_6 : decode cX8_look 6 = .ok (.istore_n 1, 1) := by decide +kernel
theorem dX8_look_7 : decode cX8_look 7 = .ok (.iload_n 1, 1) := by decide +kernel
theorem dX8_look_8 : decode cX8_look 8 = .ok (.bipush 10, 2) := by decide +kernel
theorem dX8_look_10 : decode cX8_look 10 = .ok (.if_icmp .ge 80, 3) := by decide +kernel
theorem dX8_look_13 : decode cX8_look 13 = .ok (.iload_n 1, 1) := by decide +kernel
theorem dX8_look_14 : decode cX8_look 14 = .ok (.iconst 1, 1) := by decide +kernel
theorem dX8_look_15 : decode cX8_look 15 = .ok (.iadd, 1) := by decide +kernel
theorem dX8_look_16 : decode cX8_look 16 = .ok (.istore_n 2, 1) := by decide +kernel
theorem dX8_look_17 : decode cX8_look 17 = .ok (.iload_n 2, 1) := by decide +kernel
theorem dX8_look_18 : decode cX8_look 18 = .ok (.bipush 10, 2) := by decide +kernel
theorem dX8_look_20 : decode cX8_look 20 = .ok (.if_icmp .ge 64, 3) := by decide +kernel
theorem dX8_look_23 : decode cX8_look 23 = .ok (.aload_n 0, 1) := by decide +kernel
theorem dX8_look_24 : decode cX8_look 24 = .ok (.iload_n 1, 1) := by decide +kernel
theorem dX8_look_25 : decode cX8_look 25 = .ok (.iload_n 2, 1) := by decide +kernel
theorem dX8_look_26 : decode cX8_look 26 = .ok (.invokevirtual 59, 3) := by decide +kernel
theorem dX8_look_29 : decode cX8_look 29 = .ok (.ifCond .eq 49, 3) := by decide +kernel
theorem dX8_look_32 : decode cX8_look 32 = .ok (.aload_n 0, 1) := by decide +kernel
theorem dX8_look_33 : decode cX8_look 33 = .ok (.iload_n 1, 1) := by decide +kernel
theorem dX8_look_34 : decode cX8_look 34 = .ok (.invokevirtual 101, 3) := by decide +kernel
theorem dX8_look_37 : decode cX8_look 37 = .ok (.ifCond .eq 41, 3) := by decide +kernel
theorem dX8_look_40 : decode cX8_look 40 = .ok (.aload_n 0, 1) := by decide +kernel
theorem dX8_look_41 : decode cX8_look 41 = .ok (.iload_n 2, 1) := by decide +kernel
theorem dX8_look_42 : decode cX8_look 42 = .ok (.invokevirtual 101, 3) := by decide +kernel
theorem dX8_look_45 : decode cX8_look 45 = .ok (.ifCond .eq 33, 3) := by decide +kernel
theorem dX8_look_48 : decode cX8_look 48 = .ok (.aload_n 0, 1) := by decide +kernel
theorem dX8_look_49 : decode cX8_look 49 = .ok (.getfield 22, 3) := by decide +kernel
theorem dX8_look_52 : decode cX8_look 52 = .ok (.aload_n 0, 1) := by decide +kernel
theorem dX8_look_53 : decode cX8_look 53 = .ok (.getfield 137, 3) := by decide +kernel
theorem dX8_look_56 : decode cX8_look 56 = .ok (.iload_n 1, 1) := by decide +kernel
theorem dX8_look_57 : decode cX8_look 57 = .ok (.iastore, 1) := by decide +kernel
theorem dX8_look_58 : decode cX8_look 58 = .ok (.aload_n 0, 1) := by decide +kernel
theorem dX8_look_59 : decode cX8_look 59 = .ok (.getfield 26, 3) := by decide +kernel
theorem dX8_look_62 : decode cX8_look 62 = .ok (.aload_n 0, 1) := by decide +kernel
theorem dX8_look_63 : decode cX8_look 63 = .ok (.getfield 137, 3) := by decide +kernel
theorem dX8_look_66 : decode cX8_look 66 = .ok (.iload_n 2, 1) := by decide +kernel
theorem dX8_look_67 : decode cX8_look 67 = .ok (.iastore, 1) := by decide +kernel
theorem dX8_look_68 : decode cX8_look 68 = .ok (.aload_n 0, 1) := by decide +kernel
theorem dX8_look_69 : decode cX8_look 69 = .ok (.dup, 1) := by decide +kernel
theorem dX8_look_70 : decode cX8_look 70 = .ok (.getfield 137, 3) := by decide +kernel
theorem dX8_look_73 : decode cX8_look 73 = .ok (.iconst 1, 1) := by decide +kernel
theorem dX8_look_74 : decode cX8_look 74 = .ok (.iadd, 1) := by decide +kernel
theorem dX8_look_75 : decode cX8_look 75 = .ok (.putfield 137, 3) := by decide +kernel
theorem dX8_look_78 : decode cX8_look 78 = .ok (.iinc 2 1, 3) := by decide +kernel
theorem dX8_look_81 : decode cX8_look 81 = .ok (.goto (-64), 3) := by decide +kernel
theorem dX8_look_84 : decode cX8_look 84 = .ok (.iinc 1 1, 3) := by decide +kernel
theorem dX8_look_87 : decode cX8_look 87 = .ok (.goto (-80), 3) := by decide +kernel
theorem dX8_look_90 : decode cX8_look 90 = .ok (.return_, 1) := by decide +kernel
set_option maxRecDepth 20000 in
theorem ggX8_draw_X8_in : GoodIn wsX8_draw wsX8_in := goodIn_r _ [9] (by decide +kernel) (by decide +kernel)
set_option maxRecDepth 20000 in
theorem gX8_draw_X8_in : GoodIn wsX8_draw (va_wsS RX8 45 yX8_in wsX8_in) := goodIn_app (goodIn_of _ (by decide +kernel)) ggX8_draw_X8_in
set_option maxRecDepth 20000 in
theorem ggX8_draw_X8_look : GoodIn wsX8_draw wsX8_look := goodIn_r _ [13, 3, 4, 5, 14, 15, 16, 8, 17, 18, 19, 20, 21, 22, 23, 24, 25, 26, 6, 7, 9, 62, 63, 64, 65, 66, 67, 68, 69, 70, 71, 72, 73, 74] (by decide +kernel) (by decide +kernel)
set_option maxRecDepth 20000 in
theorem gX8_draw_X8_look : GoodIn wsX8_draw (wsV RX8 142 RX8 yX8_look wsX8_look) := goodIn_app (goodIn_of _ (by decide +kernel)) ggX8_draw_X8_look
set_option maxRecDepth 20000 in
theorem ggX8_draw_X8_keep : GoodIn wsX8_draw wsX8_keep := goodIn_r _ [30, 31, 32, 18, 62, 63, 64, 65, 66, 67, 68, 69, 70, 71, 72, 73, 74] (by decide +kernel) (by decide +kernel)
set_option maxRecDepth 20000 in
theorem gX8_draw_X8_keep : GoodIn wsX8_draw (wsV RX8 84 RX8 yX8_keep wsX8_keep) := goodIn_app (goodIn_of _ (by decide +kernel)) ggX8_draw_X8_keep
set_option maxRecDepth 20000 in
theorem ggX8_draw_X8_drawn : GoodIn wsX8_draw wsX8_drawn := goodIn_r _ [36, 18, 37, 38, 39, 62, 63, 64, 65, 66, 67, 68, 69, 70, 71, 72, 73, 74] (by decide +kernel) (by decide +kernel)
set_option maxRecDepth 20000 in
theorem gX8_draw_X8_drawn : GoodIn wsX8_draw (wsV RX8 65 RX8 yX8_drawn wsX8_drawn) := goodIn_app (goodIn_of _ (by decide +kernel)) ggX8_draw_X8_drawn
set_option maxRecDepth 20000 in
theorem ggX8_draw_X8_talks : GoodIn wsX8_draw wsX8_talks := goodIn_r _ [43, 18, 44, 45, 46, 8, 47, 48, 49, 50, 51, 52, 53, 54, 55, 56, 57, 58, 59, 60, 61, 62, 63, 64, 65, 66, 67, 68, 69, 70, 71, 72, 73, 74] (by decide +kernel) (by decide +kernel)
set_option maxRecDepth 20000 in
theorem gX8_draw_X8_talks : GoodIn wsX8_draw (wsV RX8 129 RX8 yX8_talks wsX8_talks) := goodIn_app (goodIn_of _ (by decide +kernel)) ggX8_draw_X8_talks
theorem dX8_draw_0 : decode cX8_draw 0 = .ok (.iload_n 1, 1) := by decide +kernel
theorem dX8_draw_1 : decode cX8_draw 1 = .ok (.i2l, 1) := by decide +kernel
theorem dX8_draw_2 : decode cX8_draw 2 = .ok (.lconst 0, 1) := by decide +kernel
theorem dX8_draw_3 : decode cX8_draw 3 = .ok (.ldc2_w 127, 3) := by decide +kernel
theorem dX8_draw_6 : decode cX8_draw 6 = .ok (.invokestatic 45, 3) := by decide +kernel
theorem dX8_draw_9 : decode cX8_draw 9 = .ok (.ifCond .eq 15, 3) := by decide +kernel
theorem dX8_draw_12 : decode cX8_draw 12 = .ok (.iload_n 2, 1) := by decide +kernel
theorem dX8_draw_13 : decode cX8_draw 13 = .ok (.i2l, 1) := by decide +kernel
theorem dX8_draw_14 : decode cX8_draw 14 = .ok (.lconst 1, 1) := by decide +kernel
theorem dX8_draw_15 : decode cX8_draw 15 = .ok (.ldc2_w 140, 3) := by decide +kernel
theorem dX8_draw_18 : decode cX8_draw 18 = .ok (.invokestatic 45, 3) := by decide +kernel
theorem dX8_draw_21 : decode cX8_draw 21 = .ok (.ifCond .ne 5, 3) := by decide +kernel
theorem dX8_draw_24 : decode cX8_draw 24 = .ok (.iconst (-1), 1) := by decide +kernel
theorem dX8_draw_25 : decode cX8_draw 25 = .ok (.ireturn, 1) := by decide +kernel
theorem dX8_draw_26 : decode cX8_draw 26 = .ok (.aload_n 0, 1) := by decide +kernel
theorem dX8_draw_27 : decode cX8_draw 27 = .ok (.invokevirtual 142, 3) := by decide +kernel
theorem dX8_draw_30 : decode cX8_draw 30 = .ok (.aload_n 0, 1) := by decide +kernel
theorem dX8_draw_31 : decode cX8_draw 31 = .ok (.getfield 137, 3) := by decide +kernel
theorem dX8_draw_34 : decode cX8_draw 34 = .ok (.ifCond .ne 6, 3) := by decide +kernel
theorem dX8_draw_37 : decode cX8_draw 37 = .ok (.bipush (-2), 2) := by decide +kernel
theorem dX8_draw_39 : decode cX8_draw 39 = .ok (.ireturn, 1) := by decide +kernel
theorem dX8_draw_40 : decode cX8_draw 40 = .ok (.aload_n 0, 1) := by decide +kernel
theorem dX8_draw_41 : decode cX8_draw 41 = .ok (.invokevirtual 84, 3) := by decide +kernel
theorem dX8_draw_44 : decode cX8_draw 44 = .ok (.iconst 0, 1) := by decide +kernel
theorem dX8_draw_45 : decode cX8_draw 45 = .ok (.istore_n 3, 1) := by decide +kernel
theorem dX8_draw_46 : decode cX8_draw 46 = .ok (.iload_n 3, 1) := by decide +kernel
theorem dX8_draw_47 : decode cX8_draw 47 = .ok (.iload_n 2, 1) := by decide +kernel
theorem dX8_draw_48 : decode cX8_draw 48 = .ok (.if_icmp .ge 85, 3) := by decide +kernel
theorem dX8_draw_51 : decode cX8_draw 51 = .ok (.aload_n 0, 1) := by decide +kernel
theorem dX8_draw_52 : decode cX8_draw 52 = .ok (.invokevirtual 65, 3) := by decide +kernel
theorem dX8_draw_55 : decode cX8_draw 55 = .ok (.aload_n 0, 1) := by decide +kernel
theorem dX8_draw_56 : decode cX8_draw 56 = .ok (.getfield 137, 3) := by decide +kernel
theorem dX8_draw_59 : decode cX8_draw 59 = .ok (.irem, 1) := by decide +kernel
theorem dX8_draw_60 : decode cX8_draw 60 = .ok (.istore 4, 2) := by decide +kernel
theorem dX8_draw_62 : decode cX8_draw 62 = .ok (.aload_n 0, 1) := by decide +kernel
theorem dX8_draw_63 : decode cX8_draw 63 = .ok (.invokevirtual 65, 3) := by decide +kernel
theorem dX8_draw_66 : decode cX8_draw 66 = .ok (.iconst 2, 1) := by decide +kernel
theorem dX8_draw_67 : decode cX8_draw 67 = .ok (.irem, 1) := by decide +kernel
theorem dX8_draw_68 : decode cX8_draw 68 = .ok (.ifCond .ne 7, 3) := by decide +kernel
theorem dX8_draw_71 : decode cX8_draw 71 = .ok (.iconst 1, 1) := by decide +kernel
theorem dX8_draw_72 : decode cX8_draw 72 = .ok (.goto 4, 3) := by decide +kernel
theorem dX8_draw_75 : decode cX8_draw 75 = .ok (.iconst 0, 1) := by decide +kernel
theorem dX8_draw_76 : decode cX8_draw 76 = .ok (.istore 5, 2) := by decide +kernel
theorem dX8_draw_78 : decode cX8_draw 78 = .ok (.aload_n 0, 1) := by decide +kernel
theorem dX8_draw_79 : decode cX8_draw 79 = .ok (.iload_n 1, 1) := by decide +kernel
theorem dX8_draw_80 : decode cX8_draw 80 = .ok (.iload 5, 2) := by decide +kernel
theorem dX8_draw_82 : decode cX8_draw 82 = .ok (.ifCond .eq 13, 3) := by decide +kernel
theorem dX8_draw_85 : decode cX8_draw 85 = .ok (.aload_n 0, 1) := by decide +kernel
theorem dX8_draw_86 : decode cX8_draw 86 = .ok (.getfield 22, 3) := by decide +kernel
theorem dX8_draw_89 : decode cX8_draw 89 = .ok (.iload 4, 2) := by decide +kernel
theorem dX8_draw_91 : decode cX8_draw 91 = .ok (.iaload, 1) := by decide +kernel
theorem dX8_draw_92 : decode cX8_draw 92 = .ok (.goto 10, 3) := by decide +kernel
theorem dX8_draw_95 : decode cX8_draw 95 = .ok (.aload_n 0, 1) := by decide +kernel
theorem dX8_draw_96 : decode cX8_draw 96 = .ok (.getfield 26, 3) := by decide +kernel
theorem dX8_draw_99 : decode cX8_draw 99 = .ok (.iload 4, 2) := by decide +kernel
theorem dX8_draw_101 : decode cX8_draw 101 = .ok (.iaload, 1) := by decide +kernel
theorem dX8_draw_102 : decode cX8_draw 102 = .ok (.iload 5, 2) := by decide +kernel
theorem dX8_draw_104 : decode cX8_draw 104 = .ok (.ifCond .eq 13, 3) := by decide +kernel
theorem dX8_draw_107 : decode cX8_draw 107 = .ok (.aload_n 0, 1) := by decide +kernel
theorem dX8_draw_108 : decode cX8_draw 108 = .ok (.getfield 26, 3) := by decide +kernel
theorem dX8_draw_111 : decode cX8_draw 111 = .ok (.iload 4, 2) := by decide +kernel
theorem dX8_draw_113 : decode cX8_draw 113 = .ok (.iaload, 1) := by decide +kernel
theorem dX8_draw_114 : decode cX8_draw 114 = .ok (.goto 10, 3) := by decide +kernel
theorem dX8_draw_117 : decode cX8_draw 117 = .ok (.aload_n 0, 1) := by decide +kernel
theorem dX8_draw_118 : decode cX8_draw 118 = .ok (.getfield 22, 3) := by decide +kernel
theorem dX8_draw_121 : decode cX8_draw 121 = .ok (.iload 4, 2) := by decide +kernel
theorem dX8_draw_123 : decode cX8_draw 123 = .ok (.iaload, 1) := by decide +kernel
theorem dX8_draw_124 : decode cX8_draw 124 = .ok (.invokevirtual 129, 3) := by decide +kernel
theorem dX8_draw_127 : decode cX8_draw 127 = .ok (.iinc 3 1, 3) := by decide +kernel
theorem dX8_draw_130 : decode cX8_draw 130 = .ok (.goto (-84), 3) := by decide +kernel
theorem dX8_draw_133 : decode cX8_draw 133 = .ok (.iconst 1, 1) := by decide +kernel
theorem dX8_draw_134 : decode cX8_draw 134 = .ok (.ireturn, 1) := by decide +kernel
set_option maxRecDepth 20000 in
theorem ggX8_round_X8_in : GoodIn wsX8_round wsX8_in := goodIn_r _ [9] (by decide +kernel) (by decide +kernel)
set_option maxRecDepth 20000 in
theorem gX8_round_X8_in : GoodIn wsX8_round (va_wsS RX8 45 yX8_in wsX8_in) := goodIn_app (goodIn_of _ (by decide +kernel)) ggX8_round_X8_in
set_option maxRecDepth 20000 in
theorem ggX8_round_X8_look : GoodIn wsX8_round wsX8_look := goodIn_r _ [13, 3, 4, 5, 14, 15, 16, 8, 17, 18, 19, 20, 21, 22, 23, 24, 25, 26, 6, 7, 9, 55, 56, 57, 58, 59, 60, 61, 62, 63, 64, 65, 66, 67] (by decide +kernel) (by decide +kernel)
set_option maxRecDepth 20000 in
theorem gX8_round_X8_look : GoodIn wsX8_round (wsV RX8 142 RX8 yX8_look wsX8_look) := goodIn_app (goodIn_of _ (by decide +kernel)) ggX8_round_X8_look
set_option maxRecDepth 20000 in
theorem ggX8_round_X8_keep : GoodIn wsX8_round wsX8_keep := goodIn_r _ [30, 31, 32, 18, 55, 56, 57, 58, 59, 60, 61, 62, 63, 64, 65, 66, 67] (by decide +kernel) (by decide +kernel)
set_option maxRecDepth 20000 in
theorem gX8_round_X8_keep : GoodIn wsX8_round (wsV RX8 84 RX8 yX8_keep wsX8_keep) := goodIn_app (goodIn_of _ (by decide +kernel)) ggX8_round_X8_keep
set_option maxRecDepth 20000 in
theorem ggX8_round_X8_talks : GoodIn wsX8_round wsX8_talks := goodIn_r _ [36, 18, 37, 38, 39, 8, 40, 41, 42, 43, 44, 45, 46, 47, 48, 49, 50, 51, 52, 53, 54, 55, 56, 57, 58, 59, 60, 61, 62, 63, 64, 65, 66, 67] (by decide +kernel) (by decide +kernel)
set_option maxRecDepth 20000 in
theorem gX8_round_X8_talks : GoodIn wsX8_round (wsV RX8 129 RX8 yX8_talks wsX8_talks) := goodIn_app (goodIn_of _ (by decide +kernel)) ggX8_round_X8_talks
theorem dX8_round_0 : decode cX8_round 0 = .ok (.iload_n 1, 1) := by decide +kernel
theorem dX8_round_1 : decode cX8_round 1 = .ok (.i2l, 1) := by decide +kernel
theorem dX8_round_2 : decode cX8_round 2 = .ok (.lconst 0, 1) := by decide +kernel
theorem dX8_round_3 : decode cX8_round 3 = .ok (.ldc2_w 127, 3) := by decide +kernel
theorem dX8_round_6 : decode cX8_round 6 = .ok (.invokestatic 45, 3) := by decide +kernel
theorem dX8_round_9 : decode cX8_round 9 = .ok (.ifCond .eq 15, 3) := by decide +kernel
theorem dX8_round_12 : decode cX8_round 12 = .ok (.iload_n 2, 1) := by decide +kernel
theorem dX8_round_13 : decode cX8_round 13 = .ok (.i2l, 1) := by decide +kernel
theorem dX8_round_14 : decode cX8_round 14 = .ok (.lconst 1, 1) := by decide +kernel
theorem dX8_round_15 : decode cX8_round 15 = .ok (.ldc2_w 145, 3) := by decide +kernel
theorem dX8_round_18 : decode cX8_round 18 = .ok (.invokestatic 45, 3) := by decide +kernel
theorem dX8_round_21 : decode cX8_round 21 = .ok (.ifCond .ne 5, 3) := by decide +kernel
theorem dX8_round_24 : decode cX8_round 24 = .ok (.iconst (-1), 1) := by decide +kernel
theorem dX8_round_25 : decode cX8_round 25 = .ok (.ireturn, 1) := by decide +kernel
theorem dX8_round_26 : decode cX8_round 26 = .ok (.aload_n 0, 1) := by decide +kernel
theorem dX8_round_27 : decode cX8_round 27 = .ok (.invokevirtual 142, 3) := by decide +kernel
theorem dX8_round_30 : decode cX8_round 30 = .ok (.aload_n 0, 1) := by decide +kernel
theorem dX8_round_31 : decode cX8_round 31 = .ok (.getfield 137, 3) := by decide +kernel
theorem dX8_round_34 : decode cX8_round 34 = .ok (.ifCond .ne 6, 3) := by decide +kernel
theorem dX8_round_37 : decode cX8_round 37 = .ok (.bipush (-2), 2) := by decide +kernel
theorem dX8_round_39 : decode cX8_round 39 = .ok (.ireturn, 1) := by decide +kernel
theorem dX8_round_40 : decode cX8_round 40 = .ok (.aload_n 0, 1) := by decide +kernel
theorem dX8_round_41 : decode cX8_round 41 = .ok (.invokevirtual 84, 3) := by decide +kernel
theorem dX8_round_44 : decode cX8_round 44 = .ok (.iconst 0, 1) := by decide +kernel
theorem dX8_round_45 : decode cX8_round 45 = .ok (.istore_n 3, 1) := by decide +kernel
theorem dX8_round_46 : decode cX8_round 46 = .ok (.iload_n 3, 1) := by decide +kernel
theorem dX8_round_47 : decode cX8_round 47 = .ok (.iload_n 2, 1) := by decide +kernel
theorem dX8_round_48 : decode cX8_round 48 = .ok (.aload_n 0, 1) := by decide +kernel
theorem dX8_round_49 : decode cX8_round 49 = .ok (.getfield 137, 3) := by decide +kernel
theorem dX8_round_52 : decode cX8_round 52 = .ok (.imul, 1) := by decide +kernel
theorem dX8_round_53 : decode cX8_round 53 = .ok (.if_icmp .ge 36, 3) := by decide +kernel
theorem dX8_round_56 : decode cX8_round 56 = .ok (.aload_n 0, 1) := by decide +kernel
theorem dX8_round_57 : decode cX8_round 57 = .ok (.iload_n 1, 1) := by decide +kernel
theorem dX8_round_58 : decode cX8_round 58 = .ok (.aload_n 0, 1) := by decide +kernel
theorem dX8_round_59 : decode cX8_round 59 = .ok (.getfield 22, 3) := by decide +kernel
theorem dX8_round_62 : decode cX8_round 62 = .ok (.iload_n 3, 1) := by decide +kernel
theorem dX8_round_63 : decode cX8_round 63 = .ok (.aload_n 0, 1) := by decide +kernel
theorem dX8_round_64 : decode cX8_round 64 = .ok (.getfield 137, 3) := by decide +kernel
theorem dX8_round_67 : decode cX8_round 67 = .ok (.irem, 1) := by decide +kernel
theorem dX8_round_68 : decode cX8_round 68 = .ok (.iaload, 1) := by decide +kernel
theorem dX8_round_69 : decode cX8_round 69 = .ok (.aload_n 0, 1) := by decide +kernel
theorem dX8_round_70 : decode cX8_round 70 = .ok (.getfield 26, 3) := by decide +kernel
theorem dX8_round_73 : decode cX8_round 73 = .ok (.iload_n 3, 1) := by decide +kernel
theorem dX8_round_74 : decode cX8_round 74 = .ok (.aload_n 0, 1) := by decide +kernel
theorem dX8_round_75 : decode cX8_round 75 = .ok (.getfield 137, 3) := by decide +kernel
theorem dX8_round_78 : decode cX8_round 78 = .ok (.irem, 1) := by decide +kernel
theorem dX8_round_79 : decode cX8_round 79 = .ok (.iaload, 1) := by decide +kernel
theorem dX8_round_80 : decode cX8_round 80 = .ok (.invokevirtual 129, 3) := by decide +kernel
theorem dX8_round_83 : decode cX8_round 83 = .ok (.iinc 3 1, 3) := by decide +kernel
theorem dX8_round_86 : decode cX8_round 86 = .ok (.goto (-40), 3) := by decide +kernel
theorem dX8_round_89 : decode cX8_round 89 = .ok (.iconst 1, 1) := by decide +kernel
theorem dX8_round_90 : decode cX8_round 90 = .ok (.ireturn, 1) := by decide +kernel
set_option maxRecDepth 20000 in
theorem ggX8_here_X8_isHere : GoodIn wsX8_here wsX8_isHere := goodIn_r _ [5, 6, 7, 8, 9, 4, 10, 11, 12, 13, 14, 15, 16, 17, 18, 19, 20, 21, 22, 23, 24, 25, 26] (by decide +kernel) (by decide +kernel)
set_option maxRecDepth 20000 in
theorem gX8_here_X8_isHere : GoodIn wsX8_here (wsV RX8 101 RX8 yX8_isHere wsX8_isHere) := goodIn_app (goodIn_of _ (by decide +kernel)) ggX8_here_X8_isHere
theorem dX8_here_0 : decode cX8_here 0 = .ok (.iconst 0, 1) := by decide +kernel
theorem dX8_here_1 : decode cX8_here 1 = .ok (.istore_n 1, 1) := by decide +kernel
theorem dX8_here_2 : decode cX8_here 2 = .ok (.iconst 0, 1) := by decide +kernel
theorem dX8_here_3 : decode cX8_here 3 = .ok (.istore_n 2, 1) := by decide +kernel
theorem dX8_here_4 : decode cX8_here 4 = .ok (.iload_n 2, 1) := by decide +kernel
theorem dX8_here_5 : decode cX8_here 5 = .ok (.bipush 10, 2) := by decide +kernel
theorem dX8_here_7 : decode cX8_here 7 = .ok (.if_icmp .ge 25, 3) := by decide +kernel
theorem dX8_here_10 : decode cX8_here 10 = .ok (.iload_n 1, 1) := by decide +kernel
theorem dX8_here_11 : decode cX8_here 11 = .ok (.aload_n 0, 1) := by decide +kernel
theorem dX8_here_12 : decode cX8_here 12 = .ok (.iload_n 2, 1) := by decide +kernel
theorem dX8_here_13 : decode cX8_here 13 = .ok (.invokevirtual 101, 3) := by decide +kernel
theorem dX8_here_16 : decode cX8_here 16 = .ok (.ifCond .eq 7, 3) := by decide +kernel
theorem dX8_here_19 : decode cX8_here 19 = .ok (.iconst 1, 1) := by decide +kernel
theorem dX8_here_20 : decode cX8_here 20 = .ok (.goto 4, 3) := by decide +kernel
theorem dX8_here_23 : decode cX8_here 23 = .ok (.iconst 0, 1) := by decide +kernel
theorem dX8_here_24 : decode cX8_here 24 = .ok (.iadd, 1) := by decide +kernel
theorem dX8_here_25 : decode cX8_here 25 = .ok (.istore_n 1, 1) := by decide +kernel
theorem dX8_here_26 : decode cX8_here 26 = .ok (.iinc 2 1, 3) := by decide +kernel
theorem dX8_here_29 : decode cX8_here 29 = .ok (.goto (-25), 3) := by decide +kernel
theorem dX8_here_32 : decode cX8_here 32 = .ok (.iload_n 1, 1) := by decide +kernel
theorem dX8_here_33 : decode cX8_here 33 = .ok (.ireturn, 1) := by decide +kernel
set_option maxRecDepth 20000 in
theorem ggX8_fresh_X8_keep : GoodIn wsX8_fresh wsX8_keep := goodIn_r _ [6, 7, 8, 1, 35, 36, 37, 38, 39, 40, 41, 42, 43, 44, 45, 46, 47] (by decide +kernel) (by decide +kernel)
set_option maxRecDepth 20000 in
theorem gX8_fresh_X8_keep : GoodIn wsX8_fresh (wsV RX8 84 RX8 yX8_keep wsX8_keep) := goodIn_app (goodIn_of _ (by decide +kernel)) ggX8_fresh_X8_keep
set_option maxRecDepth 20000 in
theorem ggX8_fresh_X8_isHere : GoodIn wsX8_fresh wsX8_isHere := goodIn_r _ [12, 1, 13, 14, 15, 5, 16, 17, 18, 19, 35, 36, 37, 38, 39, 40, 41, 42, 43, 44, 45, 46, 47] (by decide +kernel) (by decide +kernel)
set_option maxRecDepth 20000 in
theorem gX8_fresh_X8_isHere : GoodIn wsX8_fresh (wsV RX8 101 RX8 yX8_isHere wsX8_isHere) := goodIn_app (goodIn_of _ (by decide +kernel)) ggX8_fresh_X8_isHere
set_option maxRecDepth 20000 in
theorem ggX8_fresh_X8_drawsTicket : GoodIn wsX8_fresh wsX8_drawsTicket := goodIn_r _ [23, 1, 24, 25, 26, 5, 27, 28, 29, 30, 35, 36, 37, 38, 39, 40, 41, 42, 43, 44, 45, 46, 47] (by decide +kernel) (by decide +kernel)
set_option maxRecDepth 20000 in
theorem gX8_fresh_X8_drawsTicket : GoodIn wsX8_fresh (wsV RX8 75 RX8 yX8_drawsTicket wsX8_drawsTicket) := goodIn_app (goodIn_of _ (by decide +kernel)) ggX8_fresh_X8_drawsTicket
set_option maxRecDepth 20000 in
theorem ggX8_fresh_X8_here : GoodIn wsX8_fresh wsX8_here := goodIn_r _ [34, 9, 10, 11, 5, 12, 1, 13, 14, 15, 16, 17, 18, 19, 35, 36, 37, 38, 39, 40, 41, 42, 43, 44, 45, 46, 47] (by decide +kernel) (by decide +kernel)
set_option maxRecDepth 20000 in
theorem gX8_fresh_X8_here : GoodIn wsX8_fresh (wsV RX8 147 RX8 yX8_here wsX8_here) := goodIn_app (goodIn_of _ (by decide +kernel)) ggX8_fresh_X8_here
theorem dX8_fresh_0 : decode cX8_fresh 0 = .ok (.aload_n 0, 1) := by decide +kernel
theorem dX8_fresh_1 : decode cX8_fresh 1 = .ok (.invokevirtual 84, 3) := by decide +kernel
theorem dX8_fresh_4 : decode cX8_fresh 4 = .ok (.iconst 0, 1) := by decide +kernel
theorem dX8_fresh_5 : decode cX8_fresh 5 = .ok (.istore_n 1, 1) := by decide +kernel
theorem dX8_fresh_6 : decode cX8_fresh 6 = .ok (.iload_n 1, 1) := by decide +kernel
theorem dX8_fresh_7 : decode cX8_fresh 7 = .ok (.bipush 10, 2) := by decide +kernel
theorem dX8_fresh_9 : decode cX8_fresh 9 = .ok (.if_icmp .ge 70, 3) := by decide +kernel
theorem dX8_fresh_12 : decode cX8_fresh 12 = .ok (.aload_n 0, 1) := by decide +kernel
theorem dX8_fresh_13 : decode cX8_fresh 13 = .ok (.iload_n 1, 1) := by decide +kernel
theorem dX8_fresh_14 : decode cX8_fresh 14 = .ok (.invokevirtual 101, 3) := by decide +kernel
theorem dX8_fresh_17 : decode cX8_fresh 17 = .ok (.ifCond .eq 56, 3) := by decide +kernel
theorem dX8_fresh_20 : decode cX8_fresh 20 = .ok (.aload_n 0, 1) := by decide +kernel
theorem dX8_fresh_21 : decode cX8_fresh 21 = .ok (.getfield 7, 3) := by decide +kernel
theorem dX8_fresh_24 : decode cX8_fresh 24 = .ok (.bipush 53, 2) := by decide +kernel
theorem dX8_fresh_26 : decode cX8_fresh 26 = .ok (.iload_n 1, 1) := by decide +kernel
theorem dX8_fresh_27 : decode cX8_fresh 27 = .ok (.iadd, 1) := by decide +kernel
theorem dX8_fresh_28 : decode cX8_fresh 28 = .ok (.aload_n 0, 1) := by decide +kernel
theorem dX8_fresh_29 : decode cX8_fresh 29 = .ok (.getfield 7, 3) := by decide +kernel
theorem dX8_fresh_32 : decode cX8_fresh 32 = .ok (.bipush 23, 2) := by decide +kernel
theorem dX8_fresh_34 : decode cX8_fresh 34 = .ok (.iload_n 1, 1) := by decide +kernel
theorem dX8_fresh_35 : decode cX8_fresh 35 = .ok (.iadd, 1) := by decide +kernel
theorem dX8_fresh_36 : decode cX8_fresh 36 = .ok (.laload, 1) := by decide +kernel
theorem dX8_fresh_37 : decode cX8_fresh 37 = .ok (.lastore, 1) := by decide +kernel
theorem dX8_fresh_38 : decode cX8_fresh 38 = .ok (.aload_n 0, 1) := by decide +kernel
theorem dX8_fresh_39 : decode cX8_fresh 39 = .ok (.getfield 7, 3) := by decide +kernel
theorem dX8_fresh_42 : decode cX8_fresh 42 = .ok (.bipush 63, 2) := by decide +kernel
theorem dX8_fresh_44 : decode cX8_fresh 44 = .ok (.iload_n 1, 1) := by decide +kernel
theorem dX8_fresh_45 : decode cX8_fresh 45 = .ok (.iadd, 1) := by decide +kernel
theorem dX8_fresh_46 : decode cX8_fresh 46 = .ok (.aload_n 0, 1) := by decide +kernel
theorem dX8_fresh_47 : decode cX8_fresh 47 = .ok (.getfield 7, 3) := by decide +kernel
theorem dX8_fresh_50 : decode cX8_fresh 50 = .ok (.bipush 23, 2) := by decide +kernel
theorem dX8_fresh_52 : decode cX8_fresh 52 = .ok (.iload_n 1, 1) := by decide +kernel
theorem dX8_fresh_53 : decode cX8_fresh 53 = .ok (.iadd, 1) := by decide +kernel
theorem dX8_fresh_54 : decode cX8_fresh 54 = .ok (.laload, 1) := by decide +kernel
theorem dX8_fresh_55 : decode cX8_fresh 55 = .ok (.lastore, 1) := by decide +kernel
theorem dX8_fresh_56 : decode cX8_fresh 56 = .ok (.aload_n 0, 1) := by decide +kernel
theorem dX8_fresh_57 : decode cX8_fresh 57 = .ok (.getfield 7, 3) := by decide +kernel
theorem dX8_fresh_60 : decode cX8_fresh 60 = .ok (.bipush 73, 2) := by decide +kernel
theorem dX8_fresh_62 : decode cX8_fresh 62 = .ok (.iload_n 1, 1) := by decide +kernel
theorem dX8_fresh_63 : decode cX8_fresh 63 = .ok (.iadd, 1) := by decide +kernel
theorem dX8_fresh_64 : decode cX8_fresh 64 = .ok (.lconst 1, 1) := by decide +kernel
theorem dX8_fresh_65 : decode cX8_fresh 65 = .ok (.iload_n 1, 1) := by decide +kernel
theorem dX8_fresh_66 : decode cX8_fresh 66 = .ok (.lshl, 1) := by decide +kernel
theorem dX8_fresh_67 : decode cX8_fresh 67 = .ok (.lastore, 1) := by decide +kernel
theorem dX8_fresh_68 : decode cX8_fresh 68 = .ok (.aload_n 0, 1) := by decide +kernel
theorem dX8_fresh_69 : decode cX8_fresh 69 = .ok (.iload_n 1, 1) := by decide +kernel
theorem dX8_fresh_70 : decode cX8_fresh 70 = .ok (.invokevirtual 75, 3) := by decide +kernel
theorem dX8_fresh_73 : decode cX8_fresh 73 = .ok (.iinc 1 1, 3) := by decide +kernel
theorem dX8_fresh_76 : decode cX8_fresh 76 = .ok (.goto (-70), 3) := by decide +kernel
theorem dX8_fresh_79 : decode cX8_fresh 79 = .ok (.aload_n 0, 1) := by decide +kernel
theorem dX8_fresh_80 : decode cX8_fresh 80 = .ok (.invokevirtual 147, 3) := by decide +kernel
theorem dX8_fresh_83 : decode cX8_fresh 83 = .ok (.ireturn, 1) := by decide +kernel
set_option maxRecDepth 20000 in
theorem ggX8_about_X8_isMember : GoodIn wsX8_about wsX8_isMember := goodIn_r _ [7, 2, 8, 9, 6, 10, 15, 16, 17, 18, 19, 20, 21, 22, 23, 24, 25, 26, 27] (by decide +kernel) (by decide +kernel)
set_option maxRecDepth 20000 in
theorem gX8_about_X8_isMember : GoodIn wsX8_about (wsV RX8 49 RX8 yX8_isMember wsX8_isMember) := goodIn_app (goodIn_of _ (by decide +kernel)) ggX8_about_X8_isMember
set_option maxRecDepth 20000 in
theorem ggX8_about_X8_in : GoodIn wsX8_about wsX8_in := goodIn_r _ [10] (by decide +kernel) (by decide +kernel)
set_option maxRecDepth 20000 in
theorem gX8_about_X8_in : GoodIn wsX8_about (va_wsS RX8 45 yX8_in wsX8_in) := goodIn_app (goodIn_of _ (by decide +kernel)) ggX8_about_X8_in
set_option maxRecDepth 20000 in
theorem ggX8_about_X8_isHere : GoodIn wsX8_about wsX8_isHere := goodIn_r _ [14, 2, 3, 4, 5, 6, 7, 8, 9, 10, 15, 16, 17, 18, 19, 20, 21, 22, 23, 24, 25, 26, 27] (by decide +kernel) (by decide +kernel)
set_option maxRecDepth 20000 in
theorem gX8_about_X8_isHere : GoodIn wsX8_about (wsV RX8 101 RX8 yX8_isHere wsX8_isHere) := goodIn_app (goodIn_of _ (by decide +kernel)) ggX8_about_X8_isHere
theorem dX8_about_0 : decode cX8_about 0 = .ok (.aload_n 0, 1) := by decide +kernel
theorem dX8_about_1 : decode cX8_about 1 = .ok (.iload_n 1, 1) := by decide +kernel
theorem dX8_about_2 : decode cX8_about 2 = .ok (.invokevirtual 49, 3) := by decide +kernel
theorem dX8_about_5 : decode cX8_about 5 = .ok (.ifCond .eq 15, 3) := by decide +kernel
theorem dX8_about_8 : decode cX8_about 8 = .ok (.iload_n 2, 1) := by decide +kernel
theorem dX8_about_9 : decode cX8_about 9 = .ok (.i2l, 1) := by decide +kernel
theorem dX8_about_10 : decode cX8_about 10 = .ok (.lconst 0, 1) := by decide +kernel
theorem dX8_about_11 : decode cX8_about 11 = .ok (.ldc2_w 150, 3) := by decide +kernel
theorem dX8_about_14 : decode cX8_about 14 = .ok (.invokestatic 45, 3) := by decide +kernel
theorem dX8_about_17 : decode cX8_about 17 = .ok (.ifCond .ne 5, 3) := by decide +kernel
theorem dX8_about_20 : decode cX8_about 20 = .ok (.iconst (-1), 1) := by decide +kernel
theorem dX8_about_21 : decode cX8_about 21 = .ok (.ireturn, 1) := by decide +kernel
theorem dX8_about_22 : decode cX8_about 22 = .ok (.iload_n 2, 1) := by decide +kernel
theorem dX8_about_23 : decode cX8_about 23 = .ok (.ifCond .ne 17, 3) := by decide +kernel
theorem dX8_about_26 : decode cX8_about 26 = .ok (.aload_n 0, 1) := by decide +kernel
theorem dX8_about_27 : decode cX8_about 27 = .ok (.iload_n 1, 1) := by decide +kernel
theorem dX8_about_28 : decode cX8_about 28 = .ok (.invokevirtual 101, 3) := by decide +kernel
theorem dX8_about_31 : decode cX8_about 31 = .ok (.ifCond .eq 7, 3) := by decide +kernel
theorem dX8_about_34 : decode cX8_about 34 = .ok (.iconst 1, 1) := by decide +kernel
theorem dX8_about_35 : decode cX8_about 35 = .ok (.goto 4, 3) := by decide +kernel
theorem dX8_about_38 : decode cX8_about 38 = .ok (.iconst 0, 1) := by decide +kernel
theorem dX8_about_39 : decode cX8_about 39 = .ok (.ireturn, 1) := by decide +kernel
theorem dX8_about_40 : decode cX8_about 40 = .ok (.aload_n 0, 1) := by decide +kernel
theorem dX8_about_41 : decode cX8_about 41 = .ok (.iload_n 1, 1) := by decide +kernel
theorem dX8_about_42 : decode cX8_about 42 = .ok (.invokevirtual 101, 3) := by decide +kernel
theorem dX8_about_45 : decode cX8_about 45 = .ok (.ifCond .ne 6, 3) := by decide +kernel
theorem dX8_about_48 : decode cX8_about 48 = .ok (.bipush (-2), 2) := by decide +kernel
theorem dX8_about_50 : decode cX8_about 50 = .ok (.ireturn, 1) := by decide +kernel
theorem dX8_about_51 : decode cX8_about 51 = .ok (.iload_n 2, 1) := by decide +kernel
theorem dX8_about_52 : decode cX8_about 52 = .ok (.tableswitch 76 1 4 #[32, 43, 54, 65], 32) := by decide +kernel
theorem dX8_about_84 : decode cX8_about 84 = .ok (.aload_n 0, 1) := by decide +kernel
theorem dX8_about_85 : decode cX8_about 85 = .ok (.getfield 7, 3) := by decide +kernel
theorem dX8_about_88 : decode cX8_about 88 = .ok (.bipush 23, 2) := by decide +kernel
theorem dX8_about_90 : decode cX8_about 90 = .ok (.iload_n 1, 1) := by decide +kernel
theorem dX8_about_91 : decode cX8_about 91 = .ok (.iadd, 1) := by decide +kernel
theorem dX8_about_92 : decode cX8_about 92 = .ok (.laload, 1) := by decide +kernel
theorem dX8_about_93 : decode cX8_about 93 = .ok (.l2i, 1) := by decide +kernel
theorem dX8_about_94 : decode cX8_about 94 = .ok (.ireturn, 1) := by decide +kernel
theorem dX8_about_95 : decode cX8_about 95 = .ok (.aload_n 0, 1) := by decide +kernel
theorem dX8_about_96 : decode cX8_about 96 = .ok (.getfield 7, 3) := by decide +kernel
theorem dX8_about_99 : decode cX8_about 99 = .ok (.bipush 53, 2) := by decide +kernel
theorem dX8_about_101 : decode cX8_about 101 = .ok (.iload_n 1, 1) := by decide +kernel
theorem dX8_about_102 : decode cX8_about 102 = .ok (.iadd, 1) := by decide +kernel
theorem dX8_about_103 : decode cX8_about 103 = .ok (.laload, 1) := by decide +kernel
theorem dX8_about_104 : decode cX8_about 104 = .ok (.l2i, 1) := by decide +kernel
theorem dX8_about_105 : decode cX8_about 105 = .ok (.ireturn, 1) := by decide +kernel
theorem dX8_about_106 : decode cX8_about 106 = .ok (.aload_n 0, 1) := by decide +kernel
theorem dX8_about_107 : decode cX8_about 107 = .ok (.getfield 7, 3) := by decide +kernel
theorem dX8_about_110 : decode cX8_about 110 = .ok (.bipush 63, 2) := by decide +kernel
theorem dX8_about_112 : decode cX8_about 112 = .ok (.iload_n 1, 1) := by decide +kernel
theorem dX8_about_113 : decode cX8_about 113 = .ok (.iadd, 1) := by decide +kernel
theorem dX8_about_114 : decode cX8_about 114 = .ok (.laload, 1) := by decide +kernel
theorem dX8_about_115 : decode cX8_about 115 = .ok (.l2i, 1) := by decide +kernel
theorem dX8_about_116 : decode cX8_about 116 = .ok (.ireturn, 1) := by decide +kernel
theorem dX8_about_117 : decode cX8_about 117 = .ok (.aload_n 0, 1) := by decide +kernel
theorem dX8_about_118 : decode cX8_about 118 = .ok (.getfield 7, 3) := by decide +kernel
theorem dX8_about_121 : decode cX8_about 121 = .ok (.bipush 73, 2) := by decide +kernel
theorem dX8_about_123 : decode cX8_about 123 = .ok (.iload_n 1, 1) := by decide +kernel
theorem dX8_about_124 : decode cX8_about 124 = .ok (.iadd, 1) := by decide +kernel
theorem dX8_about_125 : decode cX8_about 125 = .ok (.laload, 1) := by decide +kernel
theorem dX8_about_126 : decode cX8_about 126 = .ok (.l2i, 1) := by decide +kernel
theorem dX8_about_127 : decode cX8_about 127 = .ok (.ireturn, 1) := by decide +kernel
theorem dX8_about_128 : decode cX8_about 128 = .ok (.aload_n 0, 1) := by decide +kernel
theorem dX8_about_129 : decode cX8_about 129 = .ok (.getfield 7, 3) := by decide +kernel
theorem dX8_about_132 : decode cX8_about 132 = .ok (.bipush 83, 2) := by decide +kernel
theorem dX8_about_134 : decode cX8_about 134 = .ok (.iload_n 1, 1) := by decide +kernel
theorem dX8_about_135 : decode cX8_about 135 = .ok (.iadd, 1) := by decide +kernel
theorem dX8_about_136 : decode cX8_about 136 = .ok (.laload, 1) := by decide +kernel
theorem dX8_about_137 : decode cX8_about 137 = .ok (.l2i, 1) := by decide +kernel
theorem dX8_about_138 : decode cX8_about 138 = .ok (.ireturn, 1) := by decide +kernel
set_option maxRecDepth 20000 in
theorem ggX8_mass_X8_isHere : GoodIn wsX8_mass wsX8_isHere := goodIn_r _ [6, 1, 7, 8, 9, 5, 10, 11, 12, 13, 14, 15, 16, 17, 18, 19, 20, 21, 22, 23, 24, 25, 26] (by decide +kernel) (by decide +kernel)
set_option maxRecDepth 20000 in
theorem gX8_mass_X8_isHere : GoodIn wsX8_mass (wsV RX8 101 RX8 yX8_isHere wsX8_isHere) := goodIn_app (goodIn_of _ (by decide +kernel)) ggX8_mass_X8_isHere
theorem dX8_mass_0 : decode cX8_mass 0 = .ok (.aload_n 0, 1) := by decide +kernel
theorem dX8_mass_1 : decode cX8_mass 1 = .ok (.iload_n 1, 1) := by decide +kernel
theorem dX8_mass_2 : decode cX8_mass 2 = .ok (.invokevirtual 101, 3) := by decide +kernel
theorem dX8_mass_5 : decode cX8_mass 5 = .ok (.ifCond .ne 7, 3) := by decide +kernel
theorem dX8_mass_8 : decode cX8_mass 8 = .ok (.lconst 0, 1) := by decide +kernel
theorem dX8_mass_9 : decode cX8_mass 9 = .ok (.goto 28, 3) := by decide +kernel
theorem dX8_mass_12 : decode cX8_mass 12 = .ok (.iload_n 2, 1) := by decide +kernel
theorem dX8_mass_13 : decode cX8_mass 13 = .ok (.ifCond .eq 15, 3) := by decide +kernel
theorem dX8_mass_16 : decode cX8_mass 16 = .ok (.aload_n 0, 1) := by decide +kernel
theorem dX8_mass_17 : decode cX8_mass 17 = .ok (.getfield 7, 3) := by decide +kernel
theorem dX8_mass_20 : decode cX8_mass 20 = .ok (.bipush 43, 2) := by decide +kernel
theorem dX8_mass_22 : decode cX8_mass 22 = .ok (.iload_n 1, 1) := by decide +kernel
theorem dX8_mass_23 : decode cX8_mass 23 = .ok (.iadd, 1) := by decide +kernel
theorem dX8_mass_24 : decode cX8_mass 24 = .ok (.laload, 1) := by decide +kernel
theorem dX8_mass_25 : decode cX8_mass 25 = .ok (.goto 12, 3) := by decide +kernel
theorem dX8_mass_28 : decode cX8_mass 28 = .ok (.aload_n 0, 1) := by decide +kernel
theorem dX8_mass_29 : decode cX8_mass 29 = .ok (.getfield 7, 3) := by decide +kernel
theorem dX8_mass_32 : decode cX8_mass 32 = .ok (.bipush 33, 2) := by decide +kernel
theorem dX8_mass_34 : decode cX8_mass 34 = .ok (.iload_n 1, 1) := by decide +kernel
theorem dX8_mass_35 : decode cX8_mass 35 = .ok (.iadd, 1) := by decide +kernel
theorem dX8_mass_36 : decode cX8_mass 36 = .ok (.laload, 1) := by decide +kernel
theorem dX8_mass_37 : decode cX8_mass 37 = .ok (.lreturn, 1) := by decide +kernel
set_option maxRecDepth 20000 in
theorem ggX8_hasGuess_X8_isHere : GoodIn wsX8_hasGuess wsX8_isHere := goodIn_r _ [6, 1, 7, 8, 9, 5, 10, 11, 12, 13, 14, 15, 16, 17, 18, 19, 20, 21, 22, 23, 24, 25, 26] (by decide +kernel) (by decide +kernel)
set_option maxRecDepth 20000 in
theorem gX8_hasGuess_X8_isHere : GoodIn wsX8_hasGuess (wsV RX8 101 RX8 yX8_isHere wsX8_isHere) := goodIn_app (goodIn_of _ (by decide +kernel)) ggX8_hasGuess_X8_isHere
theorem dX8_hasGuess_0 : decode cX8_hasGuess 0 = .ok (.aload_n 0, 1) := by decide +kernel
theorem dX8_hasGuess_1 : decode cX8_hasGuess 1 = .ok (.iload_n 1, 1) := by decide +kernel
theorem dX8_hasGuess_2 : decode cX8_hasGuess 2 = .ok (.invokevirtual 101, 3) := by decide +kernel
theorem dX8_hasGuess_5 : decode cX8_hasGuess 5 = .ok (.ifCond .eq 21, 3) := by decide +kernel
theorem dX8_hasGuess_8 : decode cX8_hasGuess 8 = .ok (.aload_n 0, 1) := by decide +kernel
theorem dX8_hasGuess_9 : decode cX8_hasGuess 9 = .ok (.getfield 7, 3) := by decide +kernel
theorem dX8_hasGuess_12 : decode cX8_hasGuess 12 = .ok (.bipush 43, 2) := by decide +kernel
theorem dX8_hasGuess_14 : decode cX8_hasGuess 14 = .ok (.iload_n 1, 1) := by decide +kernel
theorem dX8_hasGuess_15 : decode cX8_hasGuess 15 = .ok (.iadd, 1) := by decide +kernel
theorem dX8_hasGuess_16 : decode cX8_hasGuess 16 = .ok (.laload, 1) := by decide +kernel
theorem dX8_hasGuess_17 : decode cX8_hasGuess 17 = .ok (.lconst 0, 1) := by decide +kernel
theorem dX8_hasGuess_18 : decode cX8_hasGuess 18 = .ok (.lcmp, 1) := by decide +kernel
theorem dX8_hasGuess_19 : decode cX8_hasGuess 19 = .ok (.ifCond .le 7, 3) := by decide +kernel
theorem dX8_hasGuess_22 : decode cX8_hasGuess 22 = .ok (.iconst 1, 1) := by decide +kernel
theorem dX8_hasGuess_23 : decode cX8_hasGuess 23 = .ok (.goto 4, 3) := by decide +kernel
theorem dX8_hasGuess_26 : decode cX8_hasGuess 26 = .ok (.iconst 0, 1) := by decide +kernel
theorem dX8_hasGuess_27 : decode cX8_hasGuess 27 = .ok (.ireturn, 1) := by decide +kernel
theorem dX8_guessed_0 : decode cX8_guessed 0 = .ok (.aload_n 0, 1) := by decide +kernel
theorem dX8_guessed_1 : decode cX8_guessed 1 = .ok (.getfield 7, 3) := by decide +kernel
theorem dX8_guessed_4 : decode cX8_guessed 4 = .ok (.bipush 33, 2) := by decide +kernel
theorem dX8_guessed_6 : decode cX8_guessed 6 = .ok (.iload_n 1, 1) := by decide +kernel
theorem dX8_guessed_7 : decode cX8_guessed 7 = .ok (.iadd, 1) := by decide +kernel
theorem dX8_guessed_8 : decode cX8_guessed 8 = .ok (.laload, 1) := by decide +kernel
theorem dX8_guessed_9 : decode cX8_guessed 9 = .ok (.l2d, 1) := by decide +kernel
theorem dX8_guessed_10 : decode cX8_guessed 10 = .ok (.aload_n 0, 1) := by decide +kernel
theorem dX8_guessed_11 : decode cX8_guessed 11 = .ok (.getfield 7, 3) := by decide +kernel
theorem dX8_guessed_14 : decode cX8_guessed 14 = .ok (.bipush 43, 2) := by decide +kernel
theorem dX8_guessed_16 : decode cX8_guessed 16 = .ok (.iload_n 1, 1) := by decide +kernel
theorem dX8_guessed_17 : decode cX8_guessed 17 = .ok (.iadd, 1) := by decide +kernel
theorem dX8_guessed_18 : decode cX8_guessed 18 = .ok (.laload, 1) := by decide +kernel
theorem dX8_guessed_19 : decode cX8_guessed 19 = .ok (.l2d, 1) := by decide +kernel
theorem dX8_guessed_20 : decode cX8_guessed 20 = .ok (.ddiv, 1) := by decide +kernel
theorem dX8_guessed_21 : decode cX8_guessed 21 = .ok (.dreturn, 1) := by decide +kernel
set_option maxRecDepth 20000 in
theorem ggX8_guess_X8_hasGuess : GoodIn wsX8_guess wsX8_hasGuess := goodIn_r _ [6, 7, 8, 9, 10, 5, 11, 12, 13, 14, 15, 16, 17, 18, 35, 36, 37, 38, 39, 40, 41, 42, 43, 44, 45, 46, 47] (by decide +kernel) (by decide +kernel)
set_option maxRecDepth 20000 in
theorem gX8_guess_X8_hasGuess : GoodIn wsX8_guess (wsV RX8 152 RX8 yX8_hasGuess wsX8_hasGuess) := goodIn_app (goodIn_of _ (by decide +kernel)) ggX8_guess_X8_hasGuess
set_option maxRecDepth 20000 in
theorem ggX8_guess_X8_guessed : GoodIn wsX8_guess wsX8_guessed := goodIn_r _ [22, 7, 35, 36, 37, 38, 39, 40, 41, 42, 43, 44, 45, 46, 47] (by decide +kernel) (by decide +kernel)
set_option maxRecDepth 20000 in
theorem gX8_guess_X8_guessed : GoodIn wsX8_guess (wsV RX8 155 RX8 yX8_guessed wsX8_guessed) := goodIn_app (goodIn_of _ (by decide +kernel)) ggX8_guess_X8_guessed
set_option maxRecDepth 20000 in
theorem ggX8_guess_Jxe99ae_doubleToLongBits_ccdee : GoodIn wsX8_guess wsJxe99ae_doubleToLongBits_ccdee := goodIn_r _ [26, 27, 28, 29, 30, 31, 32, 33, 25, 34] (by decide +kernel) (by decide +kernel)
set_option maxRecDepth 20000 in
theorem gX8_guess_Jxe99ae_doubleToLongBits_ccdee : GoodIn wsX8_guess (va_wsS RX8 159 yJxe99ae_doubleToLongBits_ccdee wsJxe99ae_doubleToLongBits_ccdee) := goodIn_app (goodIn_of _ (by decide +kernel)) ggX8_guess_Jxe99ae_doubleToLongBits_ccdee
theorem dX8_guess_0 : decode cX8_guess 0 = .ok (.aload_n 0, 1) := by decide +kernel
theorem dX8_guess_1 : decode cX8_guess 1 = .ok (.iload_n 1, 1) := by decide +kernel
theorem dX8_guess_2 : decode cX8_guess 2 = .ok (.invokevirtual 152, 3) := by decide +kernel
theorem dX8_guess_5 : decode cX8_guess 5 = .ok (.ifCond .eq 14, 3) := by decide +kernel
theorem dX8_guess_8 : decode cX8_guess 8 = .ok (.aload_n 0, 1) := by decide +kernel
theorem dX8_guess_9 : decode cX8_guess 9 = .ok (.iload_n 1, 1) := by decide +kernel
theorem dX8_guess_10 : decode cX8_guess 10 = .ok (.invokevirtual 155, 3) := by decide +kernel
theorem dX8_guess_13 : decode cX8_guess 13 = .ok (.invokestatic 159, 3) := by decide +kernel
theorem dX8_guess_16 : decode cX8_guess 16 = .ok (.goto 6, 3) := by decide +kernel
theorem dX8_guess_19 : decode cX8_guess 19 = .ok (.ldc2_w 63, 3) := by decide +kernel
theorem dX8_guess_22 : decode cX8_guess 22 = .ok (.lreturn, 1) := by decide +kernel
set_option maxRecDepth 20000 in
theorem ggX8_book_X8_isMember : GoodIn wsX8_book wsX8_isMember := goodIn_r _ [6, 1, 7, 8, 5, 9, 10, 11, 12, 13, 14, 15, 16, 17, 18, 19, 20, 21, 22] (by decide +kernel) (by decide +kernel)
set_option maxRecDepth 20000 in
theorem gX8_book_X8_isMember : GoodIn wsX8_book (wsV RX8 49 RX8 yX8_isMember wsX8_isMember) := goodIn_app (goodIn_of _ (by decide +kernel)) ggX8_book_X8_isMember
theorem dX8_book_0 : decode cX8_book 0 = .ok (.aload_n 0, 1) := by decide +kernel
theorem dX8_book_1 : decode cX8_book 1 = .ok (.iload_n 1, 1) := by decide +kernel
theorem dX8_book_2 : decode cX8_book 2 = .ok (.invokevirtual 49, 3) := by decide +kernel
theorem dX8_book_5 : decode cX8_book 5 = .ok (.ifCond .eq 11, 3) := by decide +kernel
theorem dX8_book_8 : decode cX8_book 8 = .ok (.aload_n 0, 1) := by decide +kernel
theorem dX8_book_9 : decode cX8_book 9 = .ok (.iload_n 2, 1) := by decide +kernel
theorem dX8_book_10 : decode cX8_book 10 = .ok (.invokevirtual 49, 3) := by decide +kernel
theorem dX8_book_13 : decode cX8_book 13 = .ok (.ifCond .ne 7, 3) := by decide +kernel
theorem dX8_book_16 : decode cX8_book 16 = .ok (.lconst 0, 1) := by decide +kernel
theorem dX8_book_17 : decode cX8_book 17 = .ok (.goto 28, 3) := by decide +kernel
theorem dX8_book_20 : decode cX8_book 20 = .ok (.aload_n 0, 1) := by decide +kernel
theorem dX8_book_21 : decode cX8_book 21 = .ok (.getfield 7, 3) := by decide +kernel
theorem dX8_book_24 : decode cX8_book 24 = .ok (.iload_n 3, 1) := by decide +kernel
theorem dX8_book_25 : decode cX8_book 25 = .ok (.ifCond .eq 9, 3) := by decide +kernel
theorem dX8_book_28 : decode cX8_book 28 = .ok (.sipush 313, 3) := by decide +kernel
theorem dX8_book_31 : decode cX8_book 31 = .ok (.goto 6, 3) := by decide +kernel
theorem dX8_book_34 : decode cX8_book 34 = .ok (.sipush 213, 3) := by decide +kernel
theorem dX8_book_37 : decode cX8_book 37 = .ok (.bipush 10, 2) := by decide +kernel
theorem dX8_book_39 : decode cX8_book 39 = .ok (.iload_n 1, 1) := by decide +kernel
theorem dX8_book_40 : decode cX8_book 40 = .ok (.imul, 1) := by decide +kernel
theorem dX8_book_41 : decode cX8_book 41 = .ok (.iadd, 1) := by decide +kernel
theorem dX8_book_42 : decode cX8_book 42 = .ok (.iload_n 2, 1) := by decide +kernel
theorem dX8_book_43 : decode cX8_book 43 = .ok (.iadd, 1) := by decide +kernel
theorem dX8_book_44 : decode cX8_book 44 = .ok (.laload, 1) := by decide +kernel
theorem dX8_book_45 : decode cX8_book 45 = .ok (.lreturn, 1) := by decide +kernel
set_option maxRecDepth 20000 in
theorem ggX8_letter_X8_isLetter : GoodIn wsX8_letter wsX8_isLetter := goodIn_r _ [8, 9, 10, 11, 7, 12, 13, 14, 15, 16, 2, 17, 18, 19, 20, 21, 22, 23, 24, 25, 26, 27, 28, 29] (by decide +kernel) (by decide +kernel)
set_option maxRecDepth 20000 in
theorem gX8_letter_X8_isLetter : GoodIn wsX8_letter (wsV RX8 134 RX8 yX8_isLetter wsX8_isLetter) := goodIn_app (goodIn_of _ (by decide +kernel)) ggX8_letter_X8_isLetter
set_option maxRecDepth 20000 in
theorem ggX8_letter_X8_in : GoodIn wsX8_letter wsX8_in := goodIn_r _ [12] (by decide +kernel) (by decide +kernel)
set_option maxRecDepth 20000 in
theorem gX8_letter_X8_in : GoodIn wsX8_letter (va_wsS RX8 45 yX8_in wsX8_in) := goodIn_app (goodIn_of _ (by decide +kernel)) ggX8_letter_X8_in
theorem dX8_letter_0 : decode cX8_letter 0 = .ok (.aload_n 0, 1) := by decide +kernel
theorem dX8_letter_1 : decode cX8_letter 1 = .ok (.iload_n 1, 1) := by decide +kernel
theorem dX8_letter_2 : decode cX8_letter 2 = .ok (.invokevirtual 134, 3) := by decide +kernel
theorem dX8_letter_5 : decode cX8_letter 5 = .ok (.ifCond .eq 34, 3) := by decide +kernel
theorem dX8_letter_8 : decode cX8_letter 8 = .ok (.iload_n 2, 1) := by decide +kernel
theorem dX8_letter_9 : decode cX8_letter 9 = .ok (.i2l, 1) := by decide +kernel
theorem dX8_letter_10 : decode cX8_letter 10 = .ok (.lconst 0, 1) := by decide +kernel
theorem dX8_letter_11 : decode cX8_letter 11 = .ok (.ldc2_w 165, 3) := by decide +kernel
theorem dX8_letter_14 : decode cX8_letter 14 = .ok (.invokestatic 45, 3) := by decide +kernel
theorem dX8_letter_17 : decode cX8_letter 17 = .ok (.ifCond .eq 22, 3) := by decide +kernel
theorem dX8_letter_20 : decode cX8_letter 20 = .ok (.aload_n 0, 1) := by decide +kernel
theorem dX8_letter_21 : decode cX8_letter 21 = .ok (.getfield 7, 3) := by decide +kernel
theorem dX8_letter_24 : decode cX8_letter 24 = .ok (.sipush 173, 3) := by decide +kernel
theorem dX8_letter_27 : decode cX8_letter 27 = .ok (.iconst 5, 1) := by decide +kernel
theorem dX8_letter_28 : decode cX8_letter 28 = .ok (.iload_n 1, 1) := by decide +kernel
theorem dX8_letter_29 : decode cX8_letter 29 = .ok (.imul, 1) := by decide +kernel
theorem dX8_letter_30 : decode cX8_letter 30 = .ok (.iadd, 1) := by decide +kernel
theorem dX8_letter_31 : decode cX8_letter 31 = .ok (.iconst 1, 1) := by decide +kernel
theorem dX8_letter_32 : decode cX8_letter 32 = .ok (.iadd, 1) := by decide +kernel
theorem dX8_letter_33 : decode cX8_letter 33 = .ok (.iload_n 2, 1) := by decide +kernel
theorem dX8_letter_34 : decode cX8_letter 34 = .ok (.iadd, 1) := by decide +kernel
theorem dX8_letter_35 : decode cX8_letter 35 = .ok (.laload, 1) := by decide +kernel
theorem dX8_letter_36 : decode cX8_letter 36 = .ok (.goto 6, 3) := by decide +kernel
theorem dX8_letter_39 : decode cX8_letter 39 = .ok (.ldc2_w 63, 3) := by decide +kernel
theorem dX8_letter_42 : decode cX8_letter 42 = .ok (.lreturn, 1) := by decide +kernel
theorem dX8_owed_0 : decode cX8_owed 0 = .ok (.lconst 0, 1) := by decide +kernel
theorem dX8_owed_1 : decode cX8_owed 1 = .ok (.lstore_n 2, 1) := by decide +kernel
theorem dX8_owed_2 : decode cX8_owed 2 = .ok (.iconst 0, 1) := by decide +kernel
theorem dX8_owed_3 : decode cX8_owed 3 = .ok (.istore 4, 2) := by decide +kernel
theorem dX8_owed_5 : decode cX8_owed 5 = .ok (.iload 4, 2) := by decide +kernel
theorem dX8_owed_7 : decode cX8_owed 7 = .ok (.bipush 100, 2) := by decide +kernel
theorem dX8_owed_9 : decode cX8_owed 9 = .ok (.if_icmp .ge 33, 3) := by decide +kernel
theorem dX8_owed_12 : decode cX8_owed 12 = .ok (.lload_n 2, 1) := by decide +kernel
theorem dX8_owed_13 : decode cX8_owed 13 = .ok (.aload_n 0, 1) := by decide +kernel
theorem dX8_owed_14 : decode cX8_owed 14 = .ok (.getfield 7, 3) := by decide +kernel
theorem dX8_owed_17 : decode cX8_owed 17 = .ok (.iload_n 1, 1) := by decide +kernel
theorem dX8_owed_18 : decode cX8_owed 18 = .ok (.ifCond .eq 9, 3) := by decide +kernel
theorem dX8_owed_21 : decode cX8_owed 21 = .ok (.sipush 513, 3) := by decide +kernel
theorem dX8_owed_24 : decode cX8_owed 24 = .ok (.goto 6, 3) := by decide +kernel
theorem dX8_owed_27 : decode cX8_owed 27 = .ok (.sipush 413, 3) := by decide +kernel
theorem dX8_owed_30 : decode cX8_owed 30 = .ok (.iload 4, 2) := by decide +kernel
theorem dX8_owed_32 : decode cX8_owed 32 = .ok (.iadd, 1) := by decide +kernel
theorem dX8_owed_33 : decode cX8_owed 33 = .ok (.laload, 1) := by decide +kernel
theorem dX8_owed_34 : decode cX8_owed 34 = .ok (.ladd, 1) := by decide +kernel
theorem dX8_owed_35 : decode cX8_owed 35 = .ok (.lstore_n 2, 1) := by decide +kernel
theorem dX8_owed_36 : decode cX8_owed 36 = .ok (.iinc 4 1, 3) := by decide +kernel
theorem dX8_owed_39 : decode cX8_owed 39 = .ok (.goto (-34), 3) := by decide +kernel
theorem dX8_owed_42 : decode cX8_owed 42 = .ok (.lload_n 2, 1) := by decide +kernel
theorem dX8_owed_43 : decode cX8_owed 43 = .ok (.lreturn, 1) := by decide +kernel
set_option maxRecDepth 20000 in
theorem ggX8_all_X8_owed : GoodIn wsX8_all wsX8_owed := goodIn_r _ [6, 1, 26, 27, 28, 29, 30, 31, 32, 33, 34, 35, 36, 37, 38] (by decide +kernel) (by decide +kernel)
set_option maxRecDepth 20000 in
theorem gX8_all_X8_owed : GoodIn wsX8_all (wsV RX8 167 RX8 yX8_owed wsX8_owed) := goodIn_app (goodIn_of _ (by decide +kernel)) ggX8_all_X8_owed
set_option maxRecDepth 20000 in
theorem ggX8_all_X8_mass : GoodIn wsX8_all wsX8_mass := goodIn_r _ [10, 1, 11, 12, 13, 5, 14, 15, 16, 17, 18, 19, 20, 21, 26, 27, 28, 29, 30, 31, 32, 33, 34, 35, 36, 37, 38] (by decide +kernel) (by decide +kernel)
set_option maxRecDepth 20000 in
theorem gX8_all_X8_mass : GoodIn wsX8_all (wsV RX8 171 RX8 yX8_mass wsX8_mass) := goodIn_app (goodIn_of _ (by decide +kernel)) ggX8_all_X8_mass
set_option maxRecDepth 20000 in
theorem ggX8_all_X8_isUnderWay : GoodIn wsX8_all wsX8_isUnderWay := goodIn_r _ [25, 1, 26, 27, 28, 29, 30, 31, 32, 33, 34, 35, 36, 37, 38] (by decide +kernel) (by decide +kernel)
set_option maxRecDepth 20000 in
theorem gX8_all_X8_isUnderWay : GoodIn wsX8_all (wsV RX8 94 RX8 yX8_isUnderWay wsX8_isUnderWay) := goodIn_app (goodIn_of _ (by decide +kernel)) ggX8_all_X8_isUnderWay
theorem dX8_all_0 : decode cX8_all 0 = .ok (.aload_n 0, 1) := by decide +kernel
theorem dX8_all_1 : decode cX8_all 1 = .ok (.iload_n 1, 1) := by decide +kernel
theorem dX8_all_2 : decode cX8_all 2 = .ok (.invokevirtual 167, 3) := by decide +kernel
theorem dX8_all_5 : decode cX8_all 5 = .ok (.lstore_n 2, 1) := by decide +kernel
theorem dX8_all_6 : decode cX8_all 6 = .ok (.iconst 0, 1) := by decide +kernel
theorem dX8_all_7 : decode cX8_all 7 = .ok (.istore 4, 2) := by decide +kernel
theorem dX8_all_9 : decode cX8_all 9 = .ok (.iload 4, 2) := by decide +kernel
theorem dX8_all_11 : decode cX8_all 11 = .ok (.bipush 10, 2) := by decide +kernel
theorem dX8_all_13 : decode cX8_all 13 = .ok (.if_icmp .ge 19, 3) := by decide +kernel
theorem dX8_all_16 : decode cX8_all 16 = .ok (.lload_n 2, 1) := by decide +kernel
theorem dX8_all_17 : decode cX8_all 17 = .ok (.aload_n 0, 1) := by decide +kernel
theorem dX8_all_18 : decode cX8_all 18 = .ok (.iload 4, 2) := by decide +kernel
theorem dX8_all_20 : decode cX8_all 20 = .ok (.iload_n 1, 1) := by decide +kernel
theorem dX8_all_21 : decode cX8_all 21 = .ok (.invokevirtual 171, 3) := by decide +kernel
theorem dX8_all_24 : decode cX8_all 24 = .ok (.ladd, 1) := by decide +kernel
theorem dX8_all_25 : decode cX8_all 25 = .ok (.lstore_n 2, 1) := by decide +kernel
theorem dX8_all_26 : decode cX8_all 26 = .ok (.iinc 4 1, 3) := by decide +kernel
theorem dX8_all_29 : decode cX8_all 29 = .ok (.goto (-20), 3) := by decide +kernel
theorem dX8_all_32 : decode cX8_all 32 = .ok (.iconst 0, 1) := by decide +kernel
theorem dX8_all_33 : decode cX8_all 33 = .ok (.istore 4, 2) := by decide +kernel
theorem dX8_all_35 : decode cX8_all 35 = .ok (.iload 4, 2) := by decide +kernel
theorem dX8_all_37 : decode cX8_all 37 = .ok (.bipush 8, 2) := by decide +kernel
theorem dX8_all_39 : decode cX8_all 39 = .ok (.if_icmp .ge 48, 3) := by decide +kernel
theorem dX8_all_42 : decode cX8_all 42 = .ok (.lload_n 2, 1) := by decide +kernel
theorem dX8_all_43 : decode cX8_all 43 = .ok (.aload_n 0, 1) := by decide +kernel
theorem dX8_all_44 : decode cX8_all 44 = .ok (.iload 4, 2) := by decide +kernel
theorem dX8_all_46 : decode cX8_all 46 = .ok (.invokevirtual 94, 3) := by decide +kernel
theorem dX8_all_49 : decode cX8_all 49 = .ok (.ifCond .eq 29, 3) := by decide +kernel
theorem dX8_all_52 : decode cX8_all 52 = .ok (.aload_n 0, 1) := by decide +kernel
theorem dX8_all_53 : decode cX8_all 53 = .ok (.getfield 7, 3) := by decide +kernel
theorem dX8_all_56 : decode cX8_all 56 = .ok (.sipush 173, 3) := by decide +kernel
theorem dX8_all_59 : decode cX8_all 59 = .ok (.iconst 5, 1) := by decide +kernel
theorem dX8_all_60 : decode cX8_all 60 = .ok (.iload 4, 2) := by decide +kernel
theorem dX8_all_62 : decode cX8_all 62 = .ok (.imul, 1) := by decide +kernel
theorem dX8_all_63 : decode cX8_all 63 = .ok (.iadd, 1) := by decide +kernel
theorem dX8_all_64 : decode cX8_all 64 = .ok (.iload_n 1, 1) := by decide +kernel
theorem dX8_all_65 : decode cX8_all 65 = .ok (.ifCond .eq 7, 3) := by decide +kernel
theorem dX8_all_68 : decode cX8_all 68 = .ok (.iconst 4, 1) := by decide +kernel
theorem dX8_all_69 : decode cX8_all 69 = .ok (.goto 4, 3) := by decide +kernel
theorem dX8_all_72 : decode cX8_all 72 = .ok (.iconst 3, 1) := by decide +kernel
theorem dX8_all_73 : decode cX8_all 73 = .ok (.iadd, 1) := by decide +kernel
theorem dX8_all_74 : decode cX8_all 74 = .ok (.laload, 1) := by decide +kernel
theorem dX8_all_75 : decode cX8_all 75 = .ok (.goto 4, 3) := by decide +kernel
theorem dX8_all_78 : decode cX8_all 78 = .ok (.lconst 0, 1) := by decide +kernel
theorem dX8_all_79 : decode cX8_all 79 = .ok (.ladd, 1) := by decide +kernel
theorem dX8_all_80 : decode cX8_all 80 = .ok (.lstore_n 2, 1) := by decide +kernel
theorem dX8_all_81 : decode cX8_all 81 = .ok (.iinc 4 1, 3) := by decide +kernel
theorem dX8_all_84 : decode cX8_all 84 = .ok (.goto (-49), 3) := by decide +kernel
theorem dX8_all_87 : decode cX8_all 87 = .ok (.lload_n 2, 1) := by decide +kernel
theorem dX8_all_88 : decode cX8_all 88 = .ok (.lreturn, 1) := by decide +kernel
set_option maxRecDepth 20000 in
theorem ggX8_far_X8_hasGuess : GoodIn wsX8_far wsX8_hasGuess := goodIn_r _ [6, 7, 8, 9, 10, 5, 11, 12, 13, 14, 15, 16, 17, 18, 35, 36, 37, 38, 39, 40, 41, 42, 43, 44, 45, 46, 47] (by decide +kernel) (by decide +kernel)
set_option maxRecDepth 20000 in
theorem gX8_far_X8_hasGuess : GoodIn wsX8_far (wsV RX8 152 RX8 yX8_hasGuess wsX8_hasGuess) := goodIn_app (goodIn_of _ (by decide +kernel)) ggX8_far_X8_hasGuess
set_option maxRecDepth 20000 in
theorem ggX8_far_X8_guessed : GoodIn wsX8_far wsX8_guessed := goodIn_r _ [22, 7, 35, 36, 37, 38, 39, 40, 41, 42, 43, 44, 45, 46, 47] (by decide +kernel) (by decide +kernel)
set_option maxRecDepth 20000 in
theorem gX8_far_X8_guessed : GoodIn wsX8_far (wsV RX8 155 RX8 yX8_guessed wsX8_guessed) := goodIn_app (goodIn_of _ (by decide +kernel)) ggX8_far_X8_guessed
set_option maxRecDepth 20000 in
theorem ggX8_far_Jxe99ae_doubleToLongBits_ccdee : GoodIn wsX8_far wsJxe99ae_doubleToLongBits_ccdee := goodIn_r _ [26, 27, 28, 29, 30, 31, 32, 33, 25, 34] (by decide +kernel) (by decide +kernel)
set_option maxRecDepth 20000 in
theorem gX8_far_Jxe99ae_doubleToLongBits_ccdee : GoodIn wsX8_far (va_wsS RX8 159 yJxe99ae_doubleToLongBits_ccdee wsJxe99ae_doubleToLongBits_ccdee) := goodIn_app (goodIn_of _ (by decide +kernel)) ggX8_far_Jxe99ae_doubleToLongBits_ccdee
theorem dX8_far_0 : decode cX8_far 0 = .ok (.iconst 0, 1) := by decide +kernel
theorem dX8_far_1 : decode cX8_far 1 = .ok (.istore_n 1, 1) := by decide +kernel
theorem dX8_far_2 : decode cX8_far 2 = .ok (.dconst 0, 1) := by decide +kernel
theorem dX8_far_3 : decode cX8_far 3 = .ok (.dstore_n 2, 1) := by decide +kernel
theorem dX8_far_4 : decode cX8_far 4 = .ok (.dconst 0, 1) := by decide +kernel
theorem dX8_far_5 : decode cX8_far 5 = .ok (.dstore 4, 2) := by decide +kernel
theorem dX8_far_7 : decode cX8_far 7 = .ok (.iconst 0, 1) := by decide +kernel
theorem dX8_far_8 : decode cX8_far 8 = .ok (.istore 6, 2) := by decide +kernel
theorem dX8_far_10 : decode cX8_far 10 = .ok (.iload 6, 2) := by decide +kernel
theorem dX8_far_12 : decode cX8_far 12 = .ok (.bipush 10, 2) := by decide +kernel
theorem dX8_far_14 : decode cX8_far 14 = .ok (.if_icmp .ge 67, 3) := by decide +kernel
theorem dX8_far_17 : decode cX8_far 17 = .ok (.aload_n 0, 1) := by decide +kernel
theorem dX8_far_18 : decode cX8_far 18 = .ok (.iload 6, 2) := by decide +kernel
theorem dX8_far_20 : decode cX8_far 20 = .ok (.invokevirtual 152, 3) := by decide +kernel
theorem dX8_far_23 : decode cX8_far 23 = .ok (.ifCond .eq 52, 3) := by decide +kernel
theorem dX8_far_26 : decode cX8_far 26 = .ok (.aload_n 0, 1) := by decide +kernel
theorem dX8_far_27 : decode cX8_far 27 = .ok (.iload 6, 2) := by decide +kernel
theorem dX8_far_29 : decode cX8_far 29 = .ok (.invokevirtual 155, 3) := by decide +kernel
theorem dX8_far_32 : decode cX8_far 32 = .ok (.dstore 7, 2) := by decide +kernel
theorem dX8_far_34 : decode cX8_far 34 = .ok (.iload_n 1, 1) := by decide +kernel
theorem dX8_far_35 : decode cX8_far 35 = .ok (.ifCond .eq 10, 3) := by decide +kernel
theorem dX8_far_38 : decode cX8_far 38 = .ok (.dload 7, 2) := by decide +kernel
theorem dX8_far_40 : decode cX8_far 40 = .ok (.dload_n 2, 1) := by decide +kernel
theorem dX8_far_41 : decode cX8_far 41 = .ok (.dcmp .l, 1) := by decide +kernel
theorem dX8_far_42 : decode cX8_far 42 = .ok (.ifCond .le 8, 3) := by decide +kernel
theorem dX8_far_45 : decode cX8_far 45 = .ok (.dload 7, 2) := by decide +kernel
theorem dX8_far_47 : decode cX8_far 47 = .ok (.goto 4, 3) := by decide +kernel
theorem dX8_far_50 : decode cX8_far 50 = .ok (.dload_n 2, 1) := by decide +kernel
theorem dX8_far_51 : decode cX8_far 51 = .ok (.dstore_n 2, 1) := by decide +kernel
theorem dX8_far_52 : decode cX8_far 52 = .ok (.iload_n 1, 1) := by decide +kernel
theorem dX8_far_53 : decode cX8_far 53 = .ok (.ifCond .eq 11, 3) := by decide +kernel
theorem dX8_far_56 : decode cX8_far 56 = .ok (.dload 7, 2) := by decide +kernel
theorem dX8_far_58 : decode cX8_far 58 = .ok (.dload 4, 2) := by decide +kernel
theorem dX8_far_60 : decode cX8_far 60 = .ok (.dcmp .g, 1) := by decide +kernel
theorem dX8_far_61 : decode cX8_far 61 = .ok (.ifCond .ge 8, 3) := by decide +kernel
theorem dX8_far_64 : decode cX8_far 64 = .ok (.dload 7, 2) := by decide +kernel
theorem dX8_far_66 : decode cX8_far 66 = .ok (.goto 5, 3) := by decide +kernel
theorem dX8_far_69 : decode cX8_far 69 = .ok (.dload 4, 2) := by decide +kernel
theorem dX8_far_71 : decode cX8_far 71 = .ok (.dstore 4, 2) := by decide +kernel
theorem dX8_far_73 : decode cX8_far 73 = .ok (.iconst 1, 1) := by decide +kernel
theorem dX8_far_74 : decode cX8_far 74 = .ok (.istore_n 1, 1) := by decide +kernel
theorem dX8_far_75 : decode cX8_far 75 = .ok (.iinc 6 1, 3) := by decide +kernel
theorem dX8_far_78 : decode cX8_far 78 = .ok (.goto (-68), 3) := by decide +kernel
theorem dX8_far_81 : decode cX8_far 81 = .ok (.iload_n 1, 1) := by decide +kernel
theorem dX8_far_82 : decode cX8_far 82 = .ok (.ifCond .eq 13, 3) := by decide +kernel
theorem dX8_far_85 : decode cX8_far 85 = .ok (.dload_n 2, 1) := by decide +kernel
theorem dX8_far_86 : decode cX8_far 86 = .ok (.dload 4, 2) := by decide +kernel
theorem dX8_far_88 : decode cX8_far 88 = .ok (.dsub, 1) := by decide +kernel
theorem dX8_far_89 : decode cX8_far 89 = .ok (.invokestatic 159, 3) := by decide +kernel
theorem dX8_far_92 : decode cX8_far 92 = .ok (.goto 6, 3) := by decide +kernel
theorem dX8_far_95 : decode cX8_far 95 = .ok (.ldc2_w 63, 3) := by decide +kernel
theorem dX8_far_98 : decode cX8_far 98 = .ok (.lreturn, 1) := by decide +kernel
set_option maxRecDepth 20000 in
theorem ggX8_unsure_X8_isHere : GoodIn wsX8_unsure wsX8_isHere := goodIn_r _ [7, 1, 8, 9, 10, 6, 11, 12, 13, 14, 15, 16, 17, 18, 19, 20, 21, 22, 23, 24, 25, 26, 27] (by decide +kernel) (by decide +kernel)
set_option maxRecDepth 20000 in
theorem gX8_unsure_X8_isHere : GoodIn wsX8_unsure (wsV RX8 101 RX8 yX8_isHere wsX8_isHere) := goodIn_app (goodIn_of _ (by decide +kernel)) ggX8_unsure_X8_isHere
theorem dX8_unsure_0 : decode cX8_unsure 0 = .ok (.lconst 0, 1) := by decide +kernel
theorem dX8_unsure_1 : decode cX8_unsure 1 = .ok (.lstore_n 1, 1) := by decide +kernel
theorem dX8_unsure_2 : decode cX8_unsure 2 = .ok (.iconst 0, 1) := by decide +kernel
theorem dX8_unsure_3 : decode cX8_unsure 3 = .ok (.istore_n 3, 1) := by decide +kernel
theorem dX8_unsure_4 : decode cX8_unsure 4 = .ok (.iload_n 3, 1) := by decide +kernel
theorem dX8_unsure_5 : decode cX8_unsure 5 = .ok (.bipush 10, 2) := by decide +kernel
theorem dX8_unsure_7 : decode cX8_unsure 7 = .ok (.if_icmp .ge 27, 3) := by decide +kernel
theorem dX8_unsure_10 : decode cX8_unsure 10 = .ok (.lload_n 1, 1) := by decide +kernel
theorem dX8_unsure_11 : decode cX8_unsure 11 = .ok (.aload_n 0, 1) := by decide +kernel
theorem dX8_unsure_12 : decode cX8_unsure 12 = .ok (.iload_n 3, 1) := by decide +kernel
theorem dX8_unsure_13 : decode cX8_unsure 13 = .ok (.invokevirtual 101, 3) := by decide +kernel
theorem dX8_unsure_16 : decode cX8_unsure 16 = .ok (.ifCond .eq 9, 3) := by decide +kernel
theorem dX8_unsure_19 : decode cX8_unsure 19 = .ok (.lconst 1, 1) := by decide +kernel
theorem dX8_unsure_20 : decode cX8_unsure 20 = .ok (.iload_n 3, 1) := by decide +kernel
theorem dX8_unsure_21 : decode cX8_unsure 21 = .ok (.lshl, 1) := by decide +kernel
theorem dX8_unsure_22 : decode cX8_unsure 22 = .ok (.goto 4, 3) := by decide +kernel
theorem dX8_unsure_25 : decode cX8_unsure 25 = .ok (.lconst 0, 1) := by decide +kernel
theorem dX8_unsure_26 : decode cX8_unsure 26 = .ok (.lor, 1) := by decide +kernel
theorem dX8_unsure_27 : decode cX8_unsure 27 = .ok (.lstore_n 1, 1) := by decide +kernel
theorem dX8_unsure_28 : decode cX8_unsure 28 = .ok (.iinc 3 1, 3) := by decide +kernel
theorem dX8_unsure_31 : decode cX8_unsure 31 = .ok (.goto (-27), 3) := by decide +kernel
theorem dX8_unsure_34 : decode cX8_unsure 34 = .ok (.iconst 0, 1) := by decide +kernel
theorem dX8_unsure_35 : decode cX8_unsure 35 = .ok (.istore_n 3, 1) := by decide +kernel
theorem dX8_unsure_36 : decode cX8_unsure 36 = .ok (.iload_n 3, 1) := by decide +kernel
theorem dX8_unsure_37 : decode cX8_unsure 37 = .ok (.bipush 10, 2) := by decide +kernel
theorem dX8_unsure_39 : decode cX8_unsure 39 = .ok (.if_icmp .ge 39, 3) := by decide +kernel
theorem dX8_unsure_42 : decode cX8_unsure 42 = .ok (.aload_n 0, 1) := by decide +kernel
theorem dX8_unsure_43 : decode cX8_unsure 43 = .ok (.iload_n 3, 1) := by decide +kernel
theorem dX8_unsure_44 : decode cX8_unsure 44 = .ok (.invokevirtual 101, 3) := by decide +kernel
theorem dX8_unsure_47 : decode cX8_unsure 47 = .ok (.ifCond .eq 25, 3) := by decide +kernel
theorem dX8_unsure_50 : decode cX8_unsure 50 = .ok (.lload_n 1, 1) := by decide +kernel
theorem dX8_unsure_51 : decode cX8_unsure 51 = .ok (.aload_n 0, 1) := by decide +kernel
theorem dX8_unsure_52 : decode cX8_unsure 52 = .ok (.getfield 7, 3) := by decide +kernel
theorem dX8_unsure_55 : decode cX8_unsure 55 = .ok (.bipush 73, 2) := by decide +kernel
theorem dX8_unsure_57 : decode cX8_unsure 57 = .ok (.iload_n 3, 1) := by decide +kernel
theorem dX8_unsure_58 : decode cX8_unsure 58 = .ok (.iadd, 1) := by decide +kernel
theorem dX8_unsure_59 : decode cX8_unsure 59 = .ok (.laload, 1) := by decide +kernel
theorem dX8_unsure_60 : decode cX8_unsure 60 = .ok (.ldc2_w 63, 3) := by decide +kernel
theorem dX8_unsure_63 : decode cX8_unsure 63 = .ok (.lxor, 1) := by decide +kernel
theorem dX8_unsure_64 : decode cX8_unsure 64 = .ok (.land, 1) := by decide +kernel
theorem dX8_unsure_65 : decode cX8_unsure 65 = .ok (.lconst 0, 1) := by decide +kernel
theorem dX8_unsure_66 : decode cX8_unsure 66 = .ok (.lcmp, 1) := by decide +kernel
theorem dX8_unsure_67 : decode cX8_unsure 67 = .ok (.ifCond .eq 5, 3) := by decide +kernel
theorem dX8_unsure_70 : decode cX8_unsure 70 = .ok (.iload_n 3, 1) := by decide +kernel
theorem dX8_unsure_71 : decode cX8_unsure 71 = .ok (.ireturn, 1) := by decide +kernel
theorem dX8_unsure_72 : decode cX8_unsure 72 = .ok (.iinc 3 1, 3) := by decide +kernel
theorem dX8_unsure_75 : decode cX8_unsure 75 = .ok (.goto (-39), 3) := by decide +kernel
theorem dX8_unsure_78 : decode cX8_unsure 78 = .ok (.bipush (-4), 2) := by decide +kernel
theorem dX8_unsure_80 : decode cX8_unsure 80 = .ok (.ireturn, 1) := by decide +kernel
set_option maxRecDepth 20000 in
theorem ggX8_many_X8_isHere : GoodIn wsX8_many wsX8_isHere := goodIn_r _ [9, 2, 10, 11, 12, 8, 13, 14, 15, 16, 29, 30, 31, 32, 33, 34, 35, 36, 37, 38, 39, 40, 41] (by decide +kernel) (by decide +kernel)
set_option maxRecDepth 20000 in
theorem gX8_many_X8_isHere : GoodIn wsX8_many (wsV RX8 101 RX8 yX8_isHere wsX8_isHere) := goodIn_app (goodIn_of _ (by decide +kernel)) ggX8_many_X8_isHere
set_option maxRecDepth 20000 in
theorem ggX8_many_Jxe99ae_doubleToLongBits_ccdee : GoodIn wsX8_many wsJxe99ae_doubleToLongBits_ccdee := goodIn_r _ [20, 21, 22, 23, 24, 25, 26, 27, 19, 28] (by decide +kernel) (by decide +kernel)
set_option maxRecDepth 20000 in
theorem gX8_many_Jxe99ae_doubleToLongBits_ccdee : GoodIn wsX8_many (va_wsS RX8 159 yJxe99ae_doubleToLongBits_ccdee wsJxe99ae_doubleToLongBits_ccdee) := goodIn_app (goodIn_of _ (by decide +kernel)) ggX8_many_Jxe99ae_doubleToLongBits_ccdee
