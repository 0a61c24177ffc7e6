theorem dX0_init_0 : decode cX0_init 0 = .ok (.aload_n 0, 1) := by decide +kernel
theorem dX0_init_1 : decode cX0_init 1 = .ok (.invokespecial 3, 3) := by decide +kernel
theorem dX0_init_4 : decode cX0_init 4 = .ok (.aload_n 0, 1) := by decide +kernel
theorem dX0_init_5 : decode cX0_init 5 = .ok (.aload_n 1, 1) := by decide +kernel
theorem dX0_init_6 : decode cX0_init 6 = .ok (.putfield 9, 3) := by decide +kernel
theorem dX0_init_9 : decode cX0_init 9 = .ok (.aload_n 0, 1) := by decide +kernel
theorem dX0_init_10 : decode cX0_init 10 = .ok (.iload_n 2, 1) := by decide +kernel
theorem dX0_init_11 : decode cX0_init 11 = .ok (.putfield 15, 3) := by decide +kernel
theorem dX0_init_14 : decode cX0_init 14 = .ok (.aload_n 0, 1) := by decide +kernel
theorem dX0_init_15 : decode cX0_init 15 = .ok (.aload_n 1, 1) := by decide +kernel
theorem dX0_init_16 : decode cX0_init 16 = .ok (.ifnonnull 7, 3) := by decide +kernel
theorem dX0_init_19 : decode cX0_init 19 = .ok (.iconst 1, 1) := by decide +kernel
theorem dX0_init_20 : decode cX0_init 20 = .ok (.goto 9, 3) := by decide +kernel
theorem dX0_init_23 : decode cX0_init 23 = .ok (.aload_n 1, 1) := by decide +kernel
theorem dX0_init_24 : decode cX0_init 24 = .ok (.getfield 19, 3) := by decide +kernel
theorem dX0_init_27 : decode cX0_init 27 = .ok (.iconst 1, 1) := by decide +kernel
theorem dX0_init_28 : decode cX0_init 28 = .ok (.iadd, 1) := by decide +kernel
theorem dX0_init_29 : decode cX0_init 29 = .ok (.putfield 19, 3) := by decide +kernel
theorem dX0_init_32 : decode cX0_init 32 = .ok (.aload_n 0, 1) := by decide +kernel
theorem dX0_init_33 : decode cX0_init 33 = .ok (.iload_n 3, 1) := by decide +kernel
theorem dX0_init_34 : decode cX0_init 34 = .ok (.putfield 22, 3) := by decide +kernel
theorem dX0_init_37 : decode cX0_init 37 = .ok (.aload_n 0, 1) := by decide +kernel
theorem dX0_init_38 : decode cX0_init 38 = .ok (.iload 4, 2) := by decide +kernel
theorem dX0_init_40 : decode cX0_init 40 = .ok (.putfield 25, 3) := by decide +kernel
theorem dX0_init_43 : decode cX0_init 43 = .ok (.aload_n 0, 1) := by decide +kernel
theorem dX0_init_44 : decode cX0_init 44 = .ok (.iload 5, 2) := by decide +kernel
theorem dX0_init_46 : decode cX0_init 46 = .ok (.putfield 28, 3) := by decide +kernel
theorem dX0_init_49 : decode cX0_init 49 = .ok (.aload_n 0, 1) := by decide +kernel
theorem dX0_init_50 : decode cX0_init 50 = .ok (.iload 4, 2) := by decide +kernel
theorem dX0_init_52 : decode cX0_init 52 = .ok (.iload 5, 2) := by decide +kernel
theorem dX0_init_54 : decode cX0_init 54 = .ok (.iadd, 1) := by decide +kernel
theorem dX0_init_55 : decode cX0_init 55 = .ok (.bipush 36, 2) := by decide +kernel
theorem dX0_init_57 : decode cX0_init 57 = .ok (.irem, 1) := by decide +kernel
theorem dX0_init_58 : decode cX0_init 58 = .ok (.putfield 31, 3) := by decide +kernel
theorem dX0_init_61 : decode cX0_init 61 = .ok (.aload_n 0, 1) := by decide +kernel
theorem dX0_init_62 : decode cX0_init 62 = .ok (.iload 4, 2) := by decide +kernel
theorem dX0_init_64 : decode cX0_init 64 = .ok (.putfield 34, 3) := by decide +kernel
theorem dX0_init_67 : decode cX0_init 67 = .ok (.return_, 1) := by decide +kernel
theorem dX0_allows_0 : decode cX0_allows 0 = .ok (.iload_n 1, 1) := by decide +kernel
theorem dX0_allows_1 : decode cX0_allows 1 = .ok (.aload_n 0, 1) := by decide +kernel
theorem dX0_allows_2 : decode cX0_allows 2 = .ok (.getfield 25, 3) := by decide +kernel
theorem dX0_allows_5 : decode cX0_allows 5 = .ok (.if_icmp .ge 15, 3) := by decide +kernel
theorem dX0_allows_8 : decode cX0_allows 8 = .ok (.iload_n 1, 1) := by decide +kernel
theorem dX0_allows_9 : decode cX0_allows 9 = .ok (.bipush 36, 2) := by decide +kernel
theorem dX0_allows_11 : decode cX0_allows 11 = .ok (.iadd, 1) := by decide +kernel
theorem dX0_allows_12 : decode cX0_allows 12 = .ok (.aload_n 0, 1) := by decide +kernel
theorem dX0_allows_13 : decode cX0_allows 13 = .ok (.getfield 25, 3) := by decide +kernel
theorem dX0_allows_16 : decode cX0_allows 16 = .ok (.isub, 1) := by decide +kernel
theorem dX0_allows_17 : decode cX0_allows 17 = .ok (.goto 9, 3) := by decide +kernel
theorem dX0_allows_20 : decode cX0_allows 20 = .ok (.iload_n 1, 1) := by decide +kernel
theorem dX0_allows_21 : decode cX0_allows 21 = .ok (.aload_n 0, 1) := by decide +kernel
theorem dX0_allows_22 : decode cX0_allows 22 = .ok (.getfield 25, 3) := by decide +kernel
theorem dX0_allows_25 : decode cX0_allows 25 = .ok (.isub, 1) := by decide +kernel
theorem dX0_allows_26 : decode cX0_allows 26 = .ok (.istore_n 2, 1) := by decide +kernel
theorem dX0_allows_27 : decode cX0_allows 27 = .ok (.iload_n 2, 1) := by decide +kernel
theorem dX0_allows_28 : decode cX0_allows 28 = .ok (.aload_n 0, 1) := by decide +kernel
theorem dX0_allows_29 : decode cX0_allows 29 = .ok (.getfield 28, 3) := by decide +kernel
theorem dX0_allows_32 : decode cX0_allows 32 = .ok (.if_icmp .gt 7, 3) := by decide +kernel
theorem dX0_allows_35 : decode cX0_allows 35 = .ok (.iconst 1, 1) := by decide +kernel
theorem dX0_allows_36 : decode cX0_allows 36 = .ok (.goto 4, 3) := by decide +kernel
theorem dX0_allows_39 : decode cX0_allows 39 = .ok (.iconst 0, 1) := by decide +kernel
theorem dX0_allows_40 : decode cX0_allows 40 = .ok (.ireturn, 1) := by decide +kernel
theorem dX0_leastTurn_0 : decode cX0_leastTurn 0 = .ok (.aload_n 0, 1) := by decide +kernel
theorem dX0_leastTurn_1 : decode cX0_leastTurn 1 = .ok (.getfield 31, 3) := by decide +kernel
theorem dX0_leastTurn_4 : decode cX0_leastTurn 4 = .ok (.aload_n 0, 1) := by decide +kernel
theorem dX0_leastTurn_5 : decode cX0_leastTurn 5 = .ok (.getfield 25, 3) := by decide +kernel
theorem dX0_leastTurn_8 : decode cX0_leastTurn 8 = .ok (.if_icmp .ge 7, 3) := by decide +kernel
theorem dX0_leastTurn_11 : decode cX0_leastTurn 11 = .ok (.iconst 0, 1) := by decide +kernel
theorem dX0_leastTurn_12 : decode cX0_leastTurn 12 = .ok (.goto 7, 3) := by decide +kernel
theorem dX0_leastTurn_15 : decode cX0_leastTurn 15 = .ok (.aload_n 0, 1) := by decide +kernel
theorem dX0_leastTurn_16 : decode cX0_leastTurn 16 = .ok (.getfield 25, 3) := by decide +kernel
theorem dX0_leastTurn_19 : decode cX0_leastTurn 19 = .ok (.ireturn, 1) := by decide +kernel
theorem dX0_intoLimits_0 : decode cX0_intoLimits 0 = .ok (.aload_n 0, 1) := by decide +kernel
theorem dX0_intoLimits_1 : decode cX0_intoLimits 1 = .ok (.iload_n 1, 1) := by decide +kernel
theorem dX0_intoLimits_2 : decode cX0_intoLimits 2 = .ok (.invokevirtual 37, 3) := by decide +kernel
theorem dX0_intoLimits_5 : decode cX0_intoLimits 5 = .ok (.ifCond .eq 5, 3) := by decide +kernel
theorem dX0_intoLimits_8 : decode cX0_intoLimits 8 = .ok (.iload_n 1, 1) := by decide +kernel
theorem dX0_intoLimits_9 : decode cX0_intoLimits 9 = .ok (.ireturn, 1) := by decide +kernel
theorem dX0_intoLimits_10 : decode cX0_intoLimits 10 = .ok (.iload_n 1, 1) := by decide +kernel
theorem dX0_intoLimits_11 : decode cX0_intoLimits 11 = .ok (.aload_n 0, 1) := by decide +kernel
theorem dX0_intoLimits_12 : decode cX0_intoLimits 12 = .ok (.getfield 25, 3) := by decide +kernel
theorem dX0_intoLimits_15 : decode cX0_intoLimits 15 = .ok (.invokestatic 41, 3) := by decide +kernel
theorem dX0_intoLimits_18 : decode cX0_intoLimits 18 = .ok (.iload_n 1, 1) := by decide +kernel
theorem dX0_intoLimits_19 : decode cX0_intoLimits 19 = .ok (.aload_n 0, 1) := by decide +kernel
theorem dX0_intoLimits_20 : decode cX0_intoLimits 20 = .ok (.getfield 31, 3) := by decide +kernel
theorem dX0_intoLimits_23 : decode cX0_intoLimits 23 = .ok (.invokestatic 41, 3) := by decide +kernel
theorem dX0_intoLimits_26 : decode cX0_intoLimits 26 = .ok (.if_icmp .gt 10, 3) := by decide +kernel
theorem dX0_intoLimits_29 : decode cX0_intoLimits 29 = .ok (.aload_n 0, 1) := by decide +kernel
theorem dX0_intoLimits_30 : decode cX0_intoLimits 30 = .ok (.getfield 25, 3) := by decide +kernel
theorem dX0_intoLimits_33 : decode cX0_intoLimits 33 = .ok (.goto 7, 3) := by decide +kernel
theorem dX0_intoLimits_36 : decode cX0_intoLimits 36 = .ok (.aload_n 0, 1) := by decide +kernel
theorem dX0_intoLimits_37 : decode cX0_intoLimits 37 = .ok (.getfield 31, 3) := by decide +kernel
theorem dX0_intoLimits_40 : decode cX0_intoLimits 40 = .ok (.ireturn, 1) := by decide +kernel
theorem dX0_blended_0 : decode cX0_blended 0 = .ok (.aload_n 0, 1) := by decide +kernel
theorem dX0_blended_1 : decode cX0_blended 1 = .ok (.iload_n 1, 1) := by decide +kernel
theorem dX0_blended_2 : decode cX0_blended 2 = .ok (.iload_n 1, 1) := by decide +kernel
theorem dX0_blended_3 : decode cX0_blended 3 = .ok (.iload_n 2, 1) := by decide +kernel
theorem dX0_blended_4 : decode cX0_blended 4 = .ok (.invokestatic 47, 3) := by decide +kernel
theorem dX0_blended_7 : decode cX0_blended 7 = .ok (.iload_n 3, 1) := by decide +kernel
theorem dX0_blended_8 : decode cX0_blended 8 = .ok (.imul, 1) := by decide +kernel
theorem dX0_blended_9 : decode cX0_blended 9 = .ok (.bipush 100, 2) := by decide +kernel
theorem dX0_blended_11 : decode cX0_blended 11 = .ok (.idiv, 1) := by decide +kernel
theorem dX0_blended_12 : decode cX0_blended 12 = .ok (.iadd, 1) := by decide +kernel
theorem dX0_blended_13 : decode cX0_blended 13 = .ok (.invokestatic 50, 3) := by decide +kernel
theorem dX0_blended_16 : decode cX0_blended 16 = .ok (.invokevirtual 54, 3) := by decide +kernel
theorem dX0_blended_19 : decode cX0_blended 19 = .ok (.ireturn, 1) := by decide +kernel
theorem dX0_takeTurn_0 : decode cX0_takeTurn 0 = .ok (.aload_n 0, 1) := by decide +kernel
theorem dX0_takeTurn_1 : decode cX0_takeTurn 1 = .ok (.aload_n 0, 1) := by decide +kernel
theorem dX0_takeTurn_2 : decode cX0_takeTurn 2 = .ok (.iload_n 1, 1) := by decide +kernel
theorem dX0_takeTurn_3 : decode cX0_takeTurn 3 = .ok (.invokevirtual 54, 3) := by decide +kernel
theorem dX0_takeTurn_6 : decode cX0_takeTurn 6 = .ok (.putfield 34, 3) := by decide +kernel
theorem dX0_takeTurn_9 : decode cX0_takeTurn 9 = .ok (.aload_n 0, 1) := by decide +kernel
theorem dX0_takeTurn_10 : decode cX0_takeTurn 10 = .ok (.getfield 34, 3) := by decide +kernel
theorem dX0_takeTurn_13 : decode cX0_takeTurn 13 = .ok (.iload_n 1, 1) := by decide +kernel
theorem dX0_takeTurn_14 : decode cX0_takeTurn 14 = .ok (.if_icmp .ne 7, 3) := by decide +kernel
theorem dX0_takeTurn_17 : decode cX0_takeTurn 17 = .ok (.iconst 0, 1) := by decide +kernel
theorem dX0_takeTurn_18 : decode cX0_takeTurn 18 = .ok (.goto 4, 3) := by decide +kernel
theorem dX0_takeTurn_21 : decode cX0_takeTurn 21 = .ok (.iconst 1, 1) := by decide +kernel
theorem dX0_takeTurn_22 : decode cX0_takeTurn 22 = .ok (.ireturn, 1) := by decide +kernel
theorem dX0_place_0 : decode cX0_place 0 = .ok (.aload_n 0, 1) := by decide +kernel
theorem dX0_place_1 : decode cX0_place 1 = .ok (.aload_n 0, 1) := by decide +kernel
theorem dX0_place_2 : decode cX0_place 2 = .ok (.getfield 9, 3) := by decide +kernel
theorem dX0_place_5 : decode cX0_place 5 = .ok (.ifnonnull 7, 3) := by decide +kernel
theorem dX0_place_8 : decode cX0_place 8 = .ok (.lload_n 1, 1) := by decide +kernel
theorem dX0_place_9 : decode cX0_place 9 = .ok (.goto 10, 3) := by decide +kernel
theorem dX0_place_12 : decode cX0_place 12 = .ok (.aload_n 0, 1) := by decide +kernel
theorem dX0_place_13 : decode cX0_place 13 = .ok (.getfield 9, 3) := by decide +kernel
theorem dX0_place_16 : decode cX0_place 16 = .ok (.getfield 57, 3) := by decide +kernel
theorem dX0_place_19 : decode cX0_place 19 = .ok (.putfield 61, 3) := by decide +kernel
theorem dX0_place_22 : decode cX0_place 22 = .ok (.aload_n 0, 1) := by decide +kernel
theorem dX0_place_23 : decode cX0_place 23 = .ok (.aload_n 0, 1) := by decide +kernel
theorem dX0_place_24 : decode cX0_place 24 = .ok (.getfield 9, 3) := by decide +kernel
theorem dX0_place_27 : decode cX0_place 27 = .ok (.ifnonnull 7, 3) := by decide +kernel
theorem dX0_place_30 : decode cX0_place 30 = .ok (.lload_n 3, 1) := by decide +kernel
theorem dX0_place_31 : decode cX0_place 31 = .ok (.goto 10, 3) := by decide +kernel
theorem dX0_place_34 : decode cX0_place 34 = .ok (.aload_n 0, 1) := by decide +kernel
theorem dX0_place_35 : decode cX0_place 35 = .ok (.getfield 9, 3) := by decide +kernel
theorem dX0_place_38 : decode cX0_place 38 = .ok (.getfield 64, 3) := by decide +kernel
theorem dX0_place_41 : decode cX0_place 41 = .ok (.putfield 67, 3) := by decide +kernel
theorem dX0_place_44 : decode cX0_place 44 = .ok (.aload_n 0, 1) := by decide +kernel
theorem dX0_place_45 : decode cX0_place 45 = .ok (.getfield 9, 3) := by decide +kernel
theorem dX0_place_48 : decode cX0_place 48 = .ok (.ifnonnull 9, 3) := by decide +kernel
theorem dX0_place_51 : decode cX0_place 51 = .ok (.ldc2_w 70, 3) := by decide +kernel
theorem dX0_place_54 : decode cX0_place 54 = .ok (.goto 10, 3) := by decide +kernel
theorem dX0_place_57 : decode cX0_place 57 = .ok (.aload_n 0, 1) := by decide +kernel
theorem dX0_place_58 : decode cX0_place 58 = .ok (.getfield 9, 3) := by decide +kernel
theorem dX0_place_61 : decode cX0_place 61 = .ok (.getfield 72, 3) := by decide +kernel
theorem dX0_place_64 : decode cX0_place 64 = .ok (.lstore 5, 2) := by decide +kernel
theorem dX0_place_66 : decode cX0_place 66 = .ok (.aload_n 0, 1) := by decide +kernel
theorem dX0_place_67 : decode cX0_place 67 = .ok (.getfield 9, 3) := by decide +kernel
theorem dX0_place_70 : decode cX0_place 70 = .ok (.ifnonnull 7, 3) := by decide +kernel
theorem dX0_place_73 : decode cX0_place 73 = .ok (.lconst 0, 1) := by decide +kernel
theorem dX0_place_74 : decode cX0_place 74 = .ok (.goto 10, 3) := by decide +kernel
theorem dX0_place_77 : decode cX0_place 77 = .ok (.aload_n 0, 1) := by decide +kernel
theorem dX0_place_78 : decode cX0_place 78 = .ok (.getfield 9, 3) := by decide +kernel
theorem dX0_place_81 : decode cX0_place 81 = .ok (.getfield 75, 3) := by decide +kernel
theorem dX0_place_84 : decode cX0_place 84 = .ok (.lstore 7, 2) := by decide +kernel
theorem dX0_place_86 : decode cX0_place 86 = .ok (.aload_n 0, 1) := by decide +kernel
theorem dX0_place_87 : decode cX0_place 87 = .ok (.getfield 34, 3) := by decide +kernel
theorem dX0_place_90 : decode cX0_place 90 = .ok (.invokestatic 78, 3) := by decide +kernel
theorem dX0_place_93 : decode cX0_place 93 = .ok (.istore 9, 2) := by decide +kernel
theorem dX0_place_95 : decode cX0_place 95 = .ok (.aload_n 0, 1) := by decide +kernel
theorem dX0_place_96 : decode cX0_place 96 = .ok (.getfield 34, 3) := by decide +kernel
theorem dX0_place_99 : decode cX0_place 99 = .ok (.invokestatic 81, 3) := by decide +kernel
theorem dX0_place_102 : decode cX0_place 102 = .ok (.istore 10, 2) := by decide +kernel
theorem dX0_place_104 : decode cX0_place 104 = .ok (.aload_n 0, 1) := by decide +kernel
theorem dX0_place_105 : decode cX0_place 105 = .ok (.lload 5, 2) := by decide +kernel
theorem dX0_place_107 : decode cX0_place 107 = .ok (.iload 9, 2) := by decide +kernel
theorem dX0_place_109 : decode cX0_place 109 = .ok (.i2l, 1) := by decide +kernel
theorem dX0_place_110 : decode cX0_place 110 = .ok (.lmul, 1) := by decide +kernel
theorem dX0_place_111 : decode cX0_place 111 = .ok (.lload 7, 2) := by decide +kernel
theorem dX0_place_113 : decode cX0_place 113 = .ok (.iload 10, 2) := by decide +kernel
theorem dX0_place_115 : decode cX0_place 115 = .ok (.i2l, 1) := by decide +kernel
theorem dX0_place_116 : decode cX0_place 116 = .ok (.lmul, 1) := by decide +kernel
theorem dX0_place_117 : decode cX0_place 117 = .ok (.lsub, 1) := by decide +kernel
theorem dX0_place_118 : decode cX0_place 118 = .ok (.ldc2_w 84, 3) := by decide +kernel
theorem dX0_place_121 : decode cX0_place 121 = .ok (.ldiv, 1) := by decide +kernel
theorem dX0_place_122 : decode cX0_place 122 = .ok (.putfield 72, 3) := by decide +kernel
theorem dX0_place_125 : decode cX0_place 125 = .ok (.aload_n 0, 1) := by decide +kernel
theorem dX0_place_126 : decode cX0_place 126 = .ok (.lload 5, 2) := by decide +kernel
theorem dX0_place_128 : decode cX0_place 128 = .ok (.iload 10, 2) := by decide +kernel
theorem dX0_place_130 : decode cX0_place 130 = .ok (.i2l, 1) := by decide +kernel
theorem dX0_place_131 : decode cX0_place 131 = .ok (.lmul, 1) := by decide +kernel
theorem dX0_place_132 : decode cX0_place 132 = .ok (.lload 7, 2) := by decide +kernel
theorem dX0_place_134 : decode cX0_place 134 = .ok (.iload 9, 2) := by decide +kernel
theorem dX0_place_136 : decode cX0_place 136 = .ok (.i2l, 1) := by decide +kernel
theorem dX0_place_137 : decode cX0_place 137 = .ok (.lmul, 1) := by decide +kernel
theorem dX0_place_138 : decode cX0_place 138 = .ok (.ladd, 1) := by decide +kernel
theorem dX0_place_139 : decode cX0_place 139 = .ok (.ldc2_w 84, 3) := by decide +kernel
theorem dX0_place_142 : decode cX0_place 142 = .ok (.ldiv, 1) := by decide +kernel
theorem dX0_place_143 : decode cX0_place 143 = .ok (.putfield 75, 3) := by decide +kernel
theorem dX0_place_146 : decode cX0_place 146 = .ok (.aload_n 0, 1) := by decide +kernel
theorem dX0_place_147 : decode cX0_place 147 = .ok (.aload_n 0, 1) := by decide +kernel
theorem dX0_place_148 : decode cX0_place 148 = .ok (.getfield 61, 3) := by decide +kernel
theorem dX0_place_151 : decode cX0_place 151 = .ok (.aload_n 0, 1) := by decide +kernel
theorem dX0_place_152 : decode cX0_place 152 = .ok (.getfield 22, 3) := by decide +kernel
theorem dX0_place_155 : decode cX0_place 155 = .ok (.i2l, 1) := by decide +kernel
theorem dX0_place_156 : decode cX0_place 156 = .ok (.aload_n 0, 1) := by decide +kernel
theorem dX0_place_157 : decode cX0_place 157 = .ok (.getfield 72, 3) := by decide +kernel
theorem dX0_place_160 : decode cX0_place 160 = .ok (.lmul, 1) := by decide +kernel
theorem dX0_place_161 : decode cX0_place 161 = .ok (.ladd, 1) := by decide +kernel
theorem dX0_place_162 : decode cX0_place 162 = .ok (.putfield 57, 3) := by decide +kernel
theorem dX0_place_165 : decode cX0_place 165 = .ok (.aload_n 0, 1) := by decide +kernel
theorem dX0_place_166 : decode cX0_place 166 = .ok (.aload_n 0, 1) := by decide +kernel
theorem dX0_place_167 : decode cX0_place 167 = .ok (.getfield 67, 3) := by decide +kernel
theorem dX0_place_170 : decode cX0_place 170 = .ok (.aload_n 0, 1) := by decide +kernel
theorem dX0_place_171 : decode cX0_place 171 = .ok (.getfield 22, 3) := by decide +kernel
theorem dX0_place_174 : decode cX0_place 174 = .ok (.i2l, 1) := by decide +kernel
theorem dX0_place_175 : decode cX0_place 175 = .ok (.aload_n 0, 1) := by decide +kernel
theorem dX0_place_176 : decode cX0_place 176 = .ok (.getfield 75, 3) := by decide +kernel
theorem dX0_place_179 : decode cX0_place 179 = .ok (.lmul, 1) := by decide +kernel
theorem dX0_place_180 : decode cX0_place 180 = .ok (.ladd, 1) := by decide +kernel
theorem dX0_place_181 : decode cX0_place 181 = .ok (.putfield 64, 3) := by decide +kernel
theorem dX0_place_184 : decode cX0_place 184 = .ok (.return_, 1) := by decide +kernel
theorem dX0_farFrom_0 : decode cX0_farFrom 0 = .ok (.aload_n 0, 1) := by decide +kernel
theorem dX0_farFrom_1 : decode cX0_farFrom 1 = .ok (.getfield 57, 3) := by decide +kernel
theorem dX0_farFrom_4 : decode cX0_farFrom 4 = .ok (.lload_n 1, 1) := by decide +kernel
theorem dX0_farFrom_5 : decode cX0_farFrom 5 = .ok (.lsub, 1) := by decide +kernel
theorem dX0_farFrom_6 : decode cX0_farFrom 6 = .ok (.invokestatic 86, 3) := by decide +kernel
theorem dX0_farFrom_9 : decode cX0_farFrom 9 = .ok (.aload_n 0, 1) := by decide +kernel
theorem dX0_farFrom_10 : decode cX0_farFrom 10 = .ok (.getfield 64, 3) := by decide +kernel
theorem dX0_farFrom_13 : decode cX0_farFrom 13 = .ok (.lload_n 3, 1) := by decide +kernel
theorem dX0_farFrom_14 : decode cX0_farFrom 14 = .ok (.lsub, 1) := by decide +kernel
theorem dX0_farFrom_15 : decode cX0_farFrom 15 = .ok (.invokestatic 86, 3) := by decide +kernel
theorem dX0_farFrom_18 : decode cX0_farFrom 18 = .ok (.invokestatic 92, 3) := by decide +kernel
theorem dX0_farFrom_21 : decode cX0_farFrom 21 = .ok (.lreturn, 1) := by decide +kernel
theorem dX0_nearestTurn_0 : decode cX0_nearestTurn 0 = .ok (.aload_n 1, 1) := by decide +kernel
theorem dX0_nearestTurn_1 : decode cX0_nearestTurn 1 = .ok (.getfield 57, 3) := by decide +kernel
theorem dX0_nearestTurn_4 : decode cX0_nearestTurn 4 = .ok (.aload_n 0, 1) := by decide +kernel
theorem dX0_nearestTurn_5 : decode cX0_nearestTurn 5 = .ok (.getfield 61, 3) := by decide +kernel
theorem dX0_nearestTurn_8 : decode cX0_nearestTurn 8 = .ok (.lsub, 1) := by decide +kernel
theorem dX0_nearestTurn_9 : decode cX0_nearestTurn 9 = .ok (.lstore 7, 2) := by decide +kernel
theorem dX0_nearestTurn_11 : decode cX0_nearestTurn 11 = .ok (.aload_n 1, 1) := by decide +kernel
theorem dX0_nearestTurn_12 : decode cX0_nearestTurn 12 = .ok (.getfield 64, 3) := by decide +kernel
theorem dX0_nearestTurn_15 : decode cX0_nearestTurn 15 = .ok (.aload_n 0, 1) := by decide +kernel
theorem dX0_nearestTurn_16 : decode cX0_nearestTurn 16 = .ok (.getfield 67, 3) := by decide +kernel
theorem dX0_nearestTurn_19 : decode cX0_nearestTurn 19 = .ok (.lsub, 1) := by decide +kernel
theorem dX0_nearestTurn_20 : decode cX0_nearestTurn 20 = .ok (.lstore 9, 2) := by decide +kernel
theorem dX0_nearestTurn_22 : decode cX0_nearestTurn 22 = .ok (.aload_n 0, 1) := by decide +kernel
theorem dX0_nearestTurn_23 : decode cX0_nearestTurn 23 = .ok (.getfield 34, 3) := by decide +kernel
theorem dX0_nearestTurn_26 : decode cX0_nearestTurn 26 = .ok (.invokestatic 78, 3) := by decide +kernel
theorem dX0_nearestTurn_29 : decode cX0_nearestTurn 29 = .ok (.istore 11, 2) := by decide +kernel
theorem dX0_nearestTurn_31 : decode cX0_nearestTurn 31 = .ok (.aload_n 0, 1) := by decide +kernel
theorem dX0_nearestTurn_32 : decode cX0_nearestTurn 32 = .ok (.getfield 34, 3) := by decide +kernel
theorem dX0_nearestTurn_35 : decode cX0_nearestTurn 35 = .ok (.invokestatic 81, 3) := by decide +kernel
theorem dX0_nearestTurn_38 : decode cX0_nearestTurn 38 = .ok (.istore 12, 2) := by decide +kernel
theorem dX0_nearestTurn_40 : decode cX0_nearestTurn 40 = .ok (.lload 7, 2) := by decide +kernel
theorem dX0_nearestTurn_42 : decode cX0_nearestTurn 42 = .ok (.iload 11, 2) := by decide +kernel
theorem dX0_nearestTurn_44 : decode cX0_nearestTurn 44 = .ok (.i2l, 1) := by decide +kernel
theorem dX0_nearestTurn_45 : decode cX0_nearestTurn 45 = .ok (.lmul, 1) := by decide +kernel
theorem dX0_nearestTurn_46 : decode cX0_nearestTurn 46 = .ok (.lload 9, 2) := by decide +kernel
theorem dX0_nearestTurn_48 : decode cX0_nearestTurn 48 = .ok (.iload 12, 2) := by decide +kernel
theorem dX0_nearestTurn_50 : decode cX0_nearestTurn 50 = .ok (.i2l, 1) := by decide +kernel
theorem dX0_nearestTurn_51 : decode cX0_nearestTurn 51 = .ok (.lmul, 1) := by decide +kernel
theorem dX0_nearestTurn_52 : decode cX0_nearestTurn 52 = .ok (.ladd, 1) := by decide +kernel
theorem dX0_nearestTurn_53 : decode cX0_nearestTurn 53 = .ok (.ldc2_w 84, 3) := by decide +kernel
theorem dX0_nearestTurn_56 : decode cX0_nearestTurn 56 = .ok (.ldiv, 1) := by decide +kernel
theorem dX0_nearestTurn_57 : decode cX0_nearestTurn 57 = .ok (.lstore 13, 2) := by decide +kernel
theorem dX0_nearestTurn_59 : decode cX0_nearestTurn 59 = .ok (.lload 9, 2) := by decide +kernel
theorem dX0_nearestTurn_61 : decode cX0_nearestTurn 61 = .ok (.iload 11, 2) := by decide +kernel
theorem dX0_nearestTurn_63 : decode cX0_nearestTurn 63 = .ok (.i2l, 1) := by decide +kernel
theorem dX0_nearestTurn_64 : decode cX0_nearestTurn 64 = .ok (.lmul, 1) := by decide +kernel
theorem dX0_nearestTurn_65 : decode cX0_nearestTurn 65 = .ok (.lload 7, 2) := by decide +kernel
theorem dX0_nearestTurn_67 : decode cX0_nearestTurn 67 = .ok (.iload 12, 2) := by decide +kernel
theorem dX0_nearestTurn_69 : decode cX0_nearestTurn 69 = .ok (.i2l, 1) := by decide +kernel
theorem dX0_nearestTurn_70 : decode cX0_nearestTurn 70 = .ok (.lmul, 1) := by decide +kernel
theorem dX0_nearestTurn_71 : decode cX0_nearestTurn 71 = .ok (.lsub, 1) := by decide +kernel
theorem dX0_nearestTurn_72 : decode cX0_nearestTurn 72 = .ok (.ldc2_w 84, 3) := by decide +kernel
theorem dX0_nearestTurn_75 : decode cX0_nearestTurn 75 = .ok (.ldiv, 1) := by decide +kernel
theorem dX0_nearestTurn_76 : decode cX0_nearestTurn 76 = .ok (.lstore 15, 2) := by decide +kernel
theorem dX0_nearestTurn_78 : decode cX0_nearestTurn 78 = .ok (.iload 6, 2) := by decide +kernel
theorem dX0_nearestTurn_80 : decode cX0_nearestTurn 80 = .ok (.istore 17, 2) := by decide +kernel
theorem dX0_nearestTurn_82 : decode cX0_nearestTurn 82 = .ok (.aload_n 0, 1) := by decide +kernel
theorem dX0_nearestTurn_83 : decode cX0_nearestTurn 83 = .ok (.lload 13, 2) := by decide +kernel
theorem dX0_nearestTurn_85 : decode cX0_nearestTurn 85 = .ok (.lload 15, 2) := by decide +kernel
theorem dX0_nearestTurn_87 : decode cX0_nearestTurn 87 = .ok (.lload_n 2, 1) := by decide +kernel
theorem dX0_nearestTurn_88 : decode cX0_nearestTurn 88 = .ok (.lload 4, 2) := by decide +kernel
theorem dX0_nearestTurn_90 : decode cX0_nearestTurn 90 = .ok (.iload 6, 2) := by decide +kernel
theorem dX0_nearestTurn_92 : decode cX0_nearestTurn 92 = .ok (.invokevirtual 96, 3) := by decide +kernel
theorem dX0_nearestTurn_95 : decode cX0_nearestTurn 95 = .ok (.lstore 18, 2) := by decide +kernel
theorem dX0_nearestTurn_97 : decode cX0_nearestTurn 97 = .ok (.iconst 0, 1) := by decide +kernel
theorem dX0_nearestTurn_98 : decode cX0_nearestTurn 98 = .ok (.istore 20, 2) := by decide +kernel
theorem dX0_nearestTurn_100 : decode cX0_nearestTurn 100 = .ok (.iload 20, 2) := by decide +kernel
theorem dX0_nearestTurn_102 : decode cX0_nearestTurn 102 = .ok (.bipush 36, 2) := by decide +kernel
theorem dX0_nearestTurn_104 : decode cX0_nearestTurn 104 = .ok (.if_icmp .ge 49, 3) := by decide +kernel
theorem dX0_nearestTurn_107 : decode cX0_nearestTurn 107 = .ok (.aload_n 0, 1) := by decide +kernel
theorem dX0_nearestTurn_108 : decode cX0_nearestTurn 108 = .ok (.iload 20, 2) := by decide +kernel
theorem dX0_nearestTurn_110 : decode cX0_nearestTurn 110 = .ok (.invokevirtual 37, 3) := by decide +kernel
theorem dX0_nearestTurn_113 : decode cX0_nearestTurn 113 = .ok (.ifCond .eq 34, 3) := by decide +kernel
theorem dX0_nearestTurn_116 : decode cX0_nearestTurn 116 = .ok (.aload_n 0, 1) := by decide +kernel
theorem dX0_nearestTurn_117 : decode cX0_nearestTurn 117 = .ok (.lload 13, 2) := by decide +kernel
theorem dX0_nearestTurn_119 : decode cX0_nearestTurn 119 = .ok (.lload 15, 2) := by decide +kernel
theorem dX0_nearestTurn_121 : decode cX0_nearestTurn 121 = .ok (.lload_n 2, 1) := by decide +kernel
theorem dX0_nearestTurn_122 : decode cX0_nearestTurn 122 = .ok (.lload 4, 2) := by decide +kernel
theorem dX0_nearestTurn_124 : decode cX0_nearestTurn 124 = .ok (.iload 20, 2) := by decide +kernel
theorem dX0_nearestTurn_126 : decode cX0_nearestTurn 126 = .ok (.invokevirtual 96, 3) := by decide +kernel
theorem dX0_nearestTurn_129 : decode cX0_nearestTurn 129 = .ok (.lstore 21, 2) := by decide +kernel
theorem dX0_nearestTurn_131 : decode cX0_nearestTurn 131 = .ok (.lload 21, 2) := by decide +kernel
theorem dX0_nearestTurn_133 : decode cX0_nearestTurn 133 = .ok (.lload 18, 2) := by decide +kernel
theorem dX0_nearestTurn_135 : decode cX0_nearestTurn 135 = .ok (.lcmp, 1) := by decide +kernel
theorem dX0_nearestTurn_136 : decode cX0_nearestTurn 136 = .ok (.ifCond .ge 11, 3) := by decide +kernel
theorem dX0_nearestTurn_139 : decode cX0_nearestTurn 139 = .ok (.lload 21, 2) := by decide +kernel
theorem dX0_nearestTurn_141 : decode cX0_nearestTurn 141 = .ok (.lstore 18, 2) := by decide +kernel
theorem dX0_nearestTurn_143 : decode cX0_nearestTurn 143 = .ok (.iload 20, 2) := by decide +kernel
theorem dX0_nearestTurn_145 : decode cX0_nearestTurn 145 = .ok (.istore 17, 2) := by decide +kernel
theorem dX0_nearestTurn_147 : decode cX0_nearestTurn 147 = .ok (.iinc 20 1, 3) := by decide +kernel
theorem dX0_nearestTurn_150 : decode cX0_nearestTurn 150 = .ok (.goto (-50), 3) := by decide +kernel
theorem dX0_nearestTurn_153 : decode cX0_nearestTurn 153 = .ok (.iload 17, 2) := by decide +kernel
theorem dX0_nearestTurn_155 : decode cX0_nearestTurn 155 = .ok (.ireturn, 1) := by decide +kernel
theorem dX0_farTurned_0 : decode cX0_farTurned 0 = .ok (.iload 9, 2) := by decide +kernel
theorem dX0_farTurned_2 : decode cX0_farTurned 2 = .ok (.invokestatic 78, 3) := by decide +kernel
theorem dX0_farTurned_5 : decode cX0_farTurned 5 = .ok (.istore 10, 2) := by decide +kernel
theorem dX0_farTurned_7 : decode cX0_farTurned 7 = .ok (.iload 9, 2) := by decide +kernel
theorem dX0_farTurned_9 : decode cX0_farTurned 9 = .ok (.invokestatic 81, 3) := by decide +kernel
theorem dX0_farTurned_12 : decode cX0_farTurned 12 = .ok (.istore 11, 2) := by decide +kernel
theorem dX0_farTurned_14 : decode cX0_farTurned 14 = .ok (.aload_n 0, 1) := by decide +kernel
theorem dX0_farTurned_15 : decode cX0_farTurned 15 = .ok (.getfield 61, 3) := by decide +kernel
theorem dX0_farTurned_18 : decode cX0_farTurned 18 = .ok (.lload_n 1, 1) := by decide +kernel
theorem dX0_farTurned_19 : decode cX0_farTurned 19 = .ok (.iload 10, 2) := by decide +kernel
theorem dX0_farTurned_21 : decode cX0_farTurned 21 = .ok (.i2l, 1) := by decide +kernel
theorem dX0_farTurned_22 : decode cX0_farTurned 22 = .ok (.lmul, 1) := by decide +kernel
theorem dX0_farTurned_23 : decode cX0_farTurned 23 = .ok (.lload_n 3, 1) := by decide +kernel
theorem dX0_farTurned_24 : decode cX0_farTurned 24 = .ok (.iload 11, 2) := by decide +kernel
theorem dX0_farTurned_26 : decode cX0_farTurned 26 = .ok (.i2l, 1) := by decide +kernel
theorem dX0_farTurned_27 : decode cX0_farTurned 27 = .ok (.lmul, 1) := by decide +kernel
theorem dX0_farTurned_28 : decode cX0_farTurned 28 = .ok (.lsub, 1) := by decide +kernel
theorem dX0_farTurned_29 : decode cX0_farTurned 29 = .ok (.ldc2_w 84, 3) := by decide +kernel
theorem dX0_farTurned_32 : decode cX0_farTurned 32 = .ok (.ldiv, 1) := by decide +kernel
theorem dX0_farTurned_33 : decode cX0_farTurned 33 = .ok (.ladd, 1) := by decide +kernel
theorem dX0_farTurned_34 : decode cX0_farTurned 34 = .ok (.lstore 12, 2) := by decide +kernel
theorem dX0_farTurned_36 : decode cX0_farTurned 36 = .ok (.aload_n 0, 1) := by decide +kernel
theorem dX0_farTurned_37 : decode cX0_farTurned 37 = .ok (.getfield 67, 3) := by decide +kernel
theorem dX0_farTurned_40 : decode cX0_farTurned 40 = .ok (.lload_n 1, 1) := by decide +kernel
theorem dX0_farTurned_41 : decode cX0_farTurned 41 = .ok (.iload 11, 2) := by decide +kernel
theorem dX0_farTurned_43 : decode cX0_farTurned 43 = .ok (.i2l, 1) := by decide +kernel
theorem dX0_farTurned_44 : decode cX0_farTurned 44 = .ok (.lmul, 1) := by decide +kernel
theorem dX0_farTurned_45 : decode cX0_farTurned 45 = .ok (.lload_n 3, 1) := by decide +kernel
theorem dX0_farTurned_46 : decode cX0_farTurned 46 = .ok (.iload 10, 2) := by decide +kernel
theorem dX0_farTurned_48 : decode cX0_farTurned 48 = .ok (.i2l, 1) := by decide +kernel
theorem dX0_farTurned_49 : decode cX0_farTurned 49 = .ok (.lmul, 1) := by decide +kernel
theorem dX0_farTurned_50 : decode cX0_farTurned 50 = .ok (.ladd, 1) := by decide +kernel
theorem dX0_farTurned_51 : decode cX0_farTurned 51 = .ok (.ldc2_w 84, 3) := by decide +kernel
theorem dX0_farTurned_54 : decode cX0_farTurned 54 = .ok (.ldiv, 1) := by decide +kernel
theorem dX0_farTurned_55 : decode cX0_farTurned 55 = .ok (.ladd, 1) := by decide +kernel
theorem dX0_farTurned_56 : decode cX0_farTurned 56 = .ok (.lstore 14, 2) := by decide +kernel
theorem dX0_farTurned_58 : decode cX0_farTurned 58 = .ok (.lload 12, 2) := by decide +kernel
theorem dX0_farTurned_60 : decode cX0_farTurned 60 = .ok (.lload 5, 2) := by decide +kernel
theorem dX0_farTurned_62 : decode cX0_farTurned 62 = .ok (.lsub, 1) := by decide +kernel
theorem dX0_farTurned_63 : decode cX0_farTurned 63 = .ok (.invokestatic 86, 3) := by decide +kernel
theorem dX0_farTurned_66 : decode cX0_farTurned 66 = .ok (.lload 14, 2) := by decide +kernel
theorem dX0_farTurned_68 : decode cX0_farTurned 68 = .ok (.lload 7, 2) := by decide +kernel
theorem dX0_farTurned_70 : decode cX0_farTurned 70 = .ok (.lsub, 1) := by decide +kernel
theorem dX0_farTurned_71 : decode cX0_farTurned 71 = .ok (.invokestatic 86, 3) := by decide +kernel
theorem dX0_farTurned_74 : decode cX0_farTurned 74 = .ok (.invokestatic 92, 3) := by decide +kernel
theorem dX0_farTurned_77 : decode cX0_farTurned 77 = .ok (.lreturn, 1) := by decide +kernel
theorem dX1_init_0 : decode cX1_init 0 = .ok (.aload_n 0, 1) := by decide +kernel
theorem dX1_init_1 : decode cX1_init 1 = .ok (.invokespecial 3, 3) := by decide +kernel
theorem dX1_init_4 : decode cX1_init 4 = .ok (.aload_n 0, 1) := by decide +kernel
theorem dX1_init_5 : decode cX1_init 5 = .ok (.bipush 30, 2) := by decide +kernel
theorem dX1_init_7 : decode cX1_init 7 = .ok (.bipush 10, 2) := by decide +kernel
theorem dX1_init_9 : decode cX1_init 9 = .ok (.multianewarray 9 2, 4) := by decide +kernel
theorem dX1_init_13 : decode cX1_init 13 = .ok (.putfield 11, 3) := by decide +kernel
theorem dX1_init_16 : decode cX1_init 16 = .ok (.return_, 1) := by decide +kernel
theorem dX2_init_0 : decode cX2_init 0 = .ok (.aload_n 0, 1) := by decide +kernel
theorem dX2_init_1 : decode cX2_init 1 = .ok (.invokespecial 3, 3) := by decide +kernel
theorem dX2_init_4 : decode cX2_init 4 = .ok (.aload_n 0, 1) := by decide +kernel
theorem dX2_init_5 : decode cX2_init 5 = .ok (.bipush 6, 2) := by decide +kernel
theorem dX2_init_7 : decode cX2_init 7 = .ok (.anewarray 9, 3) := by decide +kernel
theorem dX2_init_10 : decode cX2_init 10 = .ok (.putfield 11, 3) := by decide +kernel
theorem dX2_init_13 : decode cX2_init 13 = .ok (.iconst 0, 1) := by decide +kernel
theorem dX2_init_14 : decode cX2_init 14 = .ok (.istore_n 1, 1) := by decide +kernel
theorem dX2_init_15 : decode cX2_init 15 = .ok (.iload_n 1, 1) := by decide +kernel
theorem dX2_init_16 : decode cX2_init 16 = .ok (.bipush 6, 2) := by decide +kernel
theorem dX2_init_18 : decode cX2_init 18 = .ok (.if_icmp .ge 22, 3) := by decide +kernel
theorem dX2_init_21 : decode cX2_init 21 = .ok (.aload_n 0, 1) := by decide +kernel
theorem dX2_init_22 : decode cX2_init 22 = .ok (.getfield 11, 3) := by decide +kernel
theorem dX2_init_25 : decode cX2_init 25 = .ok (.iload_n 1, 1) := by decide +kernel
theorem dX2_init_26 : decode cX2_init 26 = .ok (.new 9, 3) := by decide +kernel
theorem dX2_init_29 : decode cX2_init 29 = .ok (.dup, 1) := by decide +kernel
theorem dX2_init_30 : decode cX2_init 30 = .ok (.invokespecial 17, 3) := by decide +kernel
theorem dX2_init_33 : decode cX2_init 33 = .ok (.aastore, 1) := by decide +kernel
theorem dX2_init_34 : decode cX2_init 34 = .ok (.iinc 1 1, 3) := by decide +kernel
theorem dX2_init_37 : decode cX2_init 37 = .ok (.goto (-22), 3) := by decide +kernel
theorem dX2_init_40 : decode cX2_init 40 = .ok (.return_, 1) := by decide +kernel
theorem dX2_find_0 : decode cX2_find 0 = .ok (.iload_n 1, 1) := by decide +kernel
theorem dX2_find_1 : decode cX2_find 1 = .ok (.i2l, 1) := by decide +kernel
theorem dX2_find_2 : decode cX2_find 2 = .ok (.lconst 0, 1) := by decide +kernel
theorem dX2_find_3 : decode cX2_find 3 = .ok (.ldc2_w 18, 3) := by decide +kernel
theorem dX2_find_6 : decode cX2_find 6 = .ok (.invokestatic 20, 3) := by decide +kernel
theorem dX2_find_9 : decode cX2_find 9 = .ok (.ifCond .eq 12, 3) := by decide +kernel
theorem dX2_find_12 : decode cX2_find 12 = .ok (.aload_n 0, 1) := by decide +kernel
theorem dX2_find_13 : decode cX2_find 13 = .ok (.getfield 11, 3) := by decide +kernel
theorem dX2_find_16 : decode cX2_find 16 = .ok (.iload_n 1, 1) := by decide +kernel
theorem dX2_find_17 : decode cX2_find 17 = .ok (.aaload, 1) := by decide +kernel
theorem dX2_find_18 : decode cX2_find 18 = .ok (.goto 4, 3) := by decide +kernel
theorem dX2_find_21 : decode cX2_find 21 = .ok (.aconst_null, 1) := by decide +kernel
theorem dX2_find_22 : decode cX2_find 22 = .ok (.areturn, 1) := by decide +kernel
theorem dX2_findFrame_0 : decode cX2_findFrame 0 = .ok (.iload_n 1, 1) := by decide +kernel
theorem dX2_findFrame_1 : decode cX2_findFrame 1 = .ok (.ifCond .lt 26, 3) := by decide +kernel
theorem dX2_findFrame_4 : decode cX2_findFrame 4 = .ok (.iload_n 1, 1) := by decide +kernel
theorem dX2_findFrame_5 : decode cX2_findFrame 5 = .ok (.bipush 6, 2) := by decide +kernel
theorem dX2_findFrame_7 : decode cX2_findFrame 7 = .ok (.if_icmp .ge 20, 3) := by decide +kernel
theorem dX2_findFrame_10 : decode cX2_findFrame 10 = .ok (.iload_n 2, 1) := by decide +kernel
theorem dX2_findFrame_11 : decode cX2_findFrame 11 = .ok (.ifCond .lt 16, 3) := by decide +kernel
theorem dX2_findFrame_14 : decode cX2_findFrame 14 = .ok (.iload_n 2, 1) := by decide +kernel
theorem dX2_findFrame_15 : decode cX2_findFrame 15 = .ok (.aload_n 0, 1) := by decide +kernel
theorem dX2_findFrame_16 : decode cX2_findFrame 16 = .ok (.getfield 11, 3) := by decide +kernel
theorem dX2_findFrame_19 : decode cX2_findFrame 19 = .ok (.iload_n 1, 1) := by decide +kernel
theorem dX2_findFrame_20 : decode cX2_findFrame 20 = .ok (.aaload, 1) := by decide +kernel
theorem dX2_findFrame_21 : decode cX2_findFrame 21 = .ok (.getfield 24, 3) := by decide +kernel
theorem dX2_findFrame_24 : decode cX2_findFrame 24 = .ok (.if_icmp .lt 5, 3) := by decide +kernel
theorem dX2_findFrame_27 : decode cX2_findFrame 27 = .ok (.aconst_null, 1) := by decide +kernel
theorem dX2_findFrame_28 : decode cX2_findFrame 28 = .ok (.areturn, 1) := by decide +kernel
theorem dX2_findFrame_29 : decode cX2_findFrame 29 = .ok (.aload_n 0, 1) := by decide +kernel
theorem dX2_findFrame_30 : decode cX2_findFrame 30 = .ok (.getfield 11, 3) := by decide +kernel
theorem dX2_findFrame_33 : decode cX2_findFrame 33 = .ok (.iload_n 1, 1) := by decide +kernel
theorem dX2_findFrame_34 : decode cX2_findFrame 34 = .ok (.aaload, 1) := by decide +kernel
theorem dX2_findFrame_35 : decode cX2_findFrame 35 = .ok (.getfield 28, 3) := by decide +kernel
theorem dX2_findFrame_38 : decode cX2_findFrame 38 = .ok (.iload_n 2, 1) := by decide +kernel
theorem dX2_findFrame_39 : decode cX2_findFrame 39 = .ok (.aaload, 1) := by decide +kernel
theorem dX2_findFrame_40 : decode cX2_findFrame 40 = .ok (.areturn, 1) := by decide +kernel
theorem dX2_findSlot_0 : decode cX2_findSlot 0 = .ok (.aload_n 0, 1) := by decide +kernel
theorem dX2_findSlot_1 : decode cX2_findSlot 1 = .ok (.iload_n 1, 1) := by decide +kernel
theorem dX2_findSlot_2 : decode cX2_findSlot 2 = .ok (.bipush 30, 2) := by decide +kernel
theorem dX2_findSlot_4 : decode cX2_findSlot 4 = .ok (.idiv, 1) := by decide +kernel
theorem dX2_findSlot_5 : decode cX2_findSlot 5 = .ok (.iload_n 1, 1) := by decide +kernel
theorem dX2_findSlot_6 : decode cX2_findSlot 6 = .ok (.bipush 30, 2) := by decide +kernel
theorem dX2_findSlot_8 : decode cX2_findSlot 8 = .ok (.irem, 1) := by decide +kernel
theorem dX2_findSlot_9 : decode cX2_findSlot 9 = .ok (.invokevirtual 32, 3) := by decide +kernel
theorem dX2_findSlot_12 : decode cX2_findSlot 12 = .ok (.areturn, 1) := by decide +kernel
theorem dX2_total_0 : decode cX2_total 0 = .ok (.iconst 0, 1) := by decide +kernel
theorem dX2_total_1 : decode cX2_total 1 = .ok (.istore_n 1, 1) := by decide +kernel
theorem dX2_total_2 : decode cX2_total 2 = .ok (.iconst 0, 1) := by decide +kernel
theorem dX2_total_3 : decode cX2_total 3 = .ok (.istore_n 2, 1) := by decide +kernel
theorem dX2_total_4 : decode cX2_total 4 = .ok (.iload_n 2, 1) := by decide +kernel
theorem dX2_total_5 : decode cX2_total 5 = .ok (.bipush 6, 2) := by decide +kernel
theorem dX2_total_7 : decode cX2_total 7 = .ok (.if_icmp .ge 21, 3) := by decide +kernel
theorem dX2_total_10 : decode cX2_total 10 = .ok (.iload_n 1, 1) := by decide +kernel
theorem dX2_total_11 : decode cX2_total 11 = .ok (.aload_n 0, 1) := by decide +kernel
theorem dX2_total_12 : decode cX2_total 12 = .ok (.getfield 11, 3) := by decide +kernel
theorem dX2_total_15 : decode cX2_total 15 = .ok (.iload_n 2, 1) := by decide +kernel
theorem dX2_total_16 : decode cX2_total 16 = .ok (.aaload, 1) := by decide +kernel
theorem dX2_total_17 : decode cX2_total 17 = .ok (.getfield 24, 3) := by decide +kernel
theorem dX2_total_20 : decode cX2_total 20 = .ok (.iadd, 1) := by decide +kernel
theorem dX2_total_21 : decode cX2_total 21 = .ok (.istore_n 1, 1) := by decide +kernel
theorem dX2_total_22 : decode cX2_total 22 = .ok (.iinc 2 1, 3) := by decide +kernel
theorem dX2_total_25 : decode cX2_total 25 = .ok (.goto (-21), 3) := by decide +kernel
theorem dX2_total_28 : decode cX2_total 28 = .ok (.iload_n 1, 1) := by decide +kernel
theorem dX2_total_29 : decode cX2_total 29 = .ok (.ireturn, 1) := by decide +kernel
theorem dX2_likeness_0 : decode cX2_likeness 0 = .ok (.iconst 0, 1) := by decide +kernel
theorem dX2_likeness_1 : decode cX2_likeness 1 = .ok (.istore 4, 2) := by decide +kernel
theorem dX2_likeness_3 : decode cX2_likeness 3 = .ok (.iconst 0, 1) := by decide +kernel
theorem dX2_likeness_4 : decode cX2_likeness 4 = .ok (.istore 5, 2) := by decide +kernel
theorem dX2_likeness_6 : decode cX2_likeness 6 = .ok (.iload 5, 2) := by decide +kernel
theorem dX2_likeness_8 : decode cX2_likeness 8 = .ok (.aload_n 0, 1) := by decide +kernel
theorem dX2_likeness_9 : decode cX2_likeness 9 = .ok (.getfield 36, 3) := by decide +kernel
theorem dX2_likeness_12 : decode cX2_likeness 12 = .ok (.if_icmp .ge 31, 3) := by decide +kernel
theorem dX2_likeness_15 : decode cX2_likeness 15 = .ok (.iload 4, 2) := by decide +kernel
theorem dX2_likeness_17 : decode cX2_likeness 17 = .ok (.iload_n 3, 1) := by decide +kernel
theorem dX2_likeness_18 : decode cX2_likeness 18 = .ok (.if_icmp .gt 25, 3) := by decide +kernel
theorem dX2_likeness_21 : decode cX2_likeness 21 = .ok (.iload 4, 2) := by decide +kernel
theorem dX2_likeness_23 : decode cX2_likeness 23 = .ok (.aload_n 1, 1) := by decide +kernel
theorem dX2_likeness_24 : decode cX2_likeness 24 = .ok (.iload 5, 2) := by decide +kernel
theorem dX2_likeness_26 : decode cX2_likeness 26 = .ok (.iaload, 1) := by decide +kernel
theorem dX2_likeness_27 : decode cX2_likeness 27 = .ok (.aload_n 2, 1) := by decide +kernel
theorem dX2_likeness_28 : decode cX2_likeness 28 = .ok (.iload 5, 2) := by decide +kernel
theorem dX2_likeness_30 : decode cX2_likeness 30 = .ok (.iaload, 1) := by decide +kernel
theorem dX2_likeness_31 : decode cX2_likeness 31 = .ok (.invokestatic 39, 3) := by decide +kernel
theorem dX2_likeness_34 : decode cX2_likeness 34 = .ok (.iadd, 1) := by decide +kernel
theorem dX2_likeness_35 : decode cX2_likeness 35 = .ok (.istore 4, 2) := by decide +kernel
theorem dX2_likeness_37 : decode cX2_likeness 37 = .ok (.iinc 5 1, 3) := by decide +kernel
theorem dX2_likeness_40 : decode cX2_likeness 40 = .ok (.goto (-34), 3) := by decide +kernel
theorem dX2_likeness_43 : decode cX2_likeness 43 = .ok (.iload 4, 2) := by decide +kernel
theorem dX2_likeness_45 : decode cX2_likeness 45 = .ok (.ireturn, 1) := by decide +kernel
theorem dX2_digestOn_0 : decode cX2_digestOn 0 = .ok (.lload_n 1, 1) := by decide +kernel
theorem dX2_digestOn_1 : decode cX2_digestOn 1 = .ok (.lstore_n 3, 1) := by decide +kernel
theorem dX2_digestOn_2 : decode cX2_digestOn 2 = .ok (.iconst 0, 1) := by decide +kernel
theorem dX2_digestOn_3 : decode cX2_digestOn 3 = .ok (.istore 5, 2) := by decide +kernel
theorem dX2_digestOn_5 : decode cX2_digestOn 5 = .ok (.iload 5, 2) := by decide +kernel
theorem dX2_digestOn_7 : decode cX2_digestOn 7 = .ok (.bipush 6, 2) := by decide +kernel
theorem dX2_digestOn_9 : decode cX2_digestOn 9 = .ok (.if_icmp .ge 75, 3) := by decide +kernel
theorem dX2_digestOn_12 : decode cX2_digestOn 12 = .ok (.iconst 0, 1) := by decide +kernel
theorem dX2_digestOn_13 : decode cX2_digestOn 13 = .ok (.istore 6, 2) := by decide +kernel
theorem dX2_digestOn_15 : decode cX2_digestOn 15 = .ok (.iload 6, 2) := by decide +kernel
theorem dX2_digestOn_17 : decode cX2_digestOn 17 = .ok (.aload_n 0, 1) := by decide +kernel
theorem dX2_digestOn_18 : decode cX2_digestOn 18 = .ok (.getfield 11, 3) := by decide +kernel
theorem dX2_digestOn_21 : decode cX2_digestOn 21 = .ok (.iload 5, 2) := by decide +kernel
theorem dX2_digestOn_23 : decode cX2_digestOn 23 = .ok (.aaload, 1) := by decide +kernel
theorem dX2_digestOn_24 : decode cX2_digestOn 24 = .ok (.getfield 24, 3) := by decide +kernel
theorem dX2_digestOn_27 : decode cX2_digestOn 27 = .ok (.if_icmp .ge 51, 3) := by decide +kernel
theorem dX2_digestOn_30 : decode cX2_digestOn 30 = .ok (.iconst 0, 1) := by decide +kernel
theorem dX2_digestOn_31 : decode cX2_digestOn 31 = .ok (.istore 7, 2) := by decide +kernel
theorem dX2_digestOn_33 : decode cX2_digestOn 33 = .ok (.iload 7, 2) := by decide +kernel
theorem dX2_digestOn_35 : decode cX2_digestOn 35 = .ok (.aload_n 0, 1) := by decide +kernel
theorem dX2_digestOn_36 : decode cX2_digestOn 36 = .ok (.getfield 36, 3) := by decide +kernel
theorem dX2_digestOn_39 : decode cX2_digestOn 39 = .ok (.if_icmp .ge 33, 3) := by decide +kernel
theorem dX2_digestOn_42 : decode cX2_digestOn 42 = .ok (.ldc2_w 45, 3) := by decide +kernel
theorem dX2_digestOn_45 : decode cX2_digestOn 45 = .ok (.lload_n 3, 1) := by decide +kernel
theorem dX2_digestOn_46 : decode cX2_digestOn 46 = .ok (.lmul, 1) := by decide +kernel
theorem dX2_digestOn_47 : decode cX2_digestOn 47 = .ok (.aload_n 0, 1) := by decide +kernel
theorem dX2_digestOn_48 : decode cX2_digestOn 48 = .ok (.getfield 11, 3) := by decide +kernel
theorem dX2_digestOn_51 : decode cX2_digestOn 51 = .ok (.iload 5, 2) := by decide +kernel
theorem dX2_digestOn_53 : decode cX2_digestOn 53 = .ok (.aaload, 1) := by decide +kernel
theorem dX2_digestOn_54 : decode cX2_digestOn 54 = .ok (.getfield 28, 3) := by decide +kernel
theorem dX2_digestOn_57 : decode cX2_digestOn 57 = .ok (.iload 6, 2) := by decide +kernel
theorem dX2_digestOn_59 : decode cX2_digestOn 59 = .ok (.aaload, 1) := by decide +kernel
theorem dX2_digestOn_60 : decode cX2_digestOn 60 = .ok (.iload 7, 2) := by decide +kernel
theorem dX2_digestOn_62 : decode cX2_digestOn 62 = .ok (.iaload, 1) := by decide +kernel
theorem dX2_digestOn_63 : decode cX2_digestOn 63 = .ok (.i2l, 1) := by decide +kernel
theorem dX2_digestOn_64 : decode cX2_digestOn 64 = .ok (.ladd, 1) := by decide +kernel
theorem dX2_digestOn_65 : decode cX2_digestOn 65 = .ok (.lstore_n 3, 1) := by decide +kernel
theorem dX2_digestOn_66 : decode cX2_digestOn 66 = .ok (.iinc 7 1, 3) := by decide +kernel
theorem dX2_digestOn_69 : decode cX2_digestOn 69 = .ok (.goto (-36), 3) := by decide +kernel
theorem dX2_digestOn_72 : decode cX2_digestOn 72 = .ok (.iinc 6 1, 3) := by decide +kernel
theorem dX2_digestOn_75 : decode cX2_digestOn 75 = .ok (.goto (-60), 3) := by decide +kernel
theorem dX2_digestOn_78 : decode cX2_digestOn 78 = .ok (.iinc 5 1, 3) := by decide +kernel
theorem dX2_digestOn_81 : decode cX2_digestOn 81 = .ok (.goto (-76), 3) := by decide +kernel
theorem dX2_digestOn_84 : decode cX2_digestOn 84 = .ok (.lload_n 3, 1) := by decide +kernel
theorem dX2_digestOn_85 : decode cX2_digestOn 85 = .ok (.lreturn, 1) := by decide +kernel
theorem dX3_init_0 : decode cX3_init 0 = .ok (.aload_n 0, 1) := by decide +kernel
theorem dX3_init_1 : decode cX3_init 1 = .ok (.invokespecial 3, 3) := by decide +kernel
theorem dX3_init_4 : decode cX3_init 4 = .ok (.aload_n 0, 1) := by decide +kernel
theorem dX3_init_5 : decode cX3_init 5 = .ok (.iconst 3, 1) := by decide +kernel
theorem dX3_init_6 : decode cX3_init 6 = .ok (.putfield 9, 3) := by decide +kernel
theorem dX3_init_9 : decode cX3_init 9 = .ok (.aload_n 0, 1) := by decide +kernel
theorem dX3_init_10 : decode cX3_init 10 = .ok (.iconst (-1), 1) := by decide +kernel
theorem dX3_init_11 : decode cX3_init 11 = .ok (.putfield 15, 3) := by decide +kernel
theorem dX3_init_14 : decode cX3_init 14 = .ok (.aload_n 0, 1) := by decide +kernel
theorem dX3_init_15 : decode cX3_init 15 = .ok (.sipush 180, 3) := by decide +kernel
theorem dX3_init_18 : decode cX3_init 18 = .ok (.newarray .int, 2) := by decide +kernel
theorem dX3_init_20 : decode cX3_init 20 = .ok (.putfield 18, 3) := by decide +kernel
theorem dX3_init_23 : decode cX3_init 23 = .ok (.aload_n 0, 1) := by decide +kernel
theorem dX3_init_24 : decode cX3_init 24 = .ok (.sipush 180, 3) := by decide +kernel
theorem dX3_init_27 : decode cX3_init 27 = .ok (.newarray .int, 2) := by decide +kernel
theorem dX3_init_29 : decode cX3_init 29 = .ok (.putfield 22, 3) := by decide +kernel
theorem dX3_init_32 : decode cX3_init 32 = .ok (.aload_n 0, 1) := by decide +kernel
theorem dX3_init_33 : decode cX3_init 33 = .ok (.sipush 180, 3) := by decide +kernel
theorem dX3_init_36 : decode cX3_init 36 = .ok (.newarray .int, 2) := by decide +kernel
theorem dX3_init_38 : decode cX3_init 38 = .ok (.putfield 25, 3) := by decide +kernel
theorem dX3_init_41 : decode cX3_init 41 = .ok (.aload_n 0, 1) := by decide +kernel
theorem dX3_init_42 : decode cX3_init 42 = .ok (.sipush 180, 3) := by decide +kernel
theorem dX3_init_45 : decode cX3_init 45 = .ok (.newarray .int, 2) := by decide +kernel
theorem dX3_init_47 : decode cX3_init 47 = .ok (.putfield 28, 3) := by decide +kernel
theorem dX3_init_50 : decode cX3_init 50 = .ok (.aload_n 0, 1) := by decide +kernel
theorem dX3_init_51 : decode cX3_init 51 = .ok (.sipush 180, 3) := by decide +kernel
theorem dX3_init_54 : decode cX3_init 54 = .ok (.newarray .boolean, 2) := by decide +kernel
theorem dX3_init_56 : decode cX3_init 56 = .ok (.putfield 31, 3) := by decide +kernel
theorem dX3_init_59 : decode cX3_init 59 = .ok (.return_, 1) := by decide +kernel
theorem dX3_lastJoined_0 : decode cX3_lastJoined 0 = .ok (.bipush 29, 2) := by decide +kernel
theorem dX3_lastJoined_2 : decode cX3_lastJoined 2 = .ok (.istore_n 3, 1) := by decide +kernel
theorem dX3_lastJoined_3 : decode cX3_lastJoined 3 = .ok (.iload_n 3, 1) := by decide +kernel
theorem dX3_lastJoined_4 : decode cX3_lastJoined 4 = .ok (.ifCond .lt 40, 3) := by decide +kernel
theorem dX3_lastJoined_7 : decode cX3_lastJoined 7 = .ok (.aload_n 1, 1) := by decide +kernel
theorem dX3_lastJoined_8 : decode cX3_lastJoined 8 = .ok (.iload_n 2, 1) := by decide +kernel
theorem dX3_lastJoined_9 : decode cX3_lastJoined 9 = .ok (.iload_n 3, 1) := by decide +kernel
theorem dX3_lastJoined_10 : decode cX3_lastJoined 10 = .ok (.invokevirtual 35, 3) := by decide +kernel
theorem dX3_lastJoined_13 : decode cX3_lastJoined 13 = .ok (.astore 4, 2) := by decide +kernel
theorem dX3_lastJoined_15 : decode cX3_lastJoined 15 = .ok (.aload 4, 2) := by decide +kernel
theorem dX3_lastJoined_17 : decode cX3_lastJoined 17 = .ok (.ifnull 21, 3) := by decide +kernel
theorem dX3_lastJoined_20 : decode cX3_lastJoined 20 = .ok (.aload_n 0, 1) := by decide +kernel
theorem dX3_lastJoined_21 : decode cX3_lastJoined 21 = .ok (.aload_n 1, 1) := by decide +kernel
theorem dX3_lastJoined_22 : decode cX3_lastJoined 22 = .ok (.aload 4, 2) := by decide +kernel
theorem dX3_lastJoined_24 : decode cX3_lastJoined 24 = .ok (.bipush 30, 2) := by decide +kernel
theorem dX3_lastJoined_26 : decode cX3_lastJoined 26 = .ok (.iload_n 2, 1) := by decide +kernel
theorem dX3_lastJoined_27 : decode cX3_lastJoined 27 = .ok (.imul, 1) := by decide +kernel
theorem dX3_lastJoined_28 : decode cX3_lastJoined 28 = .ok (.iload_n 3, 1) := by decide +kernel
theorem dX3_lastJoined_29 : decode cX3_lastJoined 29 = .ok (.iadd, 1) := by decide +kernel
theorem dX3_lastJoined_30 : decode cX3_lastJoined 30 = .ok (.invokevirtual 41, 3) := by decide +kernel
theorem dX3_lastJoined_33 : decode cX3_lastJoined 33 = .ok (.ifCond .eq 5, 3) := by decide +kernel
theorem dX3_lastJoined_36 : decode cX3_lastJoined 36 = .ok (.iload_n 3, 1) := by decide +kernel
theorem dX3_lastJoined_37 : decode cX3_lastJoined 37 = .ok (.ireturn, 1) := by decide +kernel
theorem dX3_lastJoined_38 : decode cX3_lastJoined 38 = .ok (.iinc 3 (-1), 3) := by decide +kernel
theorem dX3_lastJoined_41 : decode cX3_lastJoined 41 = .ok (.goto (-38), 3) := by decide +kernel
theorem dX3_lastJoined_44 : decode cX3_lastJoined 44 = .ok (.iconst (-1), 1) := by decide +kernel
theorem dX3_lastJoined_45 : decode cX3_lastJoined 45 = .ok (.ireturn, 1) := by decide +kernel
theorem dX3_isJoined_0 : decode cX3_isJoined 0 = .ok (.iconst 0, 1) := by decide +kernel
theorem dX3_isJoined_1 : decode cX3_isJoined 1 = .ok (.istore 4, 2) := by decide +kernel
theorem dX3_isJoined_3 : decode cX3_isJoined 3 = .ok (.iload 4, 2) := by decide +kernel
theorem dX3_isJoined_5 : decode cX3_isJoined 5 = .ok (.sipush 180, 3) := by decide +kernel
theorem dX3_isJoined_8 : decode cX3_isJoined 8 = .ok (.if_icmp .ge 48, 3) := by decide +kernel
theorem dX3_isJoined_11 : decode cX3_isJoined 11 = .ok (.aload_n 1, 1) := by decide +kernel
theorem dX3_isJoined_12 : decode cX3_isJoined 12 = .ok (.iload 4, 2) := by decide +kernel
theorem dX3_isJoined_14 : decode cX3_isJoined 14 = .ok (.invokevirtual 45, 3) := by decide +kernel
theorem dX3_isJoined_17 : decode cX3_isJoined 17 = .ok (.astore 5, 2) := by decide +kernel
theorem dX3_isJoined_19 : decode cX3_isJoined 19 = .ok (.aload 5, 2) := by decide +kernel
theorem dX3_isJoined_21 : decode cX3_isJoined 21 = .ok (.ifnull 29, 3) := by decide +kernel
theorem dX3_isJoined_24 : decode cX3_isJoined 24 = .ok (.iload 4, 2) := by decide +kernel
theorem dX3_isJoined_26 : decode cX3_isJoined 26 = .ok (.iload_n 3, 1) := by decide +kernel
theorem dX3_isJoined_27 : decode cX3_isJoined 27 = .ok (.if_icmp .eq 23, 3) := by decide +kernel
theorem dX3_isJoined_30 : decode cX3_isJoined 30 = .ok (.aload_n 1, 1) := by decide +kernel
theorem dX3_isJoined_31 : decode cX3_isJoined 31 = .ok (.aload_n 2, 1) := by decide +kernel
theorem dX3_isJoined_32 : decode cX3_isJoined 32 = .ok (.aload 5, 2) := by decide +kernel
theorem dX3_isJoined_34 : decode cX3_isJoined 34 = .ok (.aload_n 0, 1) := by decide +kernel
theorem dX3_isJoined_35 : decode cX3_isJoined 35 = .ok (.getfield 9, 3) := by decide +kernel
theorem dX3_isJoined_38 : decode cX3_isJoined 38 = .ok (.invokevirtual 49, 3) := by decide +kernel
theorem dX3_isJoined_41 : decode cX3_isJoined 41 = .ok (.aload_n 0, 1) := by decide +kernel
theorem dX3_isJoined_42 : decode cX3_isJoined 42 = .ok (.getfield 9, 3) := by decide +kernel
theorem dX3_isJoined_45 : decode cX3_isJoined 45 = .ok (.if_icmp .gt 5, 3) := by decide +kernel
theorem dX3_isJoined_48 : decode cX3_isJoined 48 = .ok (.iconst 1, 1) := by decide +kernel
theorem dX3_isJoined_49 : decode cX3_isJoined 49 = .ok (.ireturn, 1) := by decide +kernel
theorem dX3_isJoined_50 : decode cX3_isJoined 50 = .ok (.iinc 4 1, 3) := by decide +kernel
theorem dX3_isJoined_53 : decode cX3_isJoined 53 = .ok (.goto (-50), 3) := by decide +kernel
theorem dX3_isJoined_56 : decode cX3_isJoined 56 = .ok (.iconst 0, 1) := by decide +kernel
theorem dX3_isJoined_57 : decode cX3_isJoined 57 = .ok (.ireturn, 1) := by decide +kernel
theorem dX3_findWalk_0 : decode cX3_findWalk 0 = .ok (.aload_n 0, 1) := by decide +kernel
theorem dX3_findWalk_1 : decode cX3_findWalk 1 = .ok (.aload_n 1, 1) := by decide +kernel
theorem dX3_findWalk_2 : decode cX3_findWalk 2 = .ok (.iload_n 3, 1) := by decide +kernel
theorem dX3_findWalk_3 : decode cX3_findWalk 3 = .ok (.invokevirtual 53, 3) := by decide +kernel
theorem dX3_findWalk_6 : decode cX3_findWalk 6 = .ok (.iconst 0, 1) := by decide +kernel
theorem dX3_findWalk_7 : decode cX3_findWalk 7 = .ok (.istore 4, 2) := by decide +kernel
theorem dX3_findWalk_9 : decode cX3_findWalk 9 = .ok (.iload 4, 2) := by decide +kernel
theorem dX3_findWalk_11 : decode cX3_findWalk 11 = .ok (.aload_n 0, 1) := by decide +kernel
theorem dX3_findWalk_12 : decode cX3_findWalk 12 = .ok (.getfield 57, 3) := by decide +kernel
theorem dX3_findWalk_15 : decode cX3_findWalk 15 = .ok (.if_icmp .ge 48, 3) := by decide +kernel
theorem dX3_findWalk_18 : decode cX3_findWalk 18 = .ok (.aload_n 0, 1) := by decide +kernel
theorem dX3_findWalk_19 : decode cX3_findWalk 19 = .ok (.getfield 31, 3) := by decide +kernel
theorem dX3_findWalk_22 : decode cX3_findWalk 22 = .ok (.iload_n 2, 1) := by decide +kernel
theorem dX3_findWalk_23 : decode cX3_findWalk 23 = .ok (.baload, 1) := by decide +kernel
theorem dX3_findWalk_24 : decode cX3_findWalk 24 = .ok (.ifCond .ne 39, 3) := by decide +kernel
theorem dX3_findWalk_27 : decode cX3_findWalk 27 = .ok (.aload_n 0, 1) := by decide +kernel
theorem dX3_findWalk_28 : decode cX3_findWalk 28 = .ok (.invokevirtual 60, 3) := by decide +kernel
theorem dX3_findWalk_31 : decode cX3_findWalk 31 = .ok (.istore 5, 2) := by decide +kernel
theorem dX3_findWalk_33 : decode cX3_findWalk 33 = .ok (.iload 5, 2) := by decide +kernel
theorem dX3_findWalk_35 : decode cX3_findWalk 35 = .ok (.iconst (-1), 1) := by decide +kernel
theorem dX3_findWalk_36 : decode cX3_findWalk 36 = .ok (.if_icmp .ne 6, 3) := by decide +kernel
theorem dX3_findWalk_39 : decode cX3_findWalk 39 = .ok (.goto 24, 3) := by decide +kernel
theorem dX3_findWalk_42 : decode cX3_findWalk 42 = .ok (.aload_n 0, 1) := by decide +kernel
theorem dX3_findWalk_43 : decode cX3_findWalk 43 = .ok (.getfield 31, 3) := by decide +kernel
theorem dX3_findWalk_46 : decode cX3_findWalk 46 = .ok (.iload 5, 2) := by decide +kernel
theorem dX3_findWalk_48 : decode cX3_findWalk 48 = .ok (.iconst 1, 1) := by decide +kernel
theorem dX3_findWalk_49 : decode cX3_findWalk 49 = .ok (.bastore, 1) := by decide +kernel
theorem dX3_findWalk_50 : decode cX3_findWalk 50 = .ok (.aload_n 0, 1) := by decide +kernel
theorem dX3_findWalk_51 : decode cX3_findWalk 51 = .ok (.aload_n 1, 1) := by decide +kernel
theorem dX3_findWalk_52 : decode cX3_findWalk 52 = .ok (.iload 5, 2) := by decide +kernel
theorem dX3_findWalk_54 : decode cX3_findWalk 54 = .ok (.invokevirtual 64, 3) := by decide +kernel
theorem dX3_findWalk_57 : decode cX3_findWalk 57 = .ok (.iinc 4 1, 3) := by decide +kernel
theorem dX3_findWalk_60 : decode cX3_findWalk 60 = .ok (.goto (-51), 3) := by decide +kernel
theorem dX3_findWalk_63 : decode cX3_findWalk 63 = .ok (.aload_n 0, 1) := by decide +kernel
theorem dX3_findWalk_64 : decode cX3_findWalk 64 = .ok (.aload_n 0, 1) := by decide +kernel
theorem dX3_findWalk_65 : decode cX3_findWalk 65 = .ok (.getfield 31, 3) := by decide +kernel
theorem dX3_findWalk_68 : decode cX3_findWalk 68 = .ok (.iload_n 2, 1) := by decide +kernel
theorem dX3_findWalk_69 : decode cX3_findWalk 69 = .ok (.baload, 1) := by decide +kernel
theorem dX3_findWalk_70 : decode cX3_findWalk 70 = .ok (.ifCond .eq 12, 3) := by decide +kernel
theorem dX3_findWalk_73 : decode cX3_findWalk 73 = .ok (.aload_n 0, 1) := by decide +kernel
theorem dX3_findWalk_74 : decode cX3_findWalk 74 = .ok (.getfield 25, 3) := by decide +kernel
theorem dX3_findWalk_77 : decode cX3_findWalk 77 = .ok (.iload_n 2, 1) := by decide +kernel
theorem dX3_findWalk_78 : decode cX3_findWalk 78 = .ok (.iaload, 1) := by decide +kernel
theorem dX3_findWalk_79 : decode cX3_findWalk 79 = .ok (.goto 4, 3) := by decide +kernel
theorem dX3_findWalk_82 : decode cX3_findWalk 82 = .ok (.iconst (-1), 1) := by decide +kernel
theorem dX3_findWalk_83 : decode cX3_findWalk 83 = .ok (.putfield 15, 3) := by decide +kernel
theorem dX3_findWalk_86 : decode cX3_findWalk 86 = .ok (.aload_n 0, 1) := by decide +kernel
theorem dX3_findWalk_87 : decode cX3_findWalk 87 = .ok (.iload_n 2, 1) := by decide +kernel
theorem dX3_findWalk_88 : decode cX3_findWalk 88 = .ok (.iload_n 3, 1) := by decide +kernel
theorem dX3_findWalk_89 : decode cX3_findWalk 89 = .ok (.invokevirtual 67, 3) := by decide +kernel
theorem dX3_findWalk_92 : decode cX3_findWalk 92 = .ok (.return_, 1) := by decide +kernel
theorem dX3_begin_0 : decode cX3_begin 0 = .ok (.aload_n 0, 1) := by decide +kernel
theorem dX3_begin_1 : decode cX3_begin 1 = .ok (.iconst 0, 1) := by decide +kernel
theorem dX3_begin_2 : decode cX3_begin 2 = .ok (.putfield 57, 3) := by decide +kernel
theorem dX3_begin_5 : decode cX3_begin 5 = .ok (.iconst 0, 1) := by decide +kernel
theorem dX3_begin_6 : decode cX3_begin 6 = .ok (.istore_n 3, 1) := by decide +kernel
theorem dX3_begin_7 : decode cX3_begin 7 = .ok (.iload_n 3, 1) := by decide +kernel
theorem dX3_begin_8 : decode cX3_begin 8 = .ok (.sipush 180, 3) := by decide +kernel
theorem dX3_begin_11 : decode cX3_begin 11 = .ok (.if_icmp .ge 44, 3) := by decide +kernel
theorem dX3_begin_14 : decode cX3_begin 14 = .ok (.aload_n 0, 1) := by decide +kernel
theorem dX3_begin_15 : decode cX3_begin 15 = .ok (.getfield 31, 3) := by decide +kernel
theorem dX3_begin_18 : decode cX3_begin 18 = .ok (.iload_n 3, 1) := by decide +kernel
theorem dX3_begin_19 : decode cX3_begin 19 = .ok (.iconst 0, 1) := by decide +kernel
theorem dX3_begin_20 : decode cX3_begin 20 = .ok (.bastore, 1) := by decide +kernel
theorem dX3_begin_21 : decode cX3_begin 21 = .ok (.aload_n 1, 1) := by decide +kernel
theorem dX3_begin_22 : decode cX3_begin 22 = .ok (.iload_n 3, 1) := by decide +kernel
theorem dX3_begin_23 : decode cX3_begin 23 = .ok (.invokevirtual 45, 3) := by decide +kernel
theorem dX3_begin_26 : decode cX3_begin 26 = .ok (.ifnull 23, 3) := by decide +kernel
theorem dX3_begin_29 : decode cX3_begin 29 = .ok (.aload_n 0, 1) := by decide +kernel
theorem dX3_begin_30 : decode cX3_begin 30 = .ok (.getfield 22, 3) := by decide +kernel
theorem dX3_begin_33 : decode cX3_begin 33 = .ok (.aload_n 0, 1) := by decide +kernel
theorem dX3_begin_34 : decode cX3_begin 34 = .ok (.getfield 57, 3) := by decide +kernel
theorem dX3_begin_37 : decode cX3_begin 37 = .ok (.iload_n 3, 1) := by decide +kernel
theorem dX3_begin_38 : decode cX3_begin 38 = .ok (.iastore, 1) := by decide +kernel
theorem dX3_begin_39 : decode cX3_begin 39 = .ok (.aload_n 0, 1) := by decide +kernel
theorem dX3_begin_40 : decode cX3_begin 40 = .ok (.dup, 1) := by decide +kernel
theorem dX3_begin_41 : decode cX3_begin 41 = .ok (.getfield 57, 3) := by decide +kernel
theorem dX3_begin_44 : decode cX3_begin 44 = .ok (.iconst 1, 1) := by decide +kernel
theorem dX3_begin_45 : decode cX3_begin 45 = .ok (.iadd, 1) := by decide +kernel
theorem dX3_begin_46 : decode cX3_begin 46 = .ok (.putfield 57, 3) := by decide +kernel
theorem dX3_begin_49 : decode cX3_begin 49 = .ok (.iinc 3 1, 3) := by decide +kernel
theorem dX3_begin_52 : decode cX3_begin 52 = .ok (.goto (-45), 3) := by decide +kernel
theorem dX3_begin_55 : decode cX3_begin 55 = .ok (.aload_n 0, 1) := by decide +kernel
theorem dX3_begin_56 : decode cX3_begin 56 = .ok (.getfield 25, 3) := by decide +kernel
theorem dX3_begin_59 : decode cX3_begin 59 = .ok (.ldc 71, 2) := by decide +kernel
theorem dX3_begin_61 : decode cX3_begin 61 = .ok (.invokestatic 72, 3) := by decide +kernel
theorem dX3_begin_64 : decode cX3_begin 64 = .ok (.aload_n 0, 1) := by decide +kernel
theorem dX3_begin_65 : decode cX3_begin 65 = .ok (.getfield 28, 3) := by decide +kernel
theorem dX3_begin_68 : decode cX3_begin 68 = .ok (.iconst (-1), 1) := by decide +kernel
theorem dX3_begin_69 : decode cX3_begin 69 = .ok (.invokestatic 72, 3) := by decide +kernel
theorem dX3_begin_72 : decode cX3_begin 72 = .ok (.aload_n 0, 1) := by decide +kernel
theorem dX3_begin_73 : decode cX3_begin 73 = .ok (.getfield 25, 3) := by decide +kernel
theorem dX3_begin_76 : decode cX3_begin 76 = .ok (.iload_n 2, 1) := by decide +kernel
theorem dX3_begin_77 : decode cX3_begin 77 = .ok (.iconst 0, 1) := by decide +kernel
theorem dX3_begin_78 : decode cX3_begin 78 = .ok (.iastore, 1) := by decide +kernel
theorem dX3_begin_79 : decode cX3_begin 79 = .ok (.return_, 1) := by decide +kernel
theorem dX3_nearestOpen_0 : decode cX3_nearestOpen 0 = .ok (.iconst (-1), 1) := by decide +kernel
theorem dX3_nearestOpen_1 : decode cX3_nearestOpen 1 = .ok (.istore_n 1, 1) := by decide +kernel
theorem dX3_nearestOpen_2 : decode cX3_nearestOpen 2 = .ok (.ldc 71, 2) := by decide +kernel
theorem dX3_nearestOpen_4 : decode cX3_nearestOpen 4 = .ok (.istore_n 2, 1) := by decide +kernel
theorem dX3_nearestOpen_5 : decode cX3_nearestOpen 5 = .ok (.iconst 0, 1) := by decide +kernel
theorem dX3_nearestOpen_6 : decode cX3_nearestOpen 6 = .ok (.istore_n 3, 1) := by decide +kernel
theorem dX3_nearestOpen_7 : decode cX3_nearestOpen 7 = .ok (.iload_n 3, 1) := by decide +kernel
theorem dX3_nearestOpen_8 : decode cX3_nearestOpen 8 = .ok (.aload_n 0, 1) := by decide +kernel
theorem dX3_nearestOpen_9 : decode cX3_nearestOpen 9 = .ok (.getfield 57, 3) := by decide +kernel
theorem dX3_nearestOpen_12 : decode cX3_nearestOpen 12 = .ok (.if_icmp .ge 49, 3) := by decide +kernel
theorem dX3_nearestOpen_15 : decode cX3_nearestOpen 15 = .ok (.aload_n 0, 1) := by decide +kernel
theorem dX3_nearestOpen_16 : decode cX3_nearestOpen 16 = .ok (.getfield 22, 3) := by decide +kernel
theorem dX3_nearestOpen_19 : decode cX3_nearestOpen 19 = .ok (.iload_n 3, 1) := by decide +kernel
theorem dX3_nearestOpen_20 : decode cX3_nearestOpen 20 = .ok (.iaload, 1) := by decide +kernel
theorem dX3_nearestOpen_21 : decode cX3_nearestOpen 21 = .ok (.istore 4, 2) := by decide +kernel
theorem dX3_nearestOpen_23 : decode cX3_nearestOpen 23 = .ok (.aload_n 0, 1) := by decide +kernel
theorem dX3_nearestOpen_24 : decode cX3_nearestOpen 24 = .ok (.getfield 31, 3) := by decide +kernel
theorem dX3_nearestOpen_27 : decode cX3_nearestOpen 27 = .ok (.iload 4, 2) := by decide +kernel
theorem dX3_nearestOpen_29 : decode cX3_nearestOpen 29 = .ok (.baload, 1) := by decide +kernel
theorem dX3_nearestOpen_30 : decode cX3_nearestOpen 30 = .ok (.ifCond .ne 25, 3) := by decide +kernel
theorem dX3_nearestOpen_33 : decode cX3_nearestOpen 33 = .ok (.aload_n 0, 1) := by decide +kernel
theorem dX3_nearestOpen_34 : decode cX3_nearestOpen 34 = .ok (.getfield 25, 3) := by decide +kernel
theorem dX3_nearestOpen_37 : decode cX3_nearestOpen 37 = .ok (.iload 4, 2) := by decide +kernel
theorem dX3_nearestOpen_39 : decode cX3_nearestOpen 39 = .ok (.iaload, 1) := by decide +kernel
theorem dX3_nearestOpen_40 : decode cX3_nearestOpen 40 = .ok (.iload_n 2, 1) := by decide +kernel
theorem dX3_nearestOpen_41 : decode cX3_nearestOpen 41 = .ok (.if_icmp .ge 14, 3) := by decide +kernel
theorem dX3_nearestOpen_44 : decode cX3_nearestOpen 44 = .ok (.aload_n 0, 1) := by decide +kernel
theorem dX3_nearestOpen_45 : decode cX3_nearestOpen 45 = .ok (.getfield 25, 3) := by decide +kernel
theorem dX3_nearestOpen_48 : decode cX3_nearestOpen 48 = .ok (.iload 4, 2) := by decide +kernel
theorem dX3_nearestOpen_50 : decode cX3_nearestOpen 50 = .ok (.iaload, 1) := by decide +kernel
theorem dX3_nearestOpen_51 : decode cX3_nearestOpen 51 = .ok (.istore_n 2, 1) := by decide +kernel
theorem dX3_nearestOpen_52 : decode cX3_nearestOpen 52 = .ok (.iload 4, 2) := by decide +kernel
theorem dX3_nearestOpen_54 : decode cX3_nearestOpen 54 = .ok (.istore_n 1, 1) := by decide +kernel
theorem dX3_nearestOpen_55 : decode cX3_nearestOpen 55 = .ok (.iinc 3 1, 3) := by decide +kernel
theorem dX3_nearestOpen_58 : decode cX3_nearestOpen 58 = .ok (.goto (-51), 3) := by decide +kernel
theorem dX3_nearestOpen_61 : decode cX3_nearestOpen 61 = .ok (.iload_n 1, 1) := by decide +kernel
theorem dX3_nearestOpen_62 : decode cX3_nearestOpen 62 = .ok (.ireturn, 1) := by decide +kernel
theorem dX3_reachFrom_0 : decode cX3_reachFrom 0 = .ok (.iconst 0, 1) := by decide +kernel
theorem dX3_reachFrom_1 : decode cX3_reachFrom 1 = .ok (.istore_n 3, 1) := by decide +kernel
theorem dX3_reachFrom_2 : decode cX3_reachFrom 2 = .ok (.iload_n 3, 1) := by decide +kernel
theorem dX3_reachFrom_3 : decode cX3_reachFrom 3 = .ok (.aload_n 0, 1) := by decide +kernel
theorem dX3_reachFrom_4 : decode cX3_reachFrom 4 = .ok (.getfield 57, 3) := by decide +kernel
theorem dX3_reachFrom_7 : decode cX3_reachFrom 7 = .ok (.if_icmp .ge 110, 3) := by decide +kernel
theorem dX3_reachFrom_10 : decode cX3_reachFrom 10 = .ok (.aload_n 0, 1) := by decide +kernel
theorem dX3_reachFrom_11 : decode cX3_reachFrom 11 = .ok (.getfield 22, 3) := by decide +kernel
theorem dX3_reachFrom_14 : decode cX3_reachFrom 14 = .ok (.iload_n 3, 1) := by decide +kernel
theorem dX3_reachFrom_15 : decode cX3_reachFrom 15 = .ok (.iaload, 1) := by decide +kernel
theorem dX3_reachFrom_16 : decode cX3_reachFrom 16 = .ok (.istore 4, 2) := by decide +kernel
theorem dX3_reachFrom_18 : decode cX3_reachFrom 18 = .ok (.aload_n 0, 1) := by decide +kernel
theorem dX3_reachFrom_19 : decode cX3_reachFrom 19 = .ok (.getfield 31, 3) := by decide +kernel
theorem dX3_reachFrom_22 : decode cX3_reachFrom 22 = .ok (.iload 4, 2) := by decide +kernel
theorem dX3_reachFrom_24 : decode cX3_reachFrom 24 = .ok (.baload, 1) := by decide +kernel
theorem dX3_reachFrom_25 : decode cX3_reachFrom 25 = .ok (.ifCond .eq 7, 3) := by decide +kernel
theorem dX3_reachFrom_28 : decode cX3_reachFrom 28 = .ok (.iconst (-1), 1) := by decide +kernel
theorem dX3_reachFrom_29 : decode cX3_reachFrom 29 = .ok (.goto 11, 3) := by decide +kernel
theorem dX3_reachFrom_32 : decode cX3_reachFrom 32 = .ok (.aload_n 0, 1) := by decide +kernel
theorem dX3_reachFrom_33 : decode cX3_reachFrom 33 = .ok (.aload_n 1, 1) := by decide +kernel
theorem dX3_reachFrom_34 : decode cX3_reachFrom 34 = .ok (.iload 4, 2) := by decide +kernel
theorem dX3_reachFrom_36 : decode cX3_reachFrom 36 = .ok (.iload_n 2, 1) := by decide +kernel
theorem dX3_reachFrom_37 : decode cX3_reachFrom 37 = .ok (.invokevirtual 78, 3) := by decide +kernel
theorem dX3_reachFrom_40 : decode cX3_reachFrom 40 = .ok (.istore 5, 2) := by decide +kernel
theorem dX3_reachFrom_42 : decode cX3_reachFrom 42 = .ok (.iload 5, 2) := by decide +kernel
theorem dX3_reachFrom_44 : decode cX3_reachFrom 44 = .ok (.iconst (-1), 1) := by decide +kernel
theorem dX3_reachFrom_45 : decode cX3_reachFrom 45 = .ok (.if_icmp .eq 66, 3) := by decide +kernel
theorem dX3_reachFrom_48 : decode cX3_reachFrom 48 = .ok (.aload_n 0, 1) := by decide +kernel
theorem dX3_reachFrom_49 : decode cX3_reachFrom 49 = .ok (.getfield 25, 3) := by decide +kernel
theorem dX3_reachFrom_52 : decode cX3_reachFrom 52 = .ok (.iload_n 2, 1) := by decide +kernel
theorem dX3_reachFrom_53 : decode cX3_reachFrom 53 = .ok (.iaload, 1) := by decide +kernel
theorem dX3_reachFrom_54 : decode cX3_reachFrom 54 = .ok (.iload 5, 2) := by decide +kernel
theorem dX3_reachFrom_56 : decode cX3_reachFrom 56 = .ok (.iadd, 1) := by decide +kernel
theorem dX3_reachFrom_57 : decode cX3_reachFrom 57 = .ok (.istore 6, 2) := by decide +kernel
theorem dX3_reachFrom_59 : decode cX3_reachFrom 59 = .ok (.iload 6, 2) := by decide +kernel
theorem dX3_reachFrom_61 : decode cX3_reachFrom 61 = .ok (.aload_n 0, 1) := by decide +kernel
theorem dX3_reachFrom_62 : decode cX3_reachFrom 62 = .ok (.getfield 25, 3) := by decide +kernel
theorem dX3_reachFrom_65 : decode cX3_reachFrom 65 = .ok (.iload 4, 2) := by decide +kernel
theorem dX3_reachFrom_67 : decode cX3_reachFrom 67 = .ok (.iaload, 1) := by decide +kernel
theorem dX3_reachFrom_68 : decode cX3_reachFrom 68 = .ok (.if_icmp .lt 26, 3) := by decide +kernel
theorem dX3_reachFrom_71 : decode cX3_reachFrom 71 = .ok (.iload 6, 2) := by decide +kernel
theorem dX3_reachFrom_73 : decode cX3_reachFrom 73 = .ok (.aload_n 0, 1) := by decide +kernel
theorem dX3_reachFrom_74 : decode cX3_reachFrom 74 = .ok (.getfield 25, 3) := by decide +kernel
theorem dX3_reachFrom_77 : decode cX3_reachFrom 77 = .ok (.iload 4, 2) := by decide +kernel
theorem dX3_reachFrom_79 : decode cX3_reachFrom 79 = .ok (.iaload, 1) := by decide +kernel
theorem dX3_reachFrom_80 : decode cX3_reachFrom 80 = .ok (.if_icmp .ne 31, 3) := by decide +kernel
theorem dX3_reachFrom_83 : decode cX3_reachFrom 83 = .ok (.iload_n 2, 1) := by decide +kernel
theorem dX3_reachFrom_84 : decode cX3_reachFrom 84 = .ok (.aload_n 0, 1) := by decide +kernel
theorem dX3_reachFrom_85 : decode cX3_reachFrom 85 = .ok (.getfield 28, 3) := by decide +kernel
theorem dX3_reachFrom_88 : decode cX3_reachFrom 88 = .ok (.iload 4, 2) := by decide +kernel
theorem dX3_reachFrom_90 : decode cX3_reachFrom 90 = .ok (.iaload, 1) := by decide +kernel
theorem dX3_reachFrom_91 : decode cX3_reachFrom 91 = .ok (.if_icmp .ge 20, 3) := by decide +kernel
theorem dX3_reachFrom_94 : decode cX3_reachFrom 94 = .ok (.aload_n 0, 1) := by decide +kernel
theorem dX3_reachFrom_95 : decode cX3_reachFrom 95 = .ok (.getfield 25, 3) := by decide +kernel
theorem dX3_reachFrom_98 : decode cX3_reachFrom 98 = .ok (.iload 4, 2) := by decide +kernel
theorem dX3_reachFrom_100 : decode cX3_reachFrom 100 = .ok (.iload 6, 2) := by decide +kernel
theorem dX3_reachFrom_102 : decode cX3_reachFrom 102 = .ok (.iastore, 1) := by decide +kernel
theorem dX3_reachFrom_103 : decode cX3_reachFrom 103 = .ok (.aload_n 0, 1) := by decide +kernel
theorem dX3_reachFrom_104 : decode cX3_reachFrom 104 = .ok (.getfield 28, 3) := by decide +kernel
theorem dX3_reachFrom_107 : decode cX3_reachFrom 107 = .ok (.iload 4, 2) := by decide +kernel
theorem dX3_reachFrom_109 : decode cX3_reachFrom 109 = .ok (.iload_n 2, 1) := by decide +kernel
theorem dX3_reachFrom_110 : decode cX3_reachFrom 110 = .ok (.iastore, 1) := by decide +kernel
theorem dX3_reachFrom_111 : decode cX3_reachFrom 111 = .ok (.iinc 3 1, 3) := by decide +kernel
theorem dX3_reachFrom_114 : decode cX3_reachFrom 114 = .ok (.goto (-112), 3) := by decide +kernel
theorem dX3_reachFrom_117 : decode cX3_reachFrom 117 = .ok (.return_, 1) := by decide +kernel
theorem dX3_wayCost_0 : decode cX3_wayCost 0 = .ok (.iload_n 3, 1) := by decide +kernel
theorem dX3_wayCost_1 : decode cX3_wayCost 1 = .ok (.iload_n 2, 1) := by decide +kernel
theorem dX3_wayCost_2 : decode cX3_wayCost 2 = .ok (.iconst 1, 1) := by decide +kernel
theorem dX3_wayCost_3 : decode cX3_wayCost 3 = .ok (.iadd, 1) := by decide +kernel
theorem dX3_wayCost_4 : decode cX3_wayCost 4 = .ok (.if_icmp .ne 12, 3) := by decide +kernel
theorem dX3_wayCost_7 : decode cX3_wayCost 7 = .ok (.iload_n 3, 1) := by decide +kernel
theorem dX3_wayCost_8 : decode cX3_wayCost 8 = .ok (.bipush 30, 2) := by decide +kernel
theorem dX3_wayCost_10 : decode cX3_wayCost 10 = .ok (.irem, 1) := by decide +kernel
theorem dX3_wayCost_11 : decode cX3_wayCost 11 = .ok (.ifCond .eq 5, 3) := by decide +kernel
theorem dX3_wayCost_14 : decode cX3_wayCost 14 = .ok (.iconst 1, 1) := by decide +kernel
theorem dX3_wayCost_15 : decode cX3_wayCost 15 = .ok (.ireturn, 1) := by decide +kernel
theorem dX3_wayCost_16 : decode cX3_wayCost 16 = .ok (.aload_n 1, 1) := by decide +kernel
theorem dX3_wayCost_17 : decode cX3_wayCost 17 = .ok (.iload_n 2, 1) := by decide +kernel
theorem dX3_wayCost_18 : decode cX3_wayCost 18 = .ok (.invokevirtual 45, 3) := by decide +kernel
theorem dX3_wayCost_21 : decode cX3_wayCost 21 = .ok (.astore 4, 2) := by decide +kernel
theorem dX3_wayCost_23 : decode cX3_wayCost 23 = .ok (.aload_n 1, 1) := by decide +kernel
theorem dX3_wayCost_24 : decode cX3_wayCost 24 = .ok (.iload_n 3, 1) := by decide +kernel
theorem dX3_wayCost_25 : decode cX3_wayCost 25 = .ok (.invokevirtual 45, 3) := by decide +kernel
theorem dX3_wayCost_28 : decode cX3_wayCost 28 = .ok (.astore 5, 2) := by decide +kernel
theorem dX3_wayCost_30 : decode cX3_wayCost 30 = .ok (.aload 4, 2) := by decide +kernel
theorem dX3_wayCost_32 : decode cX3_wayCost 32 = .ok (.ifnull 8, 3) := by decide +kernel
theorem dX3_wayCost_35 : decode cX3_wayCost 35 = .ok (.aload 5, 2) := by decide +kernel
theorem dX3_wayCost_37 : decode cX3_wayCost 37 = .ok (.ifnonnull 5, 3) := by decide +kernel
theorem dX3_wayCost_40 : decode cX3_wayCost 40 = .ok (.iconst (-1), 1) := by decide +kernel
theorem dX3_wayCost_41 : decode cX3_wayCost 41 = .ok (.ireturn, 1) := by decide +kernel
theorem dX3_wayCost_42 : decode cX3_wayCost 42 = .ok (.aload_n 1, 1) := by decide +kernel
theorem dX3_wayCost_43 : decode cX3_wayCost 43 = .ok (.aload 4, 2) := by decide +kernel
theorem dX3_wayCost_45 : decode cX3_wayCost 45 = .ok (.aload 5, 2) := by decide +kernel
theorem dX3_wayCost_47 : decode cX3_wayCost 47 = .ok (.aload_n 0, 1) := by decide +kernel
theorem dX3_wayCost_48 : decode cX3_wayCost 48 = .ok (.getfield 9, 3) := by decide +kernel
theorem dX3_wayCost_51 : decode cX3_wayCost 51 = .ok (.invokevirtual 49, 3) := by decide +kernel
theorem dX3_wayCost_54 : decode cX3_wayCost 54 = .ok (.istore 6, 2) := by decide +kernel
theorem dX3_wayCost_56 : decode cX3_wayCost 56 = .ok (.iload 6, 2) := by decide +kernel
theorem dX3_wayCost_58 : decode cX3_wayCost 58 = .ok (.aload_n 0, 1) := by decide +kernel
theorem dX3_wayCost_59 : decode cX3_wayCost 59 = .ok (.getfield 9, 3) := by decide +kernel
theorem dX3_wayCost_62 : decode cX3_wayCost 62 = .ok (.if_icmp .gt 10, 3) := by decide +kernel
theorem dX3_wayCost_65 : decode cX3_wayCost 65 = .ok (.iconst 2, 1) := by decide +kernel
theorem dX3_wayCost_66 : decode cX3_wayCost 66 = .ok (.iload 6, 2) := by decide +kernel
theorem dX3_wayCost_68 : decode cX3_wayCost 68 = .ok (.iadd, 1) := by decide +kernel
theorem dX3_wayCost_69 : decode cX3_wayCost 69 = .ok (.goto 4, 3) := by decide +kernel
theorem dX3_wayCost_72 : decode cX3_wayCost 72 = .ok (.iconst (-1), 1) := by decide +kernel
theorem dX3_wayCost_73 : decode cX3_wayCost 73 = .ok (.ireturn, 1) := by decide +kernel
theorem dX3_keepPath_0 : decode cX3_keepPath 0 = .ok (.aload_n 0, 1) := by decide +kernel
theorem dX3_keepPath_1 : decode cX3_keepPath 1 = .ok (.iconst 0, 1) := by decide +kernel
theorem dX3_keepPath_2 : decode cX3_keepPath 2 = .ok (.putfield 82, 3) := by decide +kernel
theorem dX3_keepPath_5 : decode cX3_keepPath 5 = .ok (.aload_n 0, 1) := by decide +kernel
theorem dX3_keepPath_6 : decode cX3_keepPath 6 = .ok (.getfield 15, 3) := by decide +kernel
theorem dX3_keepPath_9 : decode cX3_keepPath 9 = .ok (.iconst (-1), 1) := by decide +kernel
theorem dX3_keepPath_10 : decode cX3_keepPath 10 = .ok (.if_icmp .ne 4, 3) := by decide +kernel
theorem dX3_keepPath_13 : decode cX3_keepPath 13 = .ok (.return_, 1) := by decide +kernel
theorem dX3_keepPath_14 : decode cX3_keepPath 14 = .ok (.iload_n 1, 1) := by decide +kernel
theorem dX3_keepPath_15 : decode cX3_keepPath 15 = .ok (.istore_n 3, 1) := by decide +kernel
theorem dX3_keepPath_16 : decode cX3_keepPath 16 = .ok (.iconst 0, 1) := by decide +kernel
theorem dX3_keepPath_17 : decode cX3_keepPath 17 = .ok (.istore 4, 2) := by decide +kernel
theorem dX3_keepPath_19 : decode cX3_keepPath 19 = .ok (.iload 4, 2) := by decide +kernel
theorem dX3_keepPath_21 : decode cX3_keepPath 21 = .ok (.sipush 180, 3) := by decide +kernel
theorem dX3_keepPath_24 : decode cX3_keepPath 24 = .ok (.if_icmp .ge 46, 3) := by decide +kernel
theorem dX3_keepPath_27 : decode cX3_keepPath 27 = .ok (.iload_n 3, 1) := by decide +kernel
theorem dX3_keepPath_28 : decode cX3_keepPath 28 = .ok (.iconst (-1), 1) := by decide +kernel
theorem dX3_keepPath_29 : decode cX3_keepPath 29 = .ok (.if_icmp .eq 41, 3) := by decide +kernel
theorem dX3_keepPath_32 : decode cX3_keepPath 32 = .ok (.aload_n 0, 1) := by decide +kernel
theorem dX3_keepPath_33 : decode cX3_keepPath 33 = .ok (.getfield 18, 3) := by decide +kernel
theorem dX3_keepPath_36 : decode cX3_keepPath 36 = .ok (.iload 4, 2) := by decide +kernel
theorem dX3_keepPath_38 : decode cX3_keepPath 38 = .ok (.iload_n 3, 1) := by decide +kernel
theorem dX3_keepPath_39 : decode cX3_keepPath 39 = .ok (.iastore, 1) := by decide +kernel
theorem dX3_keepPath_40 : decode cX3_keepPath 40 = .ok (.aload_n 0, 1) := by decide +kernel
theorem dX3_keepPath_41 : decode cX3_keepPath 41 = .ok (.iload 4, 2) := by decide +kernel
theorem dX3_keepPath_43 : decode cX3_keepPath 43 = .ok (.iconst 1, 1) := by decide +kernel
theorem dX3_keepPath_44 : decode cX3_keepPath 44 = .ok (.iadd, 1) := by decide +kernel
theorem dX3_keepPath_45 : decode cX3_keepPath 45 = .ok (.putfield 82, 3) := by decide +kernel
theorem dX3_keepPath_48 : decode cX3_keepPath 48 = .ok (.iload_n 3, 1) := by decide +kernel
theorem dX3_keepPath_49 : decode cX3_keepPath 49 = .ok (.iload_n 2, 1) := by decide +kernel
theorem dX3_keepPath_50 : decode cX3_keepPath 50 = .ok (.if_icmp .ne 7, 3) := by decide +kernel
theorem dX3_keepPath_53 : decode cX3_keepPath 53 = .ok (.iconst (-1), 1) := by decide +kernel
theorem dX3_keepPath_54 : decode cX3_keepPath 54 = .ok (.goto 9, 3) := by decide +kernel
theorem dX3_keepPath_57 : decode cX3_keepPath 57 = .ok (.aload_n 0, 1) := by decide +kernel
theorem dX3_keepPath_58 : decode cX3_keepPath 58 = .ok (.getfield 28, 3) := by decide +kernel
theorem dX3_keepPath_61 : decode cX3_keepPath 61 = .ok (.iload_n 3, 1) := by decide +kernel
theorem dX3_keepPath_62 : decode cX3_keepPath 62 = .ok (.iaload, 1) := by decide +kernel
theorem dX3_keepPath_63 : decode cX3_keepPath 63 = .ok (.istore_n 3, 1) := by decide +kernel
theorem dX3_keepPath_64 : decode cX3_keepPath 64 = .ok (.iinc 4 1, 3) := by decide +kernel
theorem dX3_keepPath_67 : decode cX3_keepPath 67 = .ok (.goto (-48), 3) := by decide +kernel
theorem dX3_keepPath_70 : decode cX3_keepPath 70 = .ok (.return_, 1) := by decide +kernel
theorem dX4_init_0 : decode cX4_init 0 = .ok (.aload_n 0, 1) := by decide +kernel
theorem dX4_init_1 : decode cX4_init 1 = .ok (.invokespecial 3, 3) := by decide +kernel
theorem dX4_init_4 : decode cX4_init 4 = .ok (.aload_n 0, 1) := by decide +kernel
theorem dX4_init_5 : decode cX4_init 5 = .ok (.bipush 30, 2) := by decide +kernel
theorem dX4_init_7 : decode cX4_init 7 = .ok (.newarray .int, 2) := by decide +kernel
theorem dX4_init_9 : decode cX4_init 9 = .ok (.putfield 9, 3) := by decide +kernel
theorem dX4_init_12 : decode cX4_init 12 = .ok (.return_, 1) := by decide +kernel
theorem dX4_findKeys_0 : decode cX4_findKeys 0 = .ok (.aload_n 0, 1) := by decide +kernel
theorem dX4_findKeys_1 : decode cX4_findKeys 1 = .ok (.iconst 0, 1) := by decide +kernel
theorem dX4_findKeys_2 : decode cX4_findKeys 2 = .ok (.putfield 15, 3) := by decide +kernel
theorem dX4_findKeys_5 : decode cX4_findKeys 5 = .ok (.iconst (-1), 1) := by decide +kernel
theorem dX4_findKeys_6 : decode cX4_findKeys 6 = .ok (.istore 4, 2) := by decide +kernel
theorem dX4_findKeys_8 : decode cX4_findKeys 8 = .ok (.iconst 0, 1) := by decide +kernel
theorem dX4_findKeys_9 : decode cX4_findKeys 9 = .ok (.istore 5, 2) := by decide +kernel
theorem dX4_findKeys_11 : decode cX4_findKeys 11 = .ok (.iload 5, 2) := by decide +kernel
theorem dX4_findKeys_13 : decode cX4_findKeys 13 = .ok (.bipush 30, 2) := by decide +kernel
theorem dX4_findKeys_15 : decode cX4_findKeys 15 = .ok (.if_icmp .ge 57, 3) := by decide +kernel
theorem dX4_findKeys_18 : decode cX4_findKeys 18 = .ok (.iload 4, 2) := by decide +kernel
theorem dX4_findKeys_20 : decode cX4_findKeys 20 = .ok (.aload_n 2, 1) := by decide +kernel
theorem dX4_findKeys_21 : decode cX4_findKeys 21 = .ok (.getfield 19, 3) := by decide +kernel
theorem dX4_findKeys_24 : decode cX4_findKeys 24 = .ok (.iconst 1, 1) := by decide +kernel
theorem dX4_findKeys_25 : decode cX4_findKeys 25 = .ok (.isub, 1) := by decide +kernel
theorem dX4_findKeys_26 : decode cX4_findKeys 26 = .ok (.if_icmp .ge 46, 3) := by decide +kernel
theorem dX4_findKeys_29 : decode cX4_findKeys 29 = .ok (.iload 4, 2) := by decide +kernel
theorem dX4_findKeys_31 : decode cX4_findKeys 31 = .ok (.iconst (-1), 1) := by decide +kernel
theorem dX4_findKeys_32 : decode cX4_findKeys 32 = .ok (.if_icmp .ne 7, 3) := by decide +kernel
theorem dX4_findKeys_35 : decode cX4_findKeys 35 = .ok (.iconst 0, 1) := by decide +kernel
theorem dX4_findKeys_36 : decode cX4_findKeys 36 = .ok (.goto 11, 3) := by decide +kernel
theorem dX4_findKeys_39 : decode cX4_findKeys 39 = .ok (.aload_n 1, 1) := by decide +kernel
theorem dX4_findKeys_40 : decode cX4_findKeys 40 = .ok (.aload_n 2, 1) := by decide +kernel
theorem dX4_findKeys_41 : decode cX4_findKeys 41 = .ok (.iload 4, 2) := by decide +kernel
theorem dX4_findKeys_43 : decode cX4_findKeys 43 = .ok (.iload_n 3, 1) := by decide +kernel
theorem dX4_findKeys_44 : decode cX4_findKeys 44 = .ok (.invokestatic 22, 3) := by decide +kernel
theorem dX4_findKeys_47 : decode cX4_findKeys 47 = .ok (.istore 4, 2) := by decide +kernel
theorem dX4_findKeys_49 : decode cX4_findKeys 49 = .ok (.aload_n 0, 1) := by decide +kernel
theorem dX4_findKeys_50 : decode cX4_findKeys 50 = .ok (.getfield 9, 3) := by decide +kernel
theorem dX4_findKeys_53 : decode cX4_findKeys 53 = .ok (.iload 5, 2) := by decide +kernel
theorem dX4_findKeys_55 : decode cX4_findKeys 55 = .ok (.iload 4, 2) := by decide +kernel
theorem dX4_findKeys_57 : decode cX4_findKeys 57 = .ok (.iastore, 1) := by decide +kernel
theorem dX4_findKeys_58 : decode cX4_findKeys 58 = .ok (.aload_n 0, 1) := by decide +kernel
theorem dX4_findKeys_59 : decode cX4_findKeys 59 = .ok (.iload 5, 2) := by decide +kernel
theorem dX4_findKeys_61 : decode cX4_findKeys 61 = .ok (.iconst 1, 1) := by decide +kernel
theorem dX4_findKeys_62 : decode cX4_findKeys 62 = .ok (.iadd, 1) := by decide +kernel
theorem dX4_findKeys_63 : decode cX4_findKeys 63 = .ok (.putfield 15, 3) := by decide +kernel
theorem dX4_findKeys_66 : decode cX4_findKeys 66 = .ok (.iinc 5 1, 3) := by decide +kernel
theorem dX4_findKeys_69 : decode cX4_findKeys 69 = .ok (.goto (-58), 3) := by decide +kernel
theorem dX4_findKeys_72 : decode cX4_findKeys 72 = .ok (.return_, 1) := by decide +kernel
theorem dX4_nextKey_0 : decode cX4_nextKey 0 = .ok (.aload_n 1, 1) := by decide +kernel
theorem dX4_nextKey_1 : decode cX4_nextKey 1 = .ok (.getfield 19, 3) := by decide +kernel
theorem dX4_nextKey_4 : decode cX4_nextKey 4 = .ok (.iconst 1, 1) := by decide +kernel
theorem dX4_nextKey_5 : decode cX4_nextKey 5 = .ok (.isub, 1) := by decide +kernel
theorem dX4_nextKey_6 : decode cX4_nextKey 6 = .ok (.istore 4, 2) := by decide +kernel
theorem dX4_nextKey_8 : decode cX4_nextKey 8 = .ok (.iload 4, 2) := by decide +kernel
theorem dX4_nextKey_10 : decode cX4_nextKey 10 = .ok (.iload_n 2, 1) := by decide +kernel
theorem dX4_nextKey_11 : decode cX4_nextKey 11 = .ok (.iconst 1, 1) := by decide +kernel
theorem dX4_nextKey_12 : decode cX4_nextKey 12 = .ok (.iadd, 1) := by decide +kernel
theorem dX4_nextKey_13 : decode cX4_nextKey 13 = .ok (.if_icmp .le 24, 3) := by decide +kernel
theorem dX4_nextKey_16 : decode cX4_nextKey 16 = .ok (.aload_n 0, 1) := by decide +kernel
theorem dX4_nextKey_17 : decode cX4_nextKey 17 = .ok (.aload_n 1, 1) := by decide +kernel
theorem dX4_nextKey_18 : decode cX4_nextKey 18 = .ok (.iload_n 2, 1) := by decide +kernel
theorem dX4_nextKey_19 : decode cX4_nextKey 19 = .ok (.iload 4, 2) := by decide +kernel
theorem dX4_nextKey_21 : decode cX4_nextKey 21 = .ok (.iload_n 3, 1) := by decide +kernel
theorem dX4_nextKey_22 : decode cX4_nextKey 22 = .ok (.invokestatic 26, 3) := by decide +kernel
theorem dX4_nextKey_25 : decode cX4_nextKey 25 = .ok (.ifCond .eq 6, 3) := by decide +kernel
theorem dX4_nextKey_28 : decode cX4_nextKey 28 = .ok (.iload 4, 2) := by decide +kernel
theorem dX4_nextKey_30 : decode cX4_nextKey 30 = .ok (.ireturn, 1) := by decide +kernel
theorem dX4_nextKey_31 : decode cX4_nextKey 31 = .ok (.iinc 4 (-1), 3) := by decide +kernel
theorem dX4_nextKey_34 : decode cX4_nextKey 34 = .ok (.goto (-26), 3) := by decide +kernel
theorem dX4_nextKey_37 : decode cX4_nextKey 37 = .ok (.iload_n 2, 1) := by decide +kernel
theorem dX4_nextKey_38 : decode cX4_nextKey 38 = .ok (.iconst 1, 1) := by decide +kernel
theorem dX4_nextKey_39 : decode cX4_nextKey 39 = .ok (.iadd, 1) := by decide +kernel
theorem dX4_nextKey_40 : decode cX4_nextKey 40 = .ok (.ireturn, 1) := by decide +kernel
theorem dX4_spans_0 : decode cX4_spans 0 = .ok (.iload_n 2, 1) := by decide +kernel
theorem dX4_spans_1 : decode cX4_spans 1 = .ok (.iconst 1, 1) := by decide +kernel
theorem dX4_spans_2 : decode cX4_spans 2 = .ok (.iadd, 1) := by decide +kernel
theorem dX4_spans_3 : decode cX4_spans 3 = .ok (.istore 5, 2) := by decide +kernel
theorem dX4_spans_5 : decode cX4_spans 5 = .ok (.iload 5, 2) := by decide +kernel
theorem dX4_spans_7 : decode cX4_spans 7 = .ok (.iload_n 3, 1) := by decide +kernel
theorem dX4_spans_8 : decode cX4_spans 8 = .ok (.if_icmp .ge 94, 3) := by decide +kernel
theorem dX4_spans_11 : decode cX4_spans 11 = .ok (.bipush 100, 2) := by decide +kernel
theorem dX4_spans_13 : decode cX4_spans 13 = .ok (.iload 5, 2) := by decide +kernel
theorem dX4_spans_15 : decode cX4_spans 15 = .ok (.iload_n 2, 1) := by decide +kernel
theorem dX4_spans_16 : decode cX4_spans 16 = .ok (.isub, 1) := by decide +kernel
theorem dX4_spans_17 : decode cX4_spans 17 = .ok (.imul, 1) := by decide +kernel
theorem dX4_spans_18 : decode cX4_spans 18 = .ok (.iload_n 3, 1) := by decide +kernel
theorem dX4_spans_19 : decode cX4_spans 19 = .ok (.iload_n 2, 1) := by decide +kernel
theorem dX4_spans_20 : decode cX4_spans 20 = .ok (.isub, 1) := by decide +kernel
theorem dX4_spans_21 : decode cX4_spans 21 = .ok (.idiv, 1) := by decide +kernel
theorem dX4_spans_22 : decode cX4_spans 22 = .ok (.istore 6, 2) := by decide +kernel
theorem dX4_spans_24 : decode cX4_spans 24 = .ok (.iconst 0, 1) := by decide +kernel
theorem dX4_spans_25 : decode cX4_spans 25 = .ok (.istore 7, 2) := by decide +kernel
theorem dX4_spans_27 : decode cX4_spans 27 = .ok (.iload 7, 2) := by decide +kernel
theorem dX4_spans_29 : decode cX4_spans 29 = .ok (.aload_n 0, 1) := by decide +kernel
theorem dX4_spans_30 : decode cX4_spans 30 = .ok (.getfield 30, 3) := by decide +kernel
theorem dX4_spans_33 : decode cX4_spans 33 = .ok (.if_icmp .ge 63, 3) := by decide +kernel
theorem dX4_spans_36 : decode cX4_spans 36 = .ok (.aload_n 0, 1) := by decide +kernel
theorem dX4_spans_37 : decode cX4_spans 37 = .ok (.getfield 33, 3) := by decide +kernel
theorem dX4_spans_40 : decode cX4_spans 40 = .ok (.iload 7, 2) := by decide +kernel
theorem dX4_spans_42 : decode cX4_spans 42 = .ok (.aaload, 1) := by decide +kernel
theorem dX4_spans_43 : decode cX4_spans 43 = .ok (.aload_n 1, 1) := by decide +kernel
theorem dX4_spans_44 : decode cX4_spans 44 = .ok (.getfield 37, 3) := by decide +kernel
theorem dX4_spans_47 : decode cX4_spans 47 = .ok (.iload_n 2, 1) := by decide +kernel
theorem dX4_spans_48 : decode cX4_spans 48 = .ok (.aaload, 1) := by decide +kernel
theorem dX4_spans_49 : decode cX4_spans 49 = .ok (.iload 7, 2) := by decide +kernel
theorem dX4_spans_51 : decode cX4_spans 51 = .ok (.iaload, 1) := by decide +kernel
theorem dX4_spans_52 : decode cX4_spans 52 = .ok (.aload_n 1, 1) := by decide +kernel
theorem dX4_spans_53 : decode cX4_spans 53 = .ok (.getfield 37, 3) := by decide +kernel
theorem dX4_spans_56 : decode cX4_spans 56 = .ok (.iload_n 3, 1) := by decide +kernel
theorem dX4_spans_57 : decode cX4_spans 57 = .ok (.aaload, 1) := by decide +kernel
theorem dX4_spans_58 : decode cX4_spans 58 = .ok (.iload 7, 2) := by decide +kernel
theorem dX4_spans_60 : decode cX4_spans 60 = .ok (.iaload, 1) := by decide +kernel
theorem dX4_spans_61 : decode cX4_spans 61 = .ok (.iload 6, 2) := by decide +kernel
theorem dX4_spans_63 : decode cX4_spans 63 = .ok (.invokevirtual 41, 3) := by decide +kernel
theorem dX4_spans_66 : decode cX4_spans 66 = .ok (.istore 8, 2) := by decide +kernel
theorem dX4_spans_68 : decode cX4_spans 68 = .ok (.iload 8, 2) := by decide +kernel
theorem dX4_spans_70 : decode cX4_spans 70 = .ok (.aload_n 1, 1) := by decide +kernel
theorem dX4_spans_71 : decode cX4_spans 71 = .ok (.getfield 37, 3) := by decide +kernel
theorem dX4_spans_74 : decode cX4_spans 74 = .ok (.iload 5, 2) := by decide +kernel
theorem dX4_spans_76 : decode cX4_spans 76 = .ok (.aaload, 1) := by decide +kernel
theorem dX4_spans_77 : decode cX4_spans 77 = .ok (.iload 7, 2) := by decide +kernel
theorem dX4_spans_79 : decode cX4_spans 79 = .ok (.iaload, 1) := by decide +kernel
theorem dX4_spans_80 : decode cX4_spans 80 = .ok (.invokestatic 47, 3) := by decide +kernel
theorem dX4_spans_83 : decode cX4_spans 83 = .ok (.iload 4, 2) := by decide +kernel
theorem dX4_spans_85 : decode cX4_spans 85 = .ok (.if_icmp .le 5, 3) := by decide +kernel
theorem dX4_spans_88 : decode cX4_spans 88 = .ok (.iconst 0, 1) := by decide +kernel
theorem dX4_spans_89 : decode cX4_spans 89 = .ok (.ireturn, 1) := by decide +kernel
theorem dX4_spans_90 : decode cX4_spans 90 = .ok (.iinc 7 1, 3) := by decide +kernel
theorem dX4_spans_93 : decode cX4_spans 93 = .ok (.goto (-66), 3) := by decide +kernel
theorem dX4_spans_96 : decode cX4_spans 96 = .ok (.iinc 5 1, 3) := by decide +kernel
theorem dX4_spans_99 : decode cX4_spans 99 = .ok (.goto (-94), 3) := by decide +kernel
theorem dX4_spans_102 : decode cX4_spans 102 = .ok (.iconst 1, 1) := by decide +kernel
theorem dX4_spans_103 : decode cX4_spans 103 = .ok (.ireturn, 1) := by decide +kernel
theorem dX4_keepKeys_0 : decode cX4_keepKeys 0 = .ok (.iconst 0, 1) := by decide +kernel
theorem dX4_keepKeys_1 : decode cX4_keepKeys 1 = .ok (.istore_n 2, 1) := by decide +kernel
theorem dX4_keepKeys_2 : decode cX4_keepKeys 2 = .ok (.iload_n 2, 1) := by decide +kernel
theorem dX4_keepKeys_3 : decode cX4_keepKeys 3 = .ok (.aload_n 0, 1) := by decide +kernel
theorem dX4_keepKeys_4 : decode cX4_keepKeys 4 = .ok (.getfield 15, 3) := by decide +kernel
theorem dX4_keepKeys_7 : decode cX4_keepKeys 7 = .ok (.if_icmp .ge 33, 3) := by decide +kernel
theorem dX4_keepKeys_10 : decode cX4_keepKeys 10 = .ok (.aload_n 1, 1) := by decide +kernel
theorem dX4_keepKeys_11 : decode cX4_keepKeys 11 = .ok (.getfield 37, 3) := by decide +kernel
theorem dX4_keepKeys_14 : decode cX4_keepKeys 14 = .ok (.aload_n 0, 1) := by decide +kernel
theorem dX4_keepKeys_15 : decode cX4_keepKeys 15 = .ok (.getfield 9, 3) := by decide +kernel
theorem dX4_keepKeys_18 : decode cX4_keepKeys 18 = .ok (.iload_n 2, 1) := by decide +kernel
theorem dX4_keepKeys_19 : decode cX4_keepKeys 19 = .ok (.iaload, 1) := by decide +kernel
theorem dX4_keepKeys_20 : decode cX4_keepKeys 20 = .ok (.aaload, 1) := by decide +kernel
theorem dX4_keepKeys_21 : decode cX4_keepKeys 21 = .ok (.iconst 0, 1) := by decide +kernel
theorem dX4_keepKeys_22 : decode cX4_keepKeys 22 = .ok (.aload_n 1, 1) := by decide +kernel
theorem dX4_keepKeys_23 : decode cX4_keepKeys 23 = .ok (.getfield 37, 3) := by decide +kernel
theorem dX4_keepKeys_26 : decode cX4_keepKeys 26 = .ok (.iload_n 2, 1) := by decide +kernel
theorem dX4_keepKeys_27 : decode cX4_keepKeys 27 = .ok (.aaload, 1) := by decide +kernel
theorem dX4_keepKeys_28 : decode cX4_keepKeys 28 = .ok (.iconst 0, 1) := by decide +kernel
theorem dX4_keepKeys_29 : decode cX4_keepKeys 29 = .ok (.bipush 10, 2) := by decide +kernel
theorem dX4_keepKeys_31 : decode cX4_keepKeys 31 = .ok (.invokestatic 53, 3) := by decide +kernel
theorem dX4_keepKeys_34 : decode cX4_keepKeys 34 = .ok (.iinc 2 1, 3) := by decide +kernel
theorem dX4_keepKeys_37 : decode cX4_keepKeys 37 = .ok (.goto (-35), 3) := by decide +kernel
theorem dX4_keepKeys_40 : decode cX4_keepKeys 40 = .ok (.aload_n 1, 1) := by decide +kernel
theorem dX4_keepKeys_41 : decode cX4_keepKeys 41 = .ok (.aload_n 0, 1) := by decide +kernel
theorem dX4_keepKeys_42 : decode cX4_keepKeys 42 = .ok (.getfield 15, 3) := by decide +kernel
theorem dX4_keepKeys_45 : decode cX4_keepKeys 45 = .ok (.putfield 19, 3) := by decide +kernel
theorem dX4_keepKeys_48 : decode cX4_keepKeys 48 = .ok (.return_, 1) := by decide +kernel
theorem dX5_init_0 : decode cX5_init 0 = .ok (.aload_n 0, 1) := by decide +kernel
theorem dX5_init_1 : decode cX5_init 1 = .ok (.invokespecial 3, 3) := by decide +kernel
theorem dX5_init_4 : decode cX5_init 4 = .ok (.aload_n 0, 1) := by decide +kernel
theorem dX5_init_5 : decode cX5_init 5 = .ok (.bipush 60, 2) := by decide +kernel
theorem dX5_init_7 : decode cX5_init 7 = .ok (.newarray .int, 2) := by decide +kernel
theorem dX5_init_9 : decode cX5_init 9 = .ok (.putfield 9, 3) := by decide +kernel
theorem dX5_init_12 : decode cX5_init 12 = .ok (.aload_n 0, 1) := by decide +kernel
theorem dX5_init_13 : decode cX5_init 13 = .ok (.iconst 1, 1) := by decide +kernel
theorem dX5_init_14 : decode cX5_init 14 = .ok (.putfield 15, 3) := by decide +kernel
theorem dX5_init_17 : decode cX5_init 17 = .ok (.return_, 1) := by decide +kernel
theorem dX5_begin_0 : decode cX5_begin 0 = .ok (.aload_n 0, 1) := by decide +kernel
theorem dX5_begin_1 : decode cX5_begin 1 = .ok (.getfield 9, 3) := by decide +kernel
theorem dX5_begin_4 : decode cX5_begin 4 = .ok (.iconst 0, 1) := by decide +kernel
theorem dX5_begin_5 : decode cX5_begin 5 = .ok (.invokestatic 19, 3) := by decide +kernel
theorem dX5_begin_8 : decode cX5_begin 8 = .ok (.aload_n 0, 1) := by decide +kernel
theorem dX5_begin_9 : decode cX5_begin 9 = .ok (.iconst 0, 1) := by decide +kernel
theorem dX5_begin_10 : decode cX5_begin 10 = .ok (.putfield 15, 3) := by decide +kernel
theorem dX5_begin_13 : decode cX5_begin 13 = .ok (.aload_n 0, 1) := by decide +kernel
theorem dX5_begin_14 : decode cX5_begin 14 = .ok (.iload_n 1, 1) := by decide +kernel
theorem dX5_begin_15 : decode cX5_begin 15 = .ok (.putfield 25, 3) := by decide +kernel
theorem dX5_begin_18 : decode cX5_begin 18 = .ok (.aload_n 0, 1) := by decide +kernel
theorem dX5_begin_19 : decode cX5_begin 19 = .ok (.iload_n 2, 1) := by decide +kernel
theorem dX5_begin_20 : decode cX5_begin 20 = .ok (.putfield 29, 3) := by decide +kernel
theorem dX5_begin_23 : decode cX5_begin 23 = .ok (.return_, 1) := by decide +kernel
theorem dX5_holds_0 : decode cX5_holds 0 = .ok (.iload_n 1, 1) := by decide +kernel
theorem dX5_holds_1 : decode cX5_holds 1 = .ok (.ifCond .lt 29, 3) := by decide +kernel
theorem dX5_holds_4 : decode cX5_holds 4 = .ok (.iload_n 2, 1) := by decide +kernel
theorem dX5_holds_5 : decode cX5_holds 5 = .ok (.ifCond .lt 25, 3) := by decide +kernel
theorem dX5_holds_8 : decode cX5_holds 8 = .ok (.iload_n 1, 1) := by decide +kernel
theorem dX5_holds_9 : decode cX5_holds 9 = .ok (.aload_n 0, 1) := by decide +kernel
theorem dX5_holds_10 : decode cX5_holds 10 = .ok (.getfield 29, 3) := by decide +kernel
theorem dX5_holds_13 : decode cX5_holds 13 = .ok (.if_icmp .gt 17, 3) := by decide +kernel
theorem dX5_holds_16 : decode cX5_holds 16 = .ok (.iload_n 2, 1) := by decide +kernel
theorem dX5_holds_17 : decode cX5_holds 17 = .ok (.aload_n 0, 1) := by decide +kernel
theorem dX5_holds_18 : decode cX5_holds 18 = .ok (.getfield 29, 3) := by decide +kernel
theorem dX5_holds_21 : decode cX5_holds 21 = .ok (.iload_n 1, 1) := by decide +kernel
theorem dX5_holds_22 : decode cX5_holds 22 = .ok (.isub, 1) := by decide +kernel
theorem dX5_holds_23 : decode cX5_holds 23 = .ok (.if_icmp .gt 7, 3) := by decide +kernel
theorem dX5_holds_26 : decode cX5_holds 26 = .ok (.iconst 1, 1) := by decide +kernel
theorem dX5_holds_27 : decode cX5_holds 27 = .ok (.goto 4, 3) := by decide +kernel
theorem dX5_holds_30 : decode cX5_holds 30 = .ok (.iconst 0, 1) := by decide +kernel
theorem dX5_holds_31 : decode cX5_holds 31 = .ok (.ireturn, 1) := by decide +kernel
theorem dX5_wrongItem_0 : decode cX5_wrongItem 0 = .ok (.aload_n 0, 1) := by decide +kernel
theorem dX5_wrongItem_1 : decode cX5_wrongItem 1 = .ok (.getfield 15, 3) := by decide +kernel
theorem dX5_wrongItem_4 : decode cX5_wrongItem 4 = .ok (.ifCond .eq 5, 3) := by decide +kernel
theorem dX5_wrongItem_7 : decode cX5_wrongItem 7 = .ok (.iconst 1, 1) := by decide +kernel
theorem dX5_wrongItem_8 : decode cX5_wrongItem 8 = .ok (.ireturn, 1) := by decide +kernel
theorem dX5_wrongItem_9 : decode cX5_wrongItem 9 = .ok (.aload_n 0, 1) := by decide +kernel
theorem dX5_wrongItem_10 : decode cX5_wrongItem 10 = .ok (.getfield 25, 3) := by decide +kernel
theorem dX5_wrongItem_13 : decode cX5_wrongItem 13 = .ok (.iload_n 1, 1) := by decide +kernel
theorem dX5_wrongItem_14 : decode cX5_wrongItem 14 = .ok (.if_icmp .eq 5, 3) := by decide +kernel
theorem dX5_wrongItem_17 : decode cX5_wrongItem 17 = .ok (.iconst 3, 1) := by decide +kernel
theorem dX5_wrongItem_18 : decode cX5_wrongItem 18 = .ok (.ireturn, 1) := by decide +kernel
theorem dX5_wrongItem_19 : decode cX5_wrongItem 19 = .ok (.iload_n 2, 1) := by decide +kernel
theorem dX5_wrongItem_20 : decode cX5_wrongItem 20 = .ok (.i2l, 1) := by decide +kernel
