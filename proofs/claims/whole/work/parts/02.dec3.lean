theorem dX9_place_138 : decode cX9_place 138 = .ok (.getfield 45, 3) := by decide +kernel
theorem dX9_place_141 : decode cX9_place 141 = .ok (.iload_n 2, 1) := by decide +kernel
theorem dX9_place_142 : decode cX9_place 142 = .ok (.laload, 1) := by decide +kernel
theorem dX9_place_143 : decode cX9_place 143 = .ok (.aload_n 0, 1) := by decide +kernel
theorem dX9_place_144 : decode cX9_place 144 = .ok (.getfield 19, 3) := by decide +kernel
theorem dX9_place_147 : decode cX9_place 147 = .ok (.iload_n 1, 1) := by decide +kernel
theorem dX9_place_148 : decode cX9_place 148 = .ok (.iaload, 1) := by decide +kernel
theorem dX9_place_149 : decode cX9_place 149 = .ok (.i2l, 1) := by decide +kernel
theorem dX9_place_150 : decode cX9_place 150 = .ok (.aload_n 0, 1) := by decide +kernel
theorem dX9_place_151 : decode cX9_place 151 = .ok (.getfield 38, 3) := by decide +kernel
theorem dX9_place_154 : decode cX9_place 154 = .ok (.iload_n 1, 1) := by decide +kernel
theorem dX9_place_155 : decode cX9_place 155 = .ok (.laload, 1) := by decide +kernel
theorem dX9_place_156 : decode cX9_place 156 = .ok (.lmul, 1) := by decide +kernel
theorem dX9_place_157 : decode cX9_place 157 = .ok (.ladd, 1) := by decide +kernel
theorem dX9_place_158 : decode cX9_place 158 = .ok (.lastore, 1) := by decide +kernel
theorem dX9_place_159 : decode cX9_place 159 = .ok (.aload_n 0, 1) := by decide +kernel
theorem dX9_place_160 : decode cX9_place 160 = .ok (.getfield 48, 3) := by decide +kernel
theorem dX9_place_163 : decode cX9_place 163 = .ok (.iload_n 1, 1) := by decide +kernel
theorem dX9_place_164 : decode cX9_place 164 = .ok (.iload_n 2, 1) := by decide +kernel
theorem dX9_place_165 : decode cX9_place 165 = .ok (.iconst (-1), 1) := by decide +kernel
theorem dX9_place_166 : decode cX9_place 166 = .ok (.if_icmp .ne 10, 3) := by decide +kernel
theorem dX9_place_169 : decode cX9_place 169 = .ok (.aload_n 0, 1) := by decide +kernel
theorem dX9_place_170 : decode cX9_place 170 = .ok (.getfield 144, 3) := by decide +kernel
theorem dX9_place_173 : decode cX9_place 173 = .ok (.goto 9, 3) := by decide +kernel
theorem dX9_place_176 : decode cX9_place 176 = .ok (.aload_n 0, 1) := by decide +kernel
theorem dX9_place_177 : decode cX9_place 177 = .ok (.getfield 48, 3) := by decide +kernel
theorem dX9_place_180 : decode cX9_place 180 = .ok (.iload_n 2, 1) := by decide +kernel
theorem dX9_place_181 : decode cX9_place 181 = .ok (.laload, 1) := by decide +kernel
theorem dX9_place_182 : decode cX9_place 182 = .ok (.aload_n 0, 1) := by decide +kernel
theorem dX9_place_183 : decode cX9_place 183 = .ok (.getfield 19, 3) := by decide +kernel
theorem dX9_place_186 : decode cX9_place 186 = .ok (.iload_n 1, 1) := by decide +kernel
theorem dX9_place_187 : decode cX9_place 187 = .ok (.iaload, 1) := by decide +kernel
theorem dX9_place_188 : decode cX9_place 188 = .ok (.i2l, 1) := by decide +kernel
theorem dX9_place_189 : decode cX9_place 189 = .ok (.aload_n 0, 1) := by decide +kernel
theorem dX9_place_190 : decode cX9_place 190 = .ok (.getfield 42, 3) := by decide +kernel
theorem dX9_place_193 : decode cX9_place 193 = .ok (.iload_n 1, 1) := by decide +kernel
theorem dX9_place_194 : decode cX9_place 194 = .ok (.laload, 1) := by decide +kernel
theorem dX9_place_195 : decode cX9_place 195 = .ok (.lmul, 1) := by decide +kernel
theorem dX9_place_196 : decode cX9_place 196 = .ok (.ladd, 1) := by decide +kernel
theorem dX9_place_197 : decode cX9_place 197 = .ok (.lastore, 1) := by decide +kernel
theorem dX9_place_198 : decode cX9_place 198 = .ok (.iinc 1 1, 3) := by decide +kernel
theorem dX9_place_201 : decode cX9_place 201 = .ok (.goto (-199), 3) := by decide +kernel
theorem dX9_place_204 : decode cX9_place 204 = .ok (.return_, 1) := by decide +kernel
theorem dX9_hold_0 : decode cX9_hold 0 = .ok (.aload_n 0, 1) := by decide +kernel
theorem dX9_hold_1 : decode cX9_hold 1 = .ok (.invokevirtual 147, 3) := by decide +kernel
theorem dX9_hold_4 : decode cX9_hold 4 = .ok (.aload_n 0, 1) := by decide +kernel
theorem dX9_hold_5 : decode cX9_hold 5 = .ok (.aload_n 0, 1) := by decide +kernel
theorem dX9_hold_6 : decode cX9_hold 6 = .ok (.getfield 34, 3) := by decide +kernel
theorem dX9_hold_9 : decode cX9_hold 9 = .ok (.iconst (-1), 1) := by decide +kernel
theorem dX9_hold_10 : decode cX9_hold 10 = .ok (.if_icmp .ne 7, 3) := by decide +kernel
theorem dX9_hold_13 : decode cX9_hold 13 = .ok (.lconst 0, 1) := by decide +kernel
theorem dX9_hold_14 : decode cX9_hold 14 = .ok (.goto 12, 3) := by decide +kernel
theorem dX9_hold_17 : decode cX9_hold 17 = .ok (.aload_n 0, 1) := by decide +kernel
theorem dX9_hold_18 : decode cX9_hold 18 = .ok (.getfield 45, 3) := by decide +kernel
theorem dX9_hold_21 : decode cX9_hold 21 = .ok (.aload_n 0, 1) := by decide +kernel
theorem dX9_hold_22 : decode cX9_hold 22 = .ok (.getfield 34, 3) := by decide +kernel
theorem dX9_hold_25 : decode cX9_hold 25 = .ok (.laload, 1) := by decide +kernel
theorem dX9_hold_26 : decode cX9_hold 26 = .ok (.putfield 150, 3) := by decide +kernel
theorem dX9_hold_29 : decode cX9_hold 29 = .ok (.aload_n 0, 1) := by decide +kernel
theorem dX9_hold_30 : decode cX9_hold 30 = .ok (.aload_n 0, 1) := by decide +kernel
theorem dX9_hold_31 : decode cX9_hold 31 = .ok (.getfield 34, 3) := by decide +kernel
theorem dX9_hold_34 : decode cX9_hold 34 = .ok (.iconst (-1), 1) := by decide +kernel
theorem dX9_hold_35 : decode cX9_hold 35 = .ok (.if_icmp .ne 7, 3) := by decide +kernel
theorem dX9_hold_38 : decode cX9_hold 38 = .ok (.lconst 0, 1) := by decide +kernel
theorem dX9_hold_39 : decode cX9_hold 39 = .ok (.goto 12, 3) := by decide +kernel
theorem dX9_hold_42 : decode cX9_hold 42 = .ok (.aload_n 0, 1) := by decide +kernel
theorem dX9_hold_43 : decode cX9_hold 43 = .ok (.getfield 48, 3) := by decide +kernel
theorem dX9_hold_46 : decode cX9_hold 46 = .ok (.aload_n 0, 1) := by decide +kernel
theorem dX9_hold_47 : decode cX9_hold 47 = .ok (.getfield 34, 3) := by decide +kernel
theorem dX9_hold_50 : decode cX9_hold 50 = .ok (.laload, 1) := by decide +kernel
theorem dX9_hold_51 : decode cX9_hold 51 = .ok (.putfield 153, 3) := by decide +kernel
theorem dX9_hold_54 : decode cX9_hold 54 = .ok (.return_, 1) := by decide +kernel
theorem dX9_settle_0 : decode cX9_settle 0 = .ok (.aload_n 0, 1) := by decide +kernel
theorem dX9_settle_1 : decode cX9_settle 1 = .ok (.invokevirtual 147, 3) := by decide +kernel
theorem dX9_settle_4 : decode cX9_settle 4 = .ok (.aload_n 0, 1) := by decide +kernel
theorem dX9_settle_5 : decode cX9_settle 5 = .ok (.getfield 34, 3) := by decide +kernel
theorem dX9_settle_8 : decode cX9_settle 8 = .ok (.iconst (-1), 1) := by decide +kernel
theorem dX9_settle_9 : decode cX9_settle 9 = .ok (.if_icmp .eq 49, 3) := by decide +kernel
theorem dX9_settle_12 : decode cX9_settle 12 = .ok (.aload_n 0, 1) := by decide +kernel
theorem dX9_settle_13 : decode cX9_settle 13 = .ok (.dup, 1) := by decide +kernel
theorem dX9_settle_14 : decode cX9_settle 14 = .ok (.getfield 140, 3) := by decide +kernel
theorem dX9_settle_17 : decode cX9_settle 17 = .ok (.aload_n 0, 1) := by decide +kernel
theorem dX9_settle_18 : decode cX9_settle 18 = .ok (.getfield 150, 3) := by decide +kernel
theorem dX9_settle_21 : decode cX9_settle 21 = .ok (.aload_n 0, 1) := by decide +kernel
theorem dX9_settle_22 : decode cX9_settle 22 = .ok (.getfield 45, 3) := by decide +kernel
theorem dX9_settle_25 : decode cX9_settle 25 = .ok (.aload_n 0, 1) := by decide +kernel
theorem dX9_settle_26 : decode cX9_settle 26 = .ok (.getfield 34, 3) := by decide +kernel
theorem dX9_settle_29 : decode cX9_settle 29 = .ok (.laload, 1) := by decide +kernel
theorem dX9_settle_30 : decode cX9_settle 30 = .ok (.lsub, 1) := by decide +kernel
theorem dX9_settle_31 : decode cX9_settle 31 = .ok (.ladd, 1) := by decide +kernel
theorem dX9_settle_32 : decode cX9_settle 32 = .ok (.putfield 140, 3) := by decide +kernel
theorem dX9_settle_35 : decode cX9_settle 35 = .ok (.aload_n 0, 1) := by decide +kernel
theorem dX9_settle_36 : decode cX9_settle 36 = .ok (.dup, 1) := by decide +kernel
theorem dX9_settle_37 : decode cX9_settle 37 = .ok (.getfield 144, 3) := by decide +kernel
theorem dX9_settle_40 : decode cX9_settle 40 = .ok (.aload_n 0, 1) := by decide +kernel
theorem dX9_settle_41 : decode cX9_settle 41 = .ok (.getfield 153, 3) := by decide +kernel
theorem dX9_settle_44 : decode cX9_settle 44 = .ok (.aload_n 0, 1) := by decide +kernel
theorem dX9_settle_45 : decode cX9_settle 45 = .ok (.getfield 48, 3) := by decide +kernel
theorem dX9_settle_48 : decode cX9_settle 48 = .ok (.aload_n 0, 1) := by decide +kernel
theorem dX9_settle_49 : decode cX9_settle 49 = .ok (.getfield 34, 3) := by decide +kernel
theorem dX9_settle_52 : decode cX9_settle 52 = .ok (.laload, 1) := by decide +kernel
theorem dX9_settle_53 : decode cX9_settle 53 = .ok (.lsub, 1) := by decide +kernel
theorem dX9_settle_54 : decode cX9_settle 54 = .ok (.ladd, 1) := by decide +kernel
theorem dX9_settle_55 : decode cX9_settle 55 = .ok (.putfield 144, 3) := by decide +kernel
theorem dX9_settle_58 : decode cX9_settle 58 = .ok (.return_, 1) := by decide +kernel
theorem dX9_turn_0 : decode cX9_turn 0 = .ok (.aload_n 0, 1) := by decide +kernel
theorem dX9_turn_1 : decode cX9_turn 1 = .ok (.iload_n 1, 1) := by decide +kernel
theorem dX9_turn_2 : decode cX9_turn 2 = .ok (.invokevirtual 132, 3) := by decide +kernel
theorem dX9_turn_5 : decode cX9_turn 5 = .ok (.ifCond .eq 15, 3) := by decide +kernel
theorem dX9_turn_8 : decode cX9_turn 8 = .ok (.iload_n 2, 1) := by decide +kernel
theorem dX9_turn_9 : decode cX9_turn 9 = .ok (.i2l, 1) := by decide +kernel
theorem dX9_turn_10 : decode cX9_turn 10 = .ok (.lconst 0, 1) := by decide +kernel
theorem dX9_turn_11 : decode cX9_turn 11 = .ok (.ldc2_w 126, 3) := by decide +kernel
theorem dX9_turn_14 : decode cX9_turn 14 = .ok (.invokestatic 114, 3) := by decide +kernel
theorem dX9_turn_17 : decode cX9_turn 17 = .ok (.ifCond .ne 6, 3) := by decide +kernel
theorem dX9_turn_20 : decode cX9_turn 20 = .ok (.bipush (-2), 2) := by decide +kernel
theorem dX9_turn_22 : decode cX9_turn 22 = .ok (.ireturn, 1) := by decide +kernel
theorem dX9_turn_23 : decode cX9_turn 23 = .ok (.aload_n 0, 1) := by decide +kernel
theorem dX9_turn_24 : decode cX9_turn 24 = .ok (.iload_n 1, 1) := by decide +kernel
theorem dX9_turn_25 : decode cX9_turn 25 = .ok (.iload_n 2, 1) := by decide +kernel
theorem dX9_turn_26 : decode cX9_turn 26 = .ok (.invokevirtual 100, 3) := by decide +kernel
theorem dX9_turn_29 : decode cX9_turn 29 = .ok (.ifCond .ne 6, 3) := by decide +kernel
theorem dX9_turn_32 : decode cX9_turn 32 = .ok (.bipush (-3), 2) := by decide +kernel
theorem dX9_turn_34 : decode cX9_turn 34 = .ok (.ireturn, 1) := by decide +kernel
theorem dX9_turn_35 : decode cX9_turn 35 = .ok (.aload_n 0, 1) := by decide +kernel
theorem dX9_turn_36 : decode cX9_turn 36 = .ok (.getfield 31, 3) := by decide +kernel
theorem dX9_turn_39 : decode cX9_turn 39 = .ok (.iload_n 1, 1) := by decide +kernel
theorem dX9_turn_40 : decode cX9_turn 40 = .ok (.iaload, 1) := by decide +kernel
theorem dX9_turn_41 : decode cX9_turn 41 = .ok (.istore_n 3, 1) := by decide +kernel
theorem dX9_turn_42 : decode cX9_turn 42 = .ok (.aload_n 0, 1) := by decide +kernel
theorem dX9_turn_43 : decode cX9_turn 43 = .ok (.invokevirtual 156, 3) := by decide +kernel
theorem dX9_turn_46 : decode cX9_turn 46 = .ok (.aload_n 0, 1) := by decide +kernel
theorem dX9_turn_47 : decode cX9_turn 47 = .ok (.getfield 31, 3) := by decide +kernel
theorem dX9_turn_50 : decode cX9_turn 50 = .ok (.iload_n 1, 1) := by decide +kernel
theorem dX9_turn_51 : decode cX9_turn 51 = .ok (.iload_n 2, 1) := by decide +kernel
theorem dX9_turn_52 : decode cX9_turn 52 = .ok (.iastore, 1) := by decide +kernel
theorem dX9_turn_53 : decode cX9_turn 53 = .ok (.aload_n 0, 1) := by decide +kernel
theorem dX9_turn_54 : decode cX9_turn 54 = .ok (.invokevirtual 159, 3) := by decide +kernel
theorem dX9_turn_57 : decode cX9_turn 57 = .ok (.iload_n 3, 1) := by decide +kernel
theorem dX9_turn_58 : decode cX9_turn 58 = .ok (.ireturn, 1) := by decide +kernel
theorem dX9_root_0 : decode cX9_root 0 = .ok (.lload_n 1, 1) := by decide +kernel
theorem dX9_root_1 : decode cX9_root 1 = .ok (.lload_n 3, 1) := by decide +kernel
theorem dX9_root_2 : decode cX9_root 2 = .ok (.invokestatic 162, 3) := by decide +kernel
theorem dX9_root_5 : decode cX9_root 5 = .ok (.ifCond .ne 6, 3) := by decide +kernel
theorem dX9_root_8 : decode cX9_root 8 = .ok (.bipush (-2), 2) := by decide +kernel
theorem dX9_root_10 : decode cX9_root 10 = .ok (.ireturn, 1) := by decide +kernel
theorem dX9_root_11 : decode cX9_root 11 = .ok (.aload_n 0, 1) := by decide +kernel
theorem dX9_root_12 : decode cX9_root 12 = .ok (.getfield 34, 3) := by decide +kernel
theorem dX9_root_15 : decode cX9_root 15 = .ok (.iconst (-1), 1) := by decide +kernel
theorem dX9_root_16 : decode cX9_root 16 = .ok (.if_icmp .eq 6, 3) := by decide +kernel
theorem dX9_root_19 : decode cX9_root 19 = .ok (.bipush (-3), 2) := by decide +kernel
theorem dX9_root_21 : decode cX9_root 21 = .ok (.ireturn, 1) := by decide +kernel
theorem dX9_root_22 : decode cX9_root 22 = .ok (.aload_n 0, 1) := by decide +kernel
theorem dX9_root_23 : decode cX9_root 23 = .ok (.lload_n 1, 1) := by decide +kernel
theorem dX9_root_24 : decode cX9_root 24 = .ok (.putfield 140, 3) := by decide +kernel
theorem dX9_root_27 : decode cX9_root 27 = .ok (.aload_n 0, 1) := by decide +kernel
theorem dX9_root_28 : decode cX9_root 28 = .ok (.lload_n 3, 1) := by decide +kernel
theorem dX9_root_29 : decode cX9_root 29 = .ok (.putfield 144, 3) := by decide +kernel
theorem dX9_root_32 : decode cX9_root 32 = .ok (.iconst 1, 1) := by decide +kernel
theorem dX9_root_33 : decode cX9_root 33 = .ok (.ireturn, 1) := by decide +kernel
theorem dX9_end_0 : decode cX9_end 0 = .ok (.iload_n 1, 1) := by decide +kernel
theorem dX9_end_1 : decode cX9_end 1 = .ok (.i2l, 1) := by decide +kernel
theorem dX9_end_2 : decode cX9_end 2 = .ok (.ldc2_w 122, 3) := by decide +kernel
theorem dX9_end_5 : decode cX9_end 5 = .ok (.aload_n 0, 1) := by decide +kernel
theorem dX9_end_6 : decode cX9_end 6 = .ok (.getfield 111, 3) := by decide +kernel
theorem dX9_end_9 : decode cX9_end 9 = .ok (.iconst 1, 1) := by decide +kernel
theorem dX9_end_10 : decode cX9_end 10 = .ok (.isub, 1) := by decide +kernel
theorem dX9_end_11 : decode cX9_end 11 = .ok (.i2l, 1) := by decide +kernel
theorem dX9_end_12 : decode cX9_end 12 = .ok (.invokestatic 114, 3) := by decide +kernel
theorem dX9_end_15 : decode cX9_end 15 = .ok (.ifCond .eq 13, 3) := by decide +kernel
theorem dX9_end_18 : decode cX9_end 18 = .ok (.iload_n 2, 1) := by decide +kernel
theorem dX9_end_19 : decode cX9_end 19 = .ok (.i2l, 1) := by decide +kernel
theorem dX9_end_20 : decode cX9_end 20 = .ok (.lconst 0, 1) := by decide +kernel
theorem dX9_end_21 : decode cX9_end 21 = .ok (.lconst 1, 1) := by decide +kernel
theorem dX9_end_22 : decode cX9_end 22 = .ok (.invokestatic 114, 3) := by decide +kernel
theorem dX9_end_25 : decode cX9_end 25 = .ok (.ifCond .ne 9, 3) := by decide +kernel
theorem dX9_end_28 : decode cX9_end 28 = .ok (.bipush (-2), 2) := by decide +kernel
theorem dX9_end_30 : decode cX9_end 30 = .ok (.invokestatic 166, 3) := by decide +kernel
theorem dX9_end_33 : decode cX9_end 33 = .ok (.lreturn, 1) := by decide +kernel
theorem dX9_end_34 : decode cX9_end 34 = .ok (.aload_n 0, 1) := by decide +kernel
theorem dX9_end_35 : decode cX9_end 35 = .ok (.invokevirtual 147, 3) := by decide +kernel
theorem dX9_end_38 : decode cX9_end 38 = .ok (.iload_n 1, 1) := by decide +kernel
theorem dX9_end_39 : decode cX9_end 39 = .ok (.iconst (-1), 1) := by decide +kernel
theorem dX9_end_40 : decode cX9_end 40 = .ok (.if_icmp .ne 21, 3) := by decide +kernel
theorem dX9_end_43 : decode cX9_end 43 = .ok (.iload_n 2, 1) := by decide +kernel
theorem dX9_end_44 : decode cX9_end 44 = .ok (.ifCond .ne 10, 3) := by decide +kernel
theorem dX9_end_47 : decode cX9_end 47 = .ok (.aload_n 0, 1) := by decide +kernel
theorem dX9_end_48 : decode cX9_end 48 = .ok (.getfield 140, 3) := by decide +kernel
theorem dX9_end_51 : decode cX9_end 51 = .ok (.goto 29, 3) := by decide +kernel
theorem dX9_end_54 : decode cX9_end 54 = .ok (.aload_n 0, 1) := by decide +kernel
theorem dX9_end_55 : decode cX9_end 55 = .ok (.getfield 144, 3) := by decide +kernel
theorem dX9_end_58 : decode cX9_end 58 = .ok (.goto 22, 3) := by decide +kernel
theorem dX9_end_61 : decode cX9_end 61 = .ok (.iload_n 2, 1) := by decide +kernel
theorem dX9_end_62 : decode cX9_end 62 = .ok (.ifCond .ne 12, 3) := by decide +kernel
theorem dX9_end_65 : decode cX9_end 65 = .ok (.aload_n 0, 1) := by decide +kernel
theorem dX9_end_66 : decode cX9_end 66 = .ok (.getfield 45, 3) := by decide +kernel
theorem dX9_end_69 : decode cX9_end 69 = .ok (.iload_n 1, 1) := by decide +kernel
theorem dX9_end_70 : decode cX9_end 70 = .ok (.laload, 1) := by decide +kernel
theorem dX9_end_71 : decode cX9_end 71 = .ok (.goto 9, 3) := by decide +kernel
theorem dX9_end_74 : decode cX9_end 74 = .ok (.aload_n 0, 1) := by decide +kernel
theorem dX9_end_75 : decode cX9_end 75 = .ok (.getfield 48, 3) := by decide +kernel
theorem dX9_end_78 : decode cX9_end 78 = .ok (.iload_n 1, 1) := by decide +kernel
theorem dX9_end_79 : decode cX9_end 79 = .ok (.laload, 1) := by decide +kernel
theorem dX9_end_80 : decode cX9_end 80 = .ok (.lreturn, 1) := by decide +kernel
theorem dX9_farOf_0 : decode cX9_farOf 0 = .ok (.aload_n 0, 1) := by decide +kernel
theorem dX9_farOf_1 : decode cX9_farOf 1 = .ok (.invokevirtual 147, 3) := by decide +kernel
theorem dX9_farOf_4 : decode cX9_farOf 4 = .ok (.aload_n 0, 1) := by decide +kernel
theorem dX9_farOf_5 : decode cX9_farOf 5 = .ok (.getfield 45, 3) := by decide +kernel
theorem dX9_farOf_8 : decode cX9_farOf 8 = .ok (.iload_n 1, 1) := by decide +kernel
theorem dX9_farOf_9 : decode cX9_farOf 9 = .ok (.laload, 1) := by decide +kernel
theorem dX9_farOf_10 : decode cX9_farOf 10 = .ok (.lload_n 2, 1) := by decide +kernel
theorem dX9_farOf_11 : decode cX9_farOf 11 = .ok (.lcmp, 1) := by decide +kernel
theorem dX9_farOf_12 : decode cX9_farOf 12 = .ok (.ifCond .le 14, 3) := by decide +kernel
theorem dX9_farOf_15 : decode cX9_farOf 15 = .ok (.aload_n 0, 1) := by decide +kernel
theorem dX9_farOf_16 : decode cX9_farOf 16 = .ok (.getfield 45, 3) := by decide +kernel
theorem dX9_farOf_19 : decode cX9_farOf 19 = .ok (.iload_n 1, 1) := by decide +kernel
theorem dX9_farOf_20 : decode cX9_farOf 20 = .ok (.laload, 1) := by decide +kernel
theorem dX9_farOf_21 : decode cX9_farOf 21 = .ok (.lload_n 2, 1) := by decide +kernel
theorem dX9_farOf_22 : decode cX9_farOf 22 = .ok (.lsub, 1) := by decide +kernel
theorem dX9_farOf_23 : decode cX9_farOf 23 = .ok (.goto 11, 3) := by decide +kernel
theorem dX9_farOf_26 : decode cX9_farOf 26 = .ok (.lload_n 2, 1) := by decide +kernel
theorem dX9_farOf_27 : decode cX9_farOf 27 = .ok (.aload_n 0, 1) := by decide +kernel
theorem dX9_farOf_28 : decode cX9_farOf 28 = .ok (.getfield 45, 3) := by decide +kernel
theorem dX9_farOf_31 : decode cX9_farOf 31 = .ok (.iload_n 1, 1) := by decide +kernel
theorem dX9_farOf_32 : decode cX9_farOf 32 = .ok (.laload, 1) := by decide +kernel
theorem dX9_farOf_33 : decode cX9_farOf 33 = .ok (.lsub, 1) := by decide +kernel
theorem dX9_farOf_34 : decode cX9_farOf 34 = .ok (.lstore 6, 2) := by decide +kernel
theorem dX9_farOf_36 : decode cX9_farOf 36 = .ok (.aload_n 0, 1) := by decide +kernel
theorem dX9_farOf_37 : decode cX9_farOf 37 = .ok (.getfield 48, 3) := by decide +kernel
theorem dX9_farOf_40 : decode cX9_farOf 40 = .ok (.iload_n 1, 1) := by decide +kernel
theorem dX9_farOf_41 : decode cX9_farOf 41 = .ok (.laload, 1) := by decide +kernel
theorem dX9_farOf_42 : decode cX9_farOf 42 = .ok (.lload 4, 2) := by decide +kernel
theorem dX9_farOf_44 : decode cX9_farOf 44 = .ok (.lcmp, 1) := by decide +kernel
theorem dX9_farOf_45 : decode cX9_farOf 45 = .ok (.ifCond .le 15, 3) := by decide +kernel
theorem dX9_farOf_48 : decode cX9_farOf 48 = .ok (.aload_n 0, 1) := by decide +kernel
theorem dX9_farOf_49 : decode cX9_farOf 49 = .ok (.getfield 48, 3) := by decide +kernel
theorem dX9_farOf_52 : decode cX9_farOf 52 = .ok (.iload_n 1, 1) := by decide +kernel
theorem dX9_farOf_53 : decode cX9_farOf 53 = .ok (.laload, 1) := by decide +kernel
theorem dX9_farOf_54 : decode cX9_farOf 54 = .ok (.lload 4, 2) := by decide +kernel
theorem dX9_farOf_56 : decode cX9_farOf 56 = .ok (.lsub, 1) := by decide +kernel
theorem dX9_farOf_57 : decode cX9_farOf 57 = .ok (.goto 12, 3) := by decide +kernel
theorem dX9_farOf_60 : decode cX9_farOf 60 = .ok (.lload 4, 2) := by decide +kernel
theorem dX9_farOf_62 : decode cX9_farOf 62 = .ok (.aload_n 0, 1) := by decide +kernel
theorem dX9_farOf_63 : decode cX9_farOf 63 = .ok (.getfield 48, 3) := by decide +kernel
theorem dX9_farOf_66 : decode cX9_farOf 66 = .ok (.iload_n 1, 1) := by decide +kernel
theorem dX9_farOf_67 : decode cX9_farOf 67 = .ok (.laload, 1) := by decide +kernel
theorem dX9_farOf_68 : decode cX9_farOf 68 = .ok (.lsub, 1) := by decide +kernel
theorem dX9_farOf_69 : decode cX9_farOf 69 = .ok (.lstore 8, 2) := by decide +kernel
theorem dX9_farOf_71 : decode cX9_farOf 71 = .ok (.lload 6, 2) := by decide +kernel
theorem dX9_farOf_73 : decode cX9_farOf 73 = .ok (.lload 8, 2) := by decide +kernel
theorem dX9_farOf_75 : decode cX9_farOf 75 = .ok (.lcmp, 1) := by decide +kernel
theorem dX9_farOf_76 : decode cX9_farOf 76 = .ok (.ifCond .le 8, 3) := by decide +kernel
theorem dX9_farOf_79 : decode cX9_farOf 79 = .ok (.lload 6, 2) := by decide +kernel
theorem dX9_farOf_81 : decode cX9_farOf 81 = .ok (.goto 5, 3) := by decide +kernel
theorem dX9_farOf_84 : decode cX9_farOf 84 = .ok (.lload 8, 2) := by decide +kernel
theorem dX9_farOf_86 : decode cX9_farOf 86 = .ok (.lreturn, 1) := by decide +kernel
theorem dX9_far_0 : decode cX9_far 0 = .ok (.aload_n 0, 1) := by decide +kernel
theorem dX9_far_1 : decode cX9_far 1 = .ok (.iload_n 1, 1) := by decide +kernel
theorem dX9_far_2 : decode cX9_far 2 = .ok (.invokevirtual 132, 3) := by decide +kernel
theorem dX9_far_5 : decode cX9_far 5 = .ok (.ifCond .eq 23, 3) := by decide +kernel
theorem dX9_far_8 : decode cX9_far 8 = .ok (.lload_n 2, 1) := by decide +kernel
theorem dX9_far_9 : decode cX9_far 9 = .ok (.lload 4, 2) := by decide +kernel
theorem dX9_far_11 : decode cX9_far 11 = .ok (.invokestatic 162, 3) := by decide +kernel
theorem dX9_far_14 : decode cX9_far 14 = .ok (.ifCond .eq 14, 3) := by decide +kernel
theorem dX9_far_17 : decode cX9_far 17 = .ok (.aload_n 0, 1) := by decide +kernel
theorem dX9_far_18 : decode cX9_far 18 = .ok (.iload_n 1, 1) := by decide +kernel
theorem dX9_far_19 : decode cX9_far 19 = .ok (.lload_n 2, 1) := by decide +kernel
theorem dX9_far_20 : decode cX9_far 20 = .ok (.lload 4, 2) := by decide +kernel
theorem dX9_far_22 : decode cX9_far 22 = .ok (.invokevirtual 170, 3) := by decide +kernel
theorem dX9_far_25 : decode cX9_far 25 = .ok (.goto 8, 3) := by decide +kernel
theorem dX9_far_28 : decode cX9_far 28 = .ok (.bipush (-2), 2) := by decide +kernel
theorem dX9_far_30 : decode cX9_far 30 = .ok (.invokestatic 166, 3) := by decide +kernel
theorem dX9_far_33 : decode cX9_far 33 = .ok (.lreturn, 1) := by decide +kernel
theorem dX9_lock_0 : decode cX9_lock 0 = .ok (.iload_n 1, 1) := by decide +kernel
theorem dX9_lock_1 : decode cX9_lock 1 = .ok (.i2l, 1) := by decide +kernel
theorem dX9_lock_2 : decode cX9_lock 2 = .ok (.ldc2_w 122, 3) := by decide +kernel
theorem dX9_lock_5 : decode cX9_lock 5 = .ok (.aload_n 0, 1) := by decide +kernel
theorem dX9_lock_6 : decode cX9_lock 6 = .ok (.getfield 111, 3) := by decide +kernel
theorem dX9_lock_9 : decode cX9_lock 9 = .ok (.iconst 1, 1) := by decide +kernel
theorem dX9_lock_10 : decode cX9_lock 10 = .ok (.isub, 1) := by decide +kernel
theorem dX9_lock_11 : decode cX9_lock 11 = .ok (.i2l, 1) := by decide +kernel
theorem dX9_lock_12 : decode cX9_lock 12 = .ok (.invokestatic 114, 3) := by decide +kernel
theorem dX9_lock_15 : decode cX9_lock 15 = .ok (.ifCond .ne 6, 3) := by decide +kernel
theorem dX9_lock_18 : decode cX9_lock 18 = .ok (.bipush (-2), 2) := by decide +kernel
theorem dX9_lock_20 : decode cX9_lock 20 = .ok (.ireturn, 1) := by decide +kernel
theorem dX9_lock_21 : decode cX9_lock 21 = .ok (.aload_n 0, 1) := by decide +kernel
theorem dX9_lock_22 : decode cX9_lock 22 = .ok (.getfield 34, 3) := by decide +kernel
theorem dX9_lock_25 : decode cX9_lock 25 = .ok (.istore_n 2, 1) := by decide +kernel
theorem dX9_lock_26 : decode cX9_lock 26 = .ok (.aload_n 0, 1) := by decide +kernel
theorem dX9_lock_27 : decode cX9_lock 27 = .ok (.iload_n 1, 1) := by decide +kernel
theorem dX9_lock_28 : decode cX9_lock 28 = .ok (.putfield 34, 3) := by decide +kernel
theorem dX9_lock_31 : decode cX9_lock 31 = .ok (.iload_n 2, 1) := by decide +kernel
theorem dX9_lock_32 : decode cX9_lock 32 = .ok (.ireturn, 1) := by decide +kernel
theorem dX9_two_0 : decode cX9_two 0 = .ok (.aload_n 0, 1) := by decide +kernel
theorem dX9_two_1 : decode cX9_two 1 = .ok (.iload_n 1, 1) := by decide +kernel
theorem dX9_two_2 : decode cX9_two 2 = .ok (.invokevirtual 132, 3) := by decide +kernel
theorem dX9_two_5 : decode cX9_two 5 = .ok (.ifCond .eq 12, 3) := by decide +kernel
theorem dX9_two_8 : decode cX9_two 8 = .ok (.lload_n 2, 1) := by decide +kernel
theorem dX9_two_9 : decode cX9_two 9 = .ok (.lload 4, 2) := by decide +kernel
theorem dX9_two_11 : decode cX9_two 11 = .ok (.invokestatic 162, 3) := by decide +kernel
theorem dX9_two_14 : decode cX9_two 14 = .ok (.ifCond .ne 9, 3) := by decide +kernel
theorem dX9_two_17 : decode cX9_two 17 = .ok (.bipush (-2), 2) := by decide +kernel
theorem dX9_two_19 : decode cX9_two 19 = .ok (.invokestatic 166, 3) := by decide +kernel
theorem dX9_two_22 : decode cX9_two 22 = .ok (.lreturn, 1) := by decide +kernel
theorem dX9_two_23 : decode cX9_two 23 = .ok (.aload_n 0, 1) := by decide +kernel
theorem dX9_two_24 : decode cX9_two 24 = .ok (.getfield 34, 3) := by decide +kernel
theorem dX9_two_27 : decode cX9_two 27 = .ok (.iconst (-1), 1) := by decide +kernel
theorem dX9_two_28 : decode cX9_two 28 = .ok (.if_icmp .eq 9, 3) := by decide +kernel
theorem dX9_two_31 : decode cX9_two 31 = .ok (.bipush (-3), 2) := by decide +kernel
theorem dX9_two_33 : decode cX9_two 33 = .ok (.invokestatic 166, 3) := by decide +kernel
theorem dX9_two_36 : decode cX9_two 36 = .ok (.lreturn, 1) := by decide +kernel
theorem dX9_two_37 : decode cX9_two 37 = .ok (.aload_n 0, 1) := by decide +kernel
theorem dX9_two_38 : decode cX9_two 38 = .ok (.getfield 16, 3) := by decide +kernel
theorem dX9_two_41 : decode cX9_two 41 = .ok (.iload_n 1, 1) := by decide +kernel
theorem dX9_two_42 : decode cX9_two 42 = .ok (.iaload, 1) := by decide +kernel
theorem dX9_two_43 : decode cX9_two 43 = .ok (.istore 6, 2) := by decide +kernel
theorem dX9_two_45 : decode cX9_two 45 = .ok (.ldc2_w 122, 3) := by decide +kernel
theorem dX9_two_48 : decode cX9_two 48 = .ok (.lstore 7, 2) := by decide +kernel
theorem dX9_two_50 : decode cX9_two 50 = .ok (.iconst 0, 1) := by decide +kernel
theorem dX9_two_51 : decode cX9_two 51 = .ok (.istore 9, 2) := by decide +kernel
theorem dX9_two_53 : decode cX9_two 53 = .ok (.iconst 0, 1) := by decide +kernel
theorem dX9_two_54 : decode cX9_two 54 = .ok (.istore 10, 2) := by decide +kernel
theorem dX9_two_56 : decode cX9_two 56 = .ok (.iconst 0, 1) := by decide +kernel
theorem dX9_two_57 : decode cX9_two 57 = .ok (.istore 11, 2) := by decide +kernel
theorem dX9_two_59 : decode cX9_two 59 = .ok (.iload 11, 2) := by decide +kernel
theorem dX9_two_61 : decode cX9_two 61 = .ok (.bipush 36, 2) := by decide +kernel
theorem dX9_two_63 : decode cX9_two 63 = .ok (.if_icmp .ge 120, 3) := by decide +kernel
theorem dX9_two_66 : decode cX9_two 66 = .ok (.iload 6, 2) := by decide +kernel
theorem dX9_two_68 : decode cX9_two 68 = .ok (.iconst (-1), 1) := by decide +kernel
theorem dX9_two_69 : decode cX9_two 69 = .ok (.if_icmp .ne 11, 3) := by decide +kernel
theorem dX9_two_72 : decode cX9_two 72 = .ok (.iload 11, 2) := by decide +kernel
theorem dX9_two_74 : decode cX9_two 74 = .ok (.ifCond .ne 103, 3) := by decide +kernel
theorem dX9_two_77 : decode cX9_two 77 = .ok (.goto 14, 3) := by decide +kernel
theorem dX9_two_80 : decode cX9_two 80 = .ok (.aload_n 0, 1) := by decide +kernel
theorem dX9_two_81 : decode cX9_two 81 = .ok (.iload 6, 2) := by decide +kernel
theorem dX9_two_83 : decode cX9_two 83 = .ok (.iload 11, 2) := by decide +kernel
theorem dX9_two_85 : decode cX9_two 85 = .ok (.invokevirtual 100, 3) := by decide +kernel
theorem dX9_two_88 : decode cX9_two 88 = .ok (.ifCond .eq 89, 3) := by decide +kernel
theorem dX9_two_91 : decode cX9_two 91 = .ok (.iload 6, 2) := by decide +kernel
theorem dX9_two_93 : decode cX9_two 93 = .ok (.iconst (-1), 1) := by decide +kernel
theorem dX9_two_94 : decode cX9_two 94 = .ok (.if_icmp .eq 12, 3) := by decide +kernel
theorem dX9_two_97 : decode cX9_two 97 = .ok (.aload_n 0, 1) := by decide +kernel
theorem dX9_two_98 : decode cX9_two 98 = .ok (.getfield 31, 3) := by decide +kernel
theorem dX9_two_101 : decode cX9_two 101 = .ok (.iload 6, 2) := by decide +kernel
theorem dX9_two_103 : decode cX9_two 103 = .ok (.iload 11, 2) := by decide +kernel
theorem dX9_two_105 : decode cX9_two 105 = .ok (.iastore, 1) := by decide +kernel
theorem dX9_two_106 : decode cX9_two 106 = .ok (.iconst 0, 1) := by decide +kernel
theorem dX9_two_107 : decode cX9_two 107 = .ok (.istore 12, 2) := by decide +kernel
theorem dX9_two_109 : decode cX9_two 109 = .ok (.iload 12, 2) := by decide +kernel
theorem dX9_two_111 : decode cX9_two 111 = .ok (.bipush 36, 2) := by decide +kernel
theorem dX9_two_113 : decode cX9_two 113 = .ok (.if_icmp .ge 64, 3) := by decide +kernel
theorem dX9_two_116 : decode cX9_two 116 = .ok (.aload_n 0, 1) := by decide +kernel
theorem dX9_two_117 : decode cX9_two 117 = .ok (.iload_n 1, 1) := by decide +kernel
theorem dX9_two_118 : decode cX9_two 118 = .ok (.iload 12, 2) := by decide +kernel
theorem dX9_two_120 : decode cX9_two 120 = .ok (.invokevirtual 100, 3) := by decide +kernel
theorem dX9_two_123 : decode cX9_two 123 = .ok (.ifCond .eq 48, 3) := by decide +kernel
theorem dX9_two_126 : decode cX9_two 126 = .ok (.aload_n 0, 1) := by decide +kernel
theorem dX9_two_127 : decode cX9_two 127 = .ok (.getfield 31, 3) := by decide +kernel
theorem dX9_two_130 : decode cX9_two 130 = .ok (.iload_n 1, 1) := by decide +kernel
theorem dX9_two_131 : decode cX9_two 131 = .ok (.iload 12, 2) := by decide +kernel
theorem dX9_two_133 : decode cX9_two 133 = .ok (.iastore, 1) := by decide +kernel
theorem dX9_two_134 : decode cX9_two 134 = .ok (.aload_n 0, 1) := by decide +kernel
theorem dX9_two_135 : decode cX9_two 135 = .ok (.iload_n 1, 1) := by decide +kernel
theorem dX9_two_136 : decode cX9_two 136 = .ok (.lload_n 2, 1) := by decide +kernel
theorem dX9_two_137 : decode cX9_two 137 = .ok (.lload 4, 2) := by decide +kernel
theorem dX9_two_139 : decode cX9_two 139 = .ok (.invokevirtual 170, 3) := by decide +kernel
theorem dX9_two_142 : decode cX9_two 142 = .ok (.lstore 13, 2) := by decide +kernel
theorem dX9_two_144 : decode cX9_two 144 = .ok (.lload 7, 2) := by decide +kernel
theorem dX9_two_146 : decode cX9_two 146 = .ok (.lconst 0, 1) := by decide +kernel
theorem dX9_two_147 : decode cX9_two 147 = .ok (.lcmp, 1) := by decide +kernel
theorem dX9_two_148 : decode cX9_two 148 = .ok (.ifCond .lt 11, 3) := by decide +kernel
theorem dX9_two_151 : decode cX9_two 151 = .ok (.lload 13, 2) := by decide +kernel
theorem dX9_two_153 : decode cX9_two 153 = .ok (.lload 7, 2) := by decide +kernel
theorem dX9_two_155 : decode cX9_two 155 = .ok (.lcmp, 1) := by decide +kernel
theorem dX9_two_156 : decode cX9_two 156 = .ok (.ifCond .ge 15, 3) := by decide +kernel
theorem dX9_two_159 : decode cX9_two 159 = .ok (.lload 13, 2) := by decide +kernel
theorem dX9_two_161 : decode cX9_two 161 = .ok (.lstore 7, 2) := by decide +kernel
theorem dX9_two_163 : decode cX9_two 163 = .ok (.iload 11, 2) := by decide +kernel
theorem dX9_two_165 : decode cX9_two 165 = .ok (.istore 9, 2) := by decide +kernel
theorem dX9_two_167 : decode cX9_two 167 = .ok (.iload 12, 2) := by decide +kernel
theorem dX9_two_169 : decode cX9_two 169 = .ok (.istore 10, 2) := by decide +kernel
theorem dX9_two_171 : decode cX9_two 171 = .ok (.iinc 12 1, 3) := by decide +kernel
theorem dX9_two_174 : decode cX9_two 174 = .ok (.goto (-65), 3) := by decide +kernel
theorem dX9_two_177 : decode cX9_two 177 = .ok (.iinc 11 1, 3) := by decide +kernel
theorem dX9_two_180 : decode cX9_two 180 = .ok (.goto (-121), 3) := by decide +kernel
theorem dX9_two_183 : decode cX9_two 183 = .ok (.iload 6, 2) := by decide +kernel
theorem dX9_two_185 : decode cX9_two 185 = .ok (.iconst (-1), 1) := by decide +kernel
theorem dX9_two_186 : decode cX9_two 186 = .ok (.if_icmp .eq 12, 3) := by decide +kernel
theorem dX9_two_189 : decode cX9_two 189 = .ok (.aload_n 0, 1) := by decide +kernel
theorem dX9_two_190 : decode cX9_two 190 = .ok (.getfield 31, 3) := by decide +kernel
theorem dX9_two_193 : decode cX9_two 193 = .ok (.iload 6, 2) := by decide +kernel
theorem dX9_two_195 : decode cX9_two 195 = .ok (.iload 9, 2) := by decide +kernel
theorem dX9_two_197 : decode cX9_two 197 = .ok (.iastore, 1) := by decide +kernel
theorem dX9_two_198 : decode cX9_two 198 = .ok (.aload_n 0, 1) := by decide +kernel
theorem dX9_two_199 : decode cX9_two 199 = .ok (.getfield 31, 3) := by decide +kernel
theorem dX9_two_202 : decode cX9_two 202 = .ok (.iload_n 1, 1) := by decide +kernel
theorem dX9_two_203 : decode cX9_two 203 = .ok (.iload 10, 2) := by decide +kernel
theorem dX9_two_205 : decode cX9_two 205 = .ok (.iastore, 1) := by decide +kernel
theorem dX9_two_206 : decode cX9_two 206 = .ok (.lload 7, 2) := by decide +kernel
theorem dX9_two_208 : decode cX9_two 208 = .ok (.lreturn, 1) := by decide +kernel
theorem dX9_rounds_0 : decode cX9_rounds 0 = .ok (.aload_n 0, 1) := by decide +kernel
theorem dX9_rounds_1 : decode cX9_rounds 1 = .ok (.iload_n 1, 1) := by decide +kernel
theorem dX9_rounds_2 : decode cX9_rounds 2 = .ok (.invokevirtual 132, 3) := by decide +kernel
theorem dX9_rounds_5 : decode cX9_rounds 5 = .ok (.ifCond .eq 25, 3) := by decide +kernel
theorem dX9_rounds_8 : decode cX9_rounds 8 = .ok (.lload_n 2, 1) := by decide +kernel
theorem dX9_rounds_9 : decode cX9_rounds 9 = .ok (.lload 4, 2) := by decide +kernel
theorem dX9_rounds_11 : decode cX9_rounds 11 = .ok (.invokestatic 162, 3) := by decide +kernel
theorem dX9_rounds_14 : decode cX9_rounds 14 = .ok (.ifCond .eq 16, 3) := by decide +kernel
theorem dX9_rounds_17 : decode cX9_rounds 17 = .ok (.iload 6, 2) := by decide +kernel
theorem dX9_rounds_19 : decode cX9_rounds 19 = .ok (.i2l, 1) := by decide +kernel
theorem dX9_rounds_20 : decode cX9_rounds 20 = .ok (.lconst 1, 1) := by decide +kernel
theorem dX9_rounds_21 : decode cX9_rounds 21 = .ok (.ldc2_w 174, 3) := by decide +kernel
theorem dX9_rounds_24 : decode cX9_rounds 24 = .ok (.invokestatic 114, 3) := by decide +kernel
theorem dX9_rounds_27 : decode cX9_rounds 27 = .ok (.ifCond .ne 9, 3) := by decide +kernel
theorem dX9_rounds_30 : decode cX9_rounds 30 = .ok (.bipush (-2), 2) := by decide +kernel
theorem dX9_rounds_32 : decode cX9_rounds 32 = .ok (.invokestatic 166, 3) := by decide +kernel
theorem dX9_rounds_35 : decode cX9_rounds 35 = .ok (.lreturn, 1) := by decide +kernel
theorem dX9_rounds_36 : decode cX9_rounds 36 = .ok (.aload_n 0, 1) := by decide +kernel
theorem dX9_rounds_37 : decode cX9_rounds 37 = .ok (.getfield 34, 3) := by decide +kernel
theorem dX9_rounds_40 : decode cX9_rounds 40 = .ok (.iconst (-1), 1) := by decide +kernel
theorem dX9_rounds_41 : decode cX9_rounds 41 = .ok (.if_icmp .eq 9, 3) := by decide +kernel
theorem dX9_rounds_44 : decode cX9_rounds 44 = .ok (.bipush (-3), 2) := by decide +kernel
theorem dX9_rounds_46 : decode cX9_rounds 46 = .ok (.invokestatic 166, 3) := by decide +kernel
theorem dX9_rounds_49 : decode cX9_rounds 49 = .ok (.lreturn, 1) := by decide +kernel
theorem dX9_rounds_50 : decode cX9_rounds 50 = .ok (.iconst 0, 1) := by decide +kernel
theorem dX9_rounds_51 : decode cX9_rounds 51 = .ok (.istore 7, 2) := by decide +kernel
theorem dX9_rounds_53 : decode cX9_rounds 53 = .ok (.iload 7, 2) := by decide +kernel
theorem dX9_rounds_55 : decode cX9_rounds 55 = .ok (.iload 6, 2) := by decide +kernel
theorem dX9_rounds_57 : decode cX9_rounds 57 = .ok (.if_icmp .ge 120, 3) := by decide +kernel
theorem dX9_rounds_60 : decode cX9_rounds 60 = .ok (.iload_n 1, 1) := by decide +kernel
theorem dX9_rounds_61 : decode cX9_rounds 61 = .ok (.istore 8, 2) := by decide +kernel
theorem dX9_rounds_63 : decode cX9_rounds 63 = .ok (.iload 8, 2) := by decide +kernel
theorem dX9_rounds_65 : decode cX9_rounds 65 = .ok (.iconst (-1), 1) := by decide +kernel
theorem dX9_rounds_66 : decode cX9_rounds 66 = .ok (.if_icmp .eq 105, 3) := by decide +kernel
theorem dX9_rounds_69 : decode cX9_rounds 69 = .ok (.aload_n 0, 1) := by decide +kernel
theorem dX9_rounds_70 : decode cX9_rounds 70 = .ok (.getfield 31, 3) := by decide +kernel
theorem dX9_rounds_73 : decode cX9_rounds 73 = .ok (.iload 8, 2) := by decide +kernel
theorem dX9_rounds_75 : decode cX9_rounds 75 = .ok (.iaload, 1) := by decide +kernel
theorem dX9_rounds_76 : decode cX9_rounds 76 = .ok (.istore 9, 2) := by decide +kernel
theorem dX9_rounds_78 : decode cX9_rounds 78 = .ok (.aload_n 0, 1) := by decide +kernel
theorem dX9_rounds_79 : decode cX9_rounds 79 = .ok (.iload_n 1, 1) := by decide +kernel
theorem dX9_rounds_80 : decode cX9_rounds 80 = .ok (.lload_n 2, 1) := by decide +kernel
theorem dX9_rounds_81 : decode cX9_rounds 81 = .ok (.lload 4, 2) := by decide +kernel
theorem dX9_rounds_83 : decode cX9_rounds 83 = .ok (.invokevirtual 170, 3) := by decide +kernel
theorem dX9_rounds_86 : decode cX9_rounds 86 = .ok (.lstore 10, 2) := by decide +kernel
theorem dX9_rounds_88 : decode cX9_rounds 88 = .ok (.iconst 0, 1) := by decide +kernel
theorem dX9_rounds_89 : decode cX9_rounds 89 = .ok (.istore 12, 2) := by decide +kernel
theorem dX9_rounds_91 : decode cX9_rounds 91 = .ok (.iload 12, 2) := by decide +kernel
theorem dX9_rounds_93 : decode cX9_rounds 93 = .ok (.bipush 36, 2) := by decide +kernel
theorem dX9_rounds_95 : decode cX9_rounds 95 = .ok (.if_icmp .ge 55, 3) := by decide +kernel
theorem dX9_rounds_98 : decode cX9_rounds 98 = .ok (.aload_n 0, 1) := by decide +kernel
theorem dX9_rounds_99 : decode cX9_rounds 99 = .ok (.iload 8, 2) := by decide +kernel
theorem dX9_rounds_101 : decode cX9_rounds 101 = .ok (.iload 12, 2) := by decide +kernel
theorem dX9_rounds_103 : decode cX9_rounds 103 = .ok (.invokevirtual 100, 3) := by decide +kernel
theorem dX9_rounds_106 : decode cX9_rounds 106 = .ok (.ifCond .eq 38, 3) := by decide +kernel
theorem dX9_rounds_109 : decode cX9_rounds 109 = .ok (.aload_n 0, 1) := by decide +kernel
theorem dX9_rounds_110 : decode cX9_rounds 110 = .ok (.getfield 31, 3) := by decide +kernel
theorem dX9_rounds_113 : decode cX9_rounds 113 = .ok (.iload 8, 2) := by decide +kernel
theorem dX9_rounds_115 : decode cX9_rounds 115 = .ok (.iload 12, 2) := by decide +kernel
theorem dX9_rounds_117 : decode cX9_rounds 117 = .ok (.iastore, 1) := by decide +kernel
theorem dX9_rounds_118 : decode cX9_rounds 118 = .ok (.aload_n 0, 1) := by decide +kernel
theorem dX9_rounds_119 : decode cX9_rounds 119 = .ok (.iload_n 1, 1) := by decide +kernel
theorem dX9_rounds_120 : decode cX9_rounds 120 = .ok (.lload_n 2, 1) := by decide +kernel
theorem dX9_rounds_121 : decode cX9_rounds 121 = .ok (.lload 4, 2) := by decide +kernel
theorem dX9_rounds_123 : decode cX9_rounds 123 = .ok (.invokevirtual 170, 3) := by decide +kernel
theorem dX9_rounds_126 : decode cX9_rounds 126 = .ok (.lstore 13, 2) := by decide +kernel
theorem dX9_rounds_128 : decode cX9_rounds 128 = .ok (.lload 13, 2) := by decide +kernel
theorem dX9_rounds_130 : decode cX9_rounds 130 = .ok (.lload 10, 2) := by decide +kernel
theorem dX9_rounds_132 : decode cX9_rounds 132 = .ok (.lcmp, 1) := by decide +kernel
theorem dX9_rounds_133 : decode cX9_rounds 133 = .ok (.ifCond .ge 11, 3) := by decide +kernel
theorem dX9_rounds_136 : decode cX9_rounds 136 = .ok (.lload 13, 2) := by decide +kernel
theorem dX9_rounds_138 : decode cX9_rounds 138 = .ok (.lstore 10, 2) := by decide +kernel
theorem dX9_rounds_140 : decode cX9_rounds 140 = .ok (.iload 12, 2) := by decide +kernel
theorem dX9_rounds_142 : decode cX9_rounds 142 = .ok (.istore 9, 2) := by decide +kernel
theorem dX9_rounds_144 : decode cX9_rounds 144 = .ok (.iinc 12 1, 3) := by decide +kernel
theorem dX9_rounds_147 : decode cX9_rounds 147 = .ok (.goto (-56), 3) := by decide +kernel
theorem dX9_rounds_150 : decode cX9_rounds 150 = .ok (.aload_n 0, 1) := by decide +kernel
theorem dX9_rounds_151 : decode cX9_rounds 151 = .ok (.getfield 31, 3) := by decide +kernel
theorem dX9_rounds_154 : decode cX9_rounds 154 = .ok (.iload 8, 2) := by decide +kernel
theorem dX9_rounds_156 : decode cX9_rounds 156 = .ok (.iload 9, 2) := by decide +kernel
theorem dX9_rounds_158 : decode cX9_rounds 158 = .ok (.iastore, 1) := by decide +kernel
theorem dX9_rounds_159 : decode cX9_rounds 159 = .ok (.aload_n 0, 1) := by decide +kernel
theorem dX9_rounds_160 : decode cX9_rounds 160 = .ok (.getfield 16, 3) := by decide +kernel
theorem dX9_rounds_163 : decode cX9_rounds 163 = .ok (.iload 8, 2) := by decide +kernel
theorem dX9_rounds_165 : decode cX9_rounds 165 = .ok (.iaload, 1) := by decide +kernel
theorem dX9_rounds_166 : decode cX9_rounds 166 = .ok (.istore 8, 2) := by decide +kernel
theorem dX9_rounds_168 : decode cX9_rounds 168 = .ok (.goto (-105), 3) := by decide +kernel
theorem dX9_rounds_171 : decode cX9_rounds 171 = .ok (.iinc 7 1, 3) := by decide +kernel
theorem dX9_rounds_174 : decode cX9_rounds 174 = .ok (.goto (-121), 3) := by decide +kernel
theorem dX9_rounds_177 : decode cX9_rounds 177 = .ok (.aload_n 0, 1) := by decide +kernel
theorem dX9_rounds_178 : decode cX9_rounds 178 = .ok (.iload_n 1, 1) := by decide +kernel
theorem dX9_rounds_179 : decode cX9_rounds 179 = .ok (.lload_n 2, 1) := by decide +kernel
theorem dX9_rounds_180 : decode cX9_rounds 180 = .ok (.lload 4, 2) := by decide +kernel
theorem dX9_rounds_182 : decode cX9_rounds 182 = .ok (.invokevirtual 170, 3) := by decide +kernel
theorem dX9_rounds_185 : decode cX9_rounds 185 = .ok (.lreturn, 1) := by decide +kernel
theorem dX9_spot_0 : decode cX9_spot 0 = .ok (.sipush 300, 3) := by decide +kernel
theorem dX9_spot_3 : decode cX9_spot 3 = .ok (.iload_n 0, 1) := by decide +kernel
theorem dX9_spot_4 : decode cX9_spot 4 = .ok (.imul, 1) := by decide +kernel
theorem dX9_spot_5 : decode cX9_spot 5 = .ok (.bipush 10, 2) := by decide +kernel
theorem dX9_spot_7 : decode cX9_spot 7 = .ok (.iload_n 1, 1) := by decide +kernel
theorem dX9_spot_8 : decode cX9_spot 8 = .ok (.imul, 1) := by decide +kernel
theorem dX9_spot_9 : decode cX9_spot 9 = .ok (.iadd, 1) := by decide +kernel
theorem dX9_spot_10 : decode cX9_spot 10 = .ok (.ireturn, 1) := by decide +kernel
theorem dX9_isClip_0 : decode cX9_isClip 0 = .ok (.iload_n 0, 1) := by decide +kernel
theorem dX9_isClip_1 : decode cX9_isClip 1 = .ok (.i2l, 1) := by decide +kernel
theorem dX9_isClip_2 : decode cX9_isClip 2 = .ok (.lconst 0, 1) := by decide +kernel
theorem dX9_isClip_3 : decode cX9_isClip 3 = .ok (.ldc2_w 176, 3) := by decide +kernel
theorem dX9_isClip_6 : decode cX9_isClip 6 = .ok (.invokestatic 114, 3) := by decide +kernel
theorem dX9_isClip_9 : decode cX9_isClip 9 = .ok (.ireturn, 1) := by decide +kernel
theorem dX9_isFrame_0 : decode cX9_isFrame 0 = .ok (.iload_n 1, 1) := by decide +kernel
theorem dX9_isFrame_1 : decode cX9_isFrame 1 = .ok (.invokestatic 178, 3) := by decide +kernel
theorem dX9_isFrame_4 : decode cX9_isFrame 4 = .ok (.ifCond .eq 25, 3) := by decide +kernel
theorem dX9_isFrame_7 : decode cX9_isFrame 7 = .ok (.iload_n 2, 1) := by decide +kernel
theorem dX9_isFrame_8 : decode cX9_isFrame 8 = .ok (.i2l, 1) := by decide +kernel
theorem dX9_isFrame_9 : decode cX9_isFrame 9 = .ok (.lconst 0, 1) := by decide +kernel
theorem dX9_isFrame_10 : decode cX9_isFrame 10 = .ok (.aload_n 0, 1) := by decide +kernel
theorem dX9_isFrame_11 : decode cX9_isFrame 11 = .ok (.getfield 51, 3) := by decide +kernel
theorem dX9_isFrame_14 : decode cX9_isFrame 14 = .ok (.iload_n 1, 1) := by decide +kernel
theorem dX9_isFrame_15 : decode cX9_isFrame 15 = .ok (.iaload, 1) := by decide +kernel
theorem dX9_isFrame_16 : decode cX9_isFrame 16 = .ok (.iconst 1, 1) := by decide +kernel
theorem dX9_isFrame_17 : decode cX9_isFrame 17 = .ok (.isub, 1) := by decide +kernel
theorem dX9_isFrame_18 : decode cX9_isFrame 18 = .ok (.i2l, 1) := by decide +kernel
theorem dX9_isFrame_19 : decode cX9_isFrame 19 = .ok (.invokestatic 114, 3) := by decide +kernel
theorem dX9_isFrame_22 : decode cX9_isFrame 22 = .ok (.ifCond .eq 7, 3) := by decide +kernel
theorem dX9_isFrame_25 : decode cX9_isFrame 25 = .ok (.iconst 1, 1) := by decide +kernel
theorem dX9_isFrame_26 : decode cX9_isFrame 26 = .ok (.goto 4, 3) := by decide +kernel
theorem dX9_isFrame_29 : decode cX9_isFrame 29 = .ok (.iconst 0, 1) := by decide +kernel
theorem dX9_isFrame_30 : decode cX9_isFrame 30 = .ok (.ireturn, 1) := by decide +kernel
theorem dX9_frame_0 : decode cX9_frame 0 = .ok (.iload_n 1, 1) := by decide +kernel
theorem dX9_frame_1 : decode cX9_frame 1 = .ok (.invokestatic 178, 3) := by decide +kernel
theorem dX9_frame_4 : decode cX9_frame 4 = .ok (.ifCond .ne 6, 3) := by decide +kernel
theorem dX9_frame_7 : decode cX9_frame 7 = .ok (.bipush (-2), 2) := by decide +kernel
theorem dX9_frame_9 : decode cX9_frame 9 = .ok (.ireturn, 1) := by decide +kernel
theorem dX9_frame_10 : decode cX9_frame 10 = .ok (.aload_n 0, 1) := by decide +kernel
theorem dX9_frame_11 : decode cX9_frame 11 = .ok (.getfield 111, 3) := by decide +kernel
theorem dX9_frame_14 : decode cX9_frame 14 = .ok (.ifCond .ne 6, 3) := by decide +kernel
theorem dX9_frame_17 : decode cX9_frame 17 = .ok (.bipush (-3), 2) := by decide +kernel
theorem dX9_frame_19 : decode cX9_frame 19 = .ok (.ireturn, 1) := by decide +kernel
theorem dX9_frame_20 : decode cX9_frame 20 = .ok (.aload_n 0, 1) := by decide +kernel
theorem dX9_frame_21 : decode cX9_frame 21 = .ok (.getfield 51, 3) := by decide +kernel
theorem dX9_frame_24 : decode cX9_frame 24 = .ok (.iload_n 1, 1) := by decide +kernel
theorem dX9_frame_25 : decode cX9_frame 25 = .ok (.iaload, 1) := by decide +kernel
theorem dX9_frame_26 : decode cX9_frame 26 = .ok (.bipush 30, 2) := by decide +kernel
theorem dX9_frame_28 : decode cX9_frame 28 = .ok (.if_icmp .ne 6, 3) := by decide +kernel
theorem dX9_frame_31 : decode cX9_frame 31 = .ok (.bipush (-4), 2) := by decide +kernel
theorem dX9_frame_33 : decode cX9_frame 33 = .ok (.ireturn, 1) := by decide +kernel
theorem dX9_frame_34 : decode cX9_frame 34 = .ok (.iconst 0, 1) := by decide +kernel
theorem dX9_frame_35 : decode cX9_frame 35 = .ok (.istore_n 2, 1) := by decide +kernel
theorem dX9_frame_36 : decode cX9_frame 36 = .ok (.iload_n 2, 1) := by decide +kernel
theorem dX9_frame_37 : decode cX9_frame 37 = .ok (.aload_n 0, 1) := by decide +kernel
theorem dX9_frame_38 : decode cX9_frame 38 = .ok (.getfield 111, 3) := by decide +kernel
theorem dX9_frame_41 : decode cX9_frame 41 = .ok (.if_icmp .ge 32, 3) := by decide +kernel
theorem dX9_frame_44 : decode cX9_frame 44 = .ok (.aload_n 0, 1) := by decide +kernel
theorem dX9_frame_45 : decode cX9_frame 45 = .ok (.getfield 54, 3) := by decide +kernel
theorem dX9_frame_48 : decode cX9_frame 48 = .ok (.iload_n 1, 1) := by decide +kernel
theorem dX9_frame_49 : decode cX9_frame 49 = .ok (.aload_n 0, 1) := by decide +kernel
theorem dX9_frame_50 : decode cX9_frame 50 = .ok (.getfield 51, 3) := by decide +kernel
theorem dX9_frame_53 : decode cX9_frame 53 = .ok (.iload_n 1, 1) := by decide +kernel
theorem dX9_frame_54 : decode cX9_frame 54 = .ok (.iaload, 1) := by decide +kernel
theorem dX9_frame_55 : decode cX9_frame 55 = .ok (.invokestatic 181, 3) := by decide +kernel
theorem dX9_frame_58 : decode cX9_frame 58 = .ok (.iload_n 2, 1) := by decide +kernel
theorem dX9_frame_59 : decode cX9_frame 59 = .ok (.iadd, 1) := by decide +kernel
theorem dX9_frame_60 : decode cX9_frame 60 = .ok (.aload_n 0, 1) := by decide +kernel
theorem dX9_frame_61 : decode cX9_frame 61 = .ok (.getfield 31, 3) := by decide +kernel
theorem dX9_frame_64 : decode cX9_frame 64 = .ok (.iload_n 2, 1) := by decide +kernel
theorem dX9_frame_65 : decode cX9_frame 65 = .ok (.iaload, 1) := by decide +kernel
theorem dX9_frame_66 : decode cX9_frame 66 = .ok (.iastore, 1) := by decide +kernel
theorem dX9_frame_67 : decode cX9_frame 67 = .ok (.iinc 2 1, 3) := by decide +kernel
theorem dX9_frame_70 : decode cX9_frame 70 = .ok (.goto (-34), 3) := by decide +kernel
theorem dX9_frame_73 : decode cX9_frame 73 = .ok (.aload_n 0, 1) := by decide +kernel
theorem dX9_frame_74 : decode cX9_frame 74 = .ok (.getfield 51, 3) := by decide +kernel
theorem dX9_frame_77 : decode cX9_frame 77 = .ok (.iload_n 1, 1) := by decide +kernel
theorem dX9_frame_78 : decode cX9_frame 78 = .ok (.dup2, 1) := by decide +kernel
theorem dX9_frame_79 : decode cX9_frame 79 = .ok (.iaload, 1) := by decide +kernel
theorem dX9_frame_80 : decode cX9_frame 80 = .ok (.iconst 1, 1) := by decide +kernel
theorem dX9_frame_81 : decode cX9_frame 81 = .ok (.iadd, 1) := by decide +kernel
theorem dX9_frame_82 : decode cX9_frame 82 = .ok (.iastore, 1) := by decide +kernel
theorem dX9_frame_83 : decode cX9_frame 83 = .ok (.aload_n 0, 1) := by decide +kernel
theorem dX9_frame_84 : decode cX9_frame 84 = .ok (.getfield 51, 3) := by decide +kernel
theorem dX9_frame_87 : decode cX9_frame 87 = .ok (.iload_n 1, 1) := by decide +kernel
theorem dX9_frame_88 : decode cX9_frame 88 = .ok (.iaload, 1) := by decide +kernel
theorem dX9_frame_89 : decode cX9_frame 89 = .ok (.ireturn, 1) := by decide +kernel
theorem dX9_clear_0 : decode cX9_clear 0 = .ok (.iload_n 1, 1) := by decide +kernel
theorem dX9_clear_1 : decode cX9_clear 1 = .ok (.invokestatic 178, 3) := by decide +kernel
theorem dX9_clear_4 : decode cX9_clear 4 = .ok (.ifCond .ne 6, 3) := by decide +kernel
theorem dX9_clear_7 : decode cX9_clear 7 = .ok (.bipush (-2), 2) := by decide +kernel
theorem dX9_clear_9 : decode cX9_clear 9 = .ok (.ireturn, 1) := by decide +kernel
theorem dX9_clear_10 : decode cX9_clear 10 = .ok (.aload_n 0, 1) := by decide +kernel
theorem dX9_clear_11 : decode cX9_clear 11 = .ok (.getfield 51, 3) := by decide +kernel
theorem dX9_clear_14 : decode cX9_clear 14 = .ok (.iload_n 1, 1) := by decide +kernel
theorem dX9_clear_15 : decode cX9_clear 15 = .ok (.iaload, 1) := by decide +kernel
theorem dX9_clear_16 : decode cX9_clear 16 = .ok (.istore_n 2, 1) := by decide +kernel
theorem dX9_clear_17 : decode cX9_clear 17 = .ok (.aload_n 0, 1) := by decide +kernel
theorem dX9_clear_18 : decode cX9_clear 18 = .ok (.getfield 51, 3) := by decide +kernel
theorem dX9_clear_21 : decode cX9_clear 21 = .ok (.iload_n 1, 1) := by decide +kernel
theorem dX9_clear_22 : decode cX9_clear 22 = .ok (.iconst 0, 1) := by decide +kernel
theorem dX9_clear_23 : decode cX9_clear 23 = .ok (.iastore, 1) := by decide +kernel
theorem dX9_clear_24 : decode cX9_clear 24 = .ok (.iload_n 2, 1) := by decide +kernel
theorem dX9_clear_25 : decode cX9_clear 25 = .ok (.ireturn, 1) := by decide +kernel
theorem dX9_show_0 : decode cX9_show 0 = .ok (.aload_n 0, 1) := by decide +kernel
theorem dX9_show_1 : decode cX9_show 1 = .ok (.iload_n 1, 1) := by decide +kernel
theorem dX9_show_2 : decode cX9_show 2 = .ok (.iload_n 2, 1) := by decide +kernel
theorem dX9_show_3 : decode cX9_show 3 = .ok (.invokevirtual 184, 3) := by decide +kernel
theorem dX9_show_6 : decode cX9_show 6 = .ok (.ifCond .ne 6, 3) := by decide +kernel
theorem dX9_show_9 : decode cX9_show 9 = .ok (.bipush (-2), 2) := by decide +kernel
theorem dX9_show_11 : decode cX9_show 11 = .ok (.ireturn, 1) := by decide +kernel
theorem dX9_show_12 : decode cX9_show 12 = .ok (.aload_n 0, 1) := by decide +kernel
theorem dX9_show_13 : decode cX9_show 13 = .ok (.invokevirtual 156, 3) := by decide +kernel
theorem dX9_show_16 : decode cX9_show 16 = .ok (.iconst 0, 1) := by decide +kernel
theorem dX9_show_17 : decode cX9_show 17 = .ok (.istore_n 3, 1) := by decide +kernel
theorem dX9_show_18 : decode cX9_show 18 = .ok (.iload_n 3, 1) := by decide +kernel
theorem dX9_show_19 : decode cX9_show 19 = .ok (.aload_n 0, 1) := by decide +kernel
theorem dX9_show_20 : decode cX9_show 20 = .ok (.getfield 111, 3) := by decide +kernel
theorem dX9_show_23 : decode cX9_show 23 = .ok (.if_icmp .ge 27, 3) := by decide +kernel
theorem dX9_show_26 : decode cX9_show 26 = .ok (.aload_n 0, 1) := by decide +kernel
theorem dX9_show_27 : decode cX9_show 27 = .ok (.getfield 31, 3) := by decide +kernel
theorem dX9_show_30 : decode cX9_show 30 = .ok (.iload_n 3, 1) := by decide +kernel
theorem dX9_show_31 : decode cX9_show 31 = .ok (.aload_n 0, 1) := by decide +kernel
theorem dX9_show_32 : decode cX9_show 32 = .ok (.getfield 54, 3) := by decide +kernel
theorem dX9_show_35 : decode cX9_show 35 = .ok (.iload_n 1, 1) := by decide +kernel
theorem dX9_show_36 : decode cX9_show 36 = .ok (.iload_n 2, 1) := by decide +kernel
theorem dX9_show_37 : decode cX9_show 37 = .ok (.invokestatic 181, 3) := by decide +kernel
theorem dX9_show_40 : decode cX9_show 40 = .ok (.iload_n 3, 1) := by decide +kernel
theorem dX9_show_41 : decode cX9_show 41 = .ok (.iadd, 1) := by decide +kernel
theorem dX9_show_42 : decode cX9_show 42 = .ok (.iaload, 1) := by decide +kernel
theorem dX9_show_43 : decode cX9_show 43 = .ok (.iastore, 1) := by decide +kernel
theorem dX9_show_44 : decode cX9_show 44 = .ok (.iinc 3 1, 3) := by decide +kernel
theorem dX9_show_47 : decode cX9_show 47 = .ok (.goto (-29), 3) := by decide +kernel
theorem dX9_show_50 : decode cX9_show 50 = .ok (.aload_n 0, 1) := by decide +kernel
theorem dX9_show_51 : decode cX9_show 51 = .ok (.invokevirtual 159, 3) := by decide +kernel
theorem dX9_show_54 : decode cX9_show 54 = .ok (.iconst 1, 1) := by decide +kernel
theorem dX9_show_55 : decode cX9_show 55 = .ok (.ireturn, 1) := by decide +kernel
theorem dX9_at_0 : decode cX9_at 0 = .ok (.aload_n 0, 1) := by decide +kernel
theorem dX9_at_1 : decode cX9_at 1 = .ok (.iload_n 1, 1) := by decide +kernel
theorem dX9_at_2 : decode cX9_at 2 = .ok (.iload_n 2, 1) := by decide +kernel
theorem dX9_at_3 : decode cX9_at 3 = .ok (.invokevirtual 184, 3) := by decide +kernel
theorem dX9_at_6 : decode cX9_at 6 = .ok (.ifCond .eq 26, 3) := by decide +kernel
theorem dX9_at_9 : decode cX9_at 9 = .ok (.aload_n 0, 1) := by decide +kernel
theorem dX9_at_10 : decode cX9_at 10 = .ok (.iload_n 3, 1) := by decide +kernel
theorem dX9_at_11 : decode cX9_at 11 = .ok (.invokevirtual 132, 3) := by decide +kernel
theorem dX9_at_14 : decode cX9_at 14 = .ok (.ifCond .eq 18, 3) := by decide +kernel
theorem dX9_at_17 : decode cX9_at 17 = .ok (.aload_n 0, 1) := by decide +kernel
theorem dX9_at_18 : decode cX9_at 18 = .ok (.getfield 54, 3) := by decide +kernel
theorem dX9_at_21 : decode cX9_at 21 = .ok (.iload_n 1, 1) := by decide +kernel
theorem dX9_at_22 : decode cX9_at 22 = .ok (.iload_n 2, 1) := by decide +kernel
theorem dX9_at_23 : decode cX9_at 23 = .ok (.invokestatic 181, 3) := by decide +kernel
theorem dX9_at_26 : decode cX9_at 26 = .ok (.iload_n 3, 1) := by decide +kernel
theorem dX9_at_27 : decode cX9_at 27 = .ok (.iadd, 1) := by decide +kernel
theorem dX9_at_28 : decode cX9_at 28 = .ok (.iaload, 1) := by decide +kernel
theorem dX9_at_29 : decode cX9_at 29 = .ok (.goto 5, 3) := by decide +kernel
theorem dX9_at_32 : decode cX9_at 32 = .ok (.bipush (-2), 2) := by decide +kernel
theorem dX9_at_34 : decode cX9_at 34 = .ok (.ireturn, 1) := by decide +kernel
theorem dX9_blended_0 : decode cX9_blended 0 = .ok (.aload_n 0, 1) := by decide +kernel
theorem dX9_blended_1 : decode cX9_blended 1 = .ok (.iload_n 1, 1) := by decide +kernel
theorem dX9_blended_2 : decode cX9_blended 2 = .ok (.iload_n 2, 1) := by decide +kernel
theorem dX9_blended_3 : decode cX9_blended 3 = .ok (.iload_n 2, 1) := by decide +kernel
theorem dX9_blended_4 : decode cX9_blended 4 = .ok (.iload_n 3, 1) := by decide +kernel
theorem dX9_blended_5 : decode cX9_blended 5 = .ok (.invokestatic 104, 3) := by decide +kernel
theorem dX9_blended_8 : decode cX9_blended 8 = .ok (.iload 4, 2) := by decide +kernel
theorem dX9_blended_10 : decode cX9_blended 10 = .ok (.imul, 1) := by decide +kernel
theorem dX9_blended_11 : decode cX9_blended 11 = .ok (.bipush 100, 2) := by decide +kernel
theorem dX9_blended_13 : decode cX9_blended 13 = .ok (.idiv, 1) := by decide +kernel
theorem dX9_blended_14 : decode cX9_blended 14 = .ok (.iadd, 1) := by decide +kernel
theorem dX9_blended_15 : decode cX9_blended 15 = .ok (.invokestatic 96, 3) := by decide +kernel
theorem dX9_blended_18 : decode cX9_blended 18 = .ok (.invokevirtual 187, 3) := by decide +kernel
theorem dX9_blended_21 : decode cX9_blended 21 = .ok (.ireturn, 1) := by decide +kernel
theorem dX9_blend_0 : decode cX9_blend 0 = .ok (.aload_n 0, 1) := by decide +kernel
theorem dX9_blend_1 : decode cX9_blend 1 = .ok (.iload_n 1, 1) := by decide +kernel
theorem dX9_blend_2 : decode cX9_blend 2 = .ok (.iload_n 2, 1) := by decide +kernel
theorem dX9_blend_3 : decode cX9_blend 3 = .ok (.invokevirtual 184, 3) := by decide +kernel
theorem dX9_blend_6 : decode cX9_blend 6 = .ok (.ifCond .eq 28, 3) := by decide +kernel
theorem dX9_blend_9 : decode cX9_blend 9 = .ok (.iload_n 3, 1) := by decide +kernel
theorem dX9_blend_10 : decode cX9_blend 10 = .ok (.i2l, 1) := by decide +kernel
theorem dX9_blend_11 : decode cX9_blend 11 = .ok (.lconst 0, 1) := by decide +kernel
theorem dX9_blend_12 : decode cX9_blend 12 = .ok (.ldc2_w 124, 3) := by decide +kernel
theorem dX9_blend_15 : decode cX9_blend 15 = .ok (.invokestatic 114, 3) := by decide +kernel
theorem dX9_blend_18 : decode cX9_blend 18 = .ok (.ifCond .eq 16, 3) := by decide +kernel
theorem dX9_blend_21 : decode cX9_blend 21 = .ok (.iload 4, 2) := by decide +kernel
theorem dX9_blend_23 : decode cX9_blend 23 = .ok (.i2l, 1) := by decide +kernel
theorem dX9_blend_24 : decode cX9_blend 24 = .ok (.lconst 0, 1) := by decide +kernel
theorem dX9_blend_25 : decode cX9_blend 25 = .ok (.ldc2_w 190, 3) := by decide +kernel
theorem dX9_blend_28 : decode cX9_blend 28 = .ok (.invokestatic 114, 3) := by decide +kernel
theorem dX9_blend_31 : decode cX9_blend 31 = .ok (.ifCond .ne 6, 3) := by decide +kernel
theorem dX9_blend_34 : decode cX9_blend 34 = .ok (.bipush (-2), 2) := by decide +kernel
theorem dX9_blend_36 : decode cX9_blend 36 = .ok (.ireturn, 1) := by decide +kernel
theorem dX9_blend_37 : decode cX9_blend 37 = .ok (.aload_n 0, 1) := by decide +kernel
theorem dX9_blend_38 : decode cX9_blend 38 = .ok (.invokevirtual 156, 3) := by decide +kernel
theorem dX9_blend_41 : decode cX9_blend 41 = .ok (.iconst 0, 1) := by decide +kernel
theorem dX9_blend_42 : decode cX9_blend 42 = .ok (.istore 5, 2) := by decide +kernel
theorem dX9_blend_44 : decode cX9_blend 44 = .ok (.iload 5, 2) := by decide +kernel
theorem dX9_blend_46 : decode cX9_blend 46 = .ok (.aload_n 0, 1) := by decide +kernel
theorem dX9_blend_47 : decode cX9_blend 47 = .ok (.getfield 111, 3) := by decide +kernel
theorem dX9_blend_50 : decode cX9_blend 50 = .ok (.if_icmp .ge 54, 3) := by decide +kernel
theorem dX9_blend_53 : decode cX9_blend 53 = .ok (.iload 4, 2) := by decide +kernel
theorem dX9_blend_55 : decode cX9_blend 55 = .ok (.iload 5, 2) := by decide +kernel
theorem dX9_blend_57 : decode cX9_blend 57 = .ok (.ishr, 1) := by decide +kernel
theorem dX9_blend_58 : decode cX9_blend 58 = .ok (.iconst 1, 1) := by decide +kernel
theorem dX9_blend_59 : decode cX9_blend 59 = .ok (.iand, 1) := by decide +kernel
theorem dX9_blend_60 : decode cX9_blend 60 = .ok (.iconst 1, 1) := by decide +kernel
theorem dX9_blend_61 : decode cX9_blend 61 = .ok (.if_icmp .ne 37, 3) := by decide +kernel
theorem dX9_blend_64 : decode cX9_blend 64 = .ok (.aload_n 0, 1) := by decide +kernel
theorem dX9_blend_65 : decode cX9_blend 65 = .ok (.getfield 31, 3) := by decide +kernel
theorem dX9_blend_68 : decode cX9_blend 68 = .ok (.iload 5, 2) := by decide +kernel
theorem dX9_blend_70 : decode cX9_blend 70 = .ok (.aload_n 0, 1) := by decide +kernel
theorem dX9_blend_71 : decode cX9_blend 71 = .ok (.iload 5, 2) := by decide +kernel
theorem dX9_blend_73 : decode cX9_blend 73 = .ok (.aload_n 0, 1) := by decide +kernel
theorem dX9_blend_74 : decode cX9_blend 74 = .ok (.getfield 31, 3) := by decide +kernel
theorem dX9_blend_77 : decode cX9_blend 77 = .ok (.iload 5, 2) := by decide +kernel
theorem dX9_blend_79 : decode cX9_blend 79 = .ok (.iaload, 1) := by decide +kernel
theorem dX9_blend_80 : decode cX9_blend 80 = .ok (.aload_n 0, 1) := by decide +kernel
theorem dX9_blend_81 : decode cX9_blend 81 = .ok (.getfield 54, 3) := by decide +kernel
theorem dX9_blend_84 : decode cX9_blend 84 = .ok (.iload_n 1, 1) := by decide +kernel
theorem dX9_blend_85 : decode cX9_blend 85 = .ok (.iload_n 2, 1) := by decide +kernel
theorem dX9_blend_86 : decode cX9_blend 86 = .ok (.invokestatic 181, 3) := by decide +kernel
theorem dX9_blend_89 : decode cX9_blend 89 = .ok (.iload 5, 2) := by decide +kernel
theorem dX9_blend_91 : decode cX9_blend 91 = .ok (.iadd, 1) := by decide +kernel
theorem dX9_blend_92 : decode cX9_blend 92 = .ok (.iaload, 1) := by decide +kernel
theorem dX9_blend_93 : decode cX9_blend 93 = .ok (.iload_n 3, 1) := by decide +kernel
theorem dX9_blend_94 : decode cX9_blend 94 = .ok (.invokevirtual 192, 3) := by decide +kernel
theorem dX9_blend_97 : decode cX9_blend 97 = .ok (.iastore, 1) := by decide +kernel
theorem dX9_blend_98 : decode cX9_blend 98 = .ok (.iinc 5 1, 3) := by decide +kernel
theorem dX9_blend_101 : decode cX9_blend 101 = .ok (.goto (-57), 3) := by decide +kernel
theorem dX9_blend_104 : decode cX9_blend 104 = .ok (.aload_n 0, 1) := by decide +kernel
theorem dX9_blend_105 : decode cX9_blend 105 = .ok (.invokevirtual 159, 3) := by decide +kernel
theorem dX9_blend_108 : decode cX9_blend 108 = .ok (.iconst 1, 1) := by decide +kernel
theorem dX9_blend_109 : decode cX9_blend 109 = .ok (.ireturn, 1) := by decide +kernel
theorem dX9_add_0 : decode cX9_add 0 = .ok (.aload_n 0, 1) := by decide +kernel
theorem dX9_add_1 : decode cX9_add 1 = .ok (.iload_n 1, 1) := by decide +kernel
theorem dX9_add_2 : decode cX9_add 2 = .ok (.iload_n 2, 1) := by decide +kernel
theorem dX9_add_3 : decode cX9_add 3 = .ok (.invokevirtual 184, 3) := by decide +kernel
theorem dX9_add_6 : decode cX9_add 6 = .ok (.ifCond .eq 12, 3) := by decide +kernel
theorem dX9_add_9 : decode cX9_add 9 = .ok (.aload_n 0, 1) := by decide +kernel
theorem dX9_add_10 : decode cX9_add 10 = .ok (.iload_n 1, 1) := by decide +kernel
theorem dX9_add_11 : decode cX9_add 11 = .ok (.iload_n 3, 1) := by decide +kernel
theorem dX9_add_12 : decode cX9_add 12 = .ok (.invokevirtual 184, 3) := by decide +kernel
theorem dX9_add_15 : decode cX9_add 15 = .ok (.ifCond .ne 6, 3) := by decide +kernel
theorem dX9_add_18 : decode cX9_add 18 = .ok (.bipush (-2), 2) := by decide +kernel
theorem dX9_add_20 : decode cX9_add 20 = .ok (.ireturn, 1) := by decide +kernel
theorem dX9_add_21 : decode cX9_add 21 = .ok (.iconst 0, 1) := by decide +kernel
theorem dX9_add_22 : decode cX9_add 22 = .ok (.istore 4, 2) := by decide +kernel
theorem dX9_add_24 : decode cX9_add 24 = .ok (.aload_n 0, 1) := by decide +kernel
theorem dX9_add_25 : decode cX9_add 25 = .ok (.invokevirtual 156, 3) := by decide +kernel
theorem dX9_add_28 : decode cX9_add 28 = .ok (.iconst 0, 1) := by decide +kernel
theorem dX9_add_29 : decode cX9_add 29 = .ok (.istore 5, 2) := by decide +kernel
theorem dX9_add_31 : decode cX9_add 31 = .ok (.iload 5, 2) := by decide +kernel
theorem dX9_add_33 : decode cX9_add 33 = .ok (.aload_n 0, 1) := by decide +kernel
theorem dX9_add_34 : decode cX9_add 34 = .ok (.getfield 111, 3) := by decide +kernel
theorem dX9_add_37 : decode cX9_add 37 = .ok (.if_icmp .ge 87, 3) := by decide +kernel
theorem dX9_add_40 : decode cX9_add 40 = .ok (.aload_n 0, 1) := by decide +kernel
theorem dX9_add_41 : decode cX9_add 41 = .ok (.getfield 31, 3) := by decide +kernel
theorem dX9_add_44 : decode cX9_add 44 = .ok (.iload 5, 2) := by decide +kernel
theorem dX9_add_46 : decode cX9_add 46 = .ok (.iaload, 1) := by decide +kernel
theorem dX9_add_47 : decode cX9_add 47 = .ok (.aload_n 0, 1) := by decide +kernel
theorem dX9_add_48 : decode cX9_add 48 = .ok (.getfield 54, 3) := by decide +kernel
theorem dX9_add_51 : decode cX9_add 51 = .ok (.iload_n 1, 1) := by decide +kernel
theorem dX9_add_52 : decode cX9_add 52 = .ok (.iload_n 3, 1) := by decide +kernel
theorem dX9_add_53 : decode cX9_add 53 = .ok (.invokestatic 181, 3) := by decide +kernel
theorem dX9_add_56 : decode cX9_add 56 = .ok (.iload 5, 2) := by decide +kernel
theorem dX9_add_58 : decode cX9_add 58 = .ok (.iadd, 1) := by decide +kernel
theorem dX9_add_59 : decode cX9_add 59 = .ok (.iaload, 1) := by decide +kernel
theorem dX9_add_60 : decode cX9_add 60 = .ok (.aload_n 0, 1) := by decide +kernel
theorem dX9_add_61 : decode cX9_add 61 = .ok (.getfield 54, 3) := by decide +kernel
theorem dX9_add_64 : decode cX9_add 64 = .ok (.iload_n 1, 1) := by decide +kernel
theorem dX9_add_65 : decode cX9_add 65 = .ok (.iload_n 2, 1) := by decide +kernel
theorem dX9_add_66 : decode cX9_add 66 = .ok (.invokestatic 181, 3) := by decide +kernel
theorem dX9_add_69 : decode cX9_add 69 = .ok (.iload 5, 2) := by decide +kernel
theorem dX9_add_71 : decode cX9_add 71 = .ok (.iadd, 1) := by decide +kernel
theorem dX9_add_72 : decode cX9_add 72 = .ok (.iaload, 1) := by decide +kernel
theorem dX9_add_73 : decode cX9_add 73 = .ok (.invokestatic 104, 3) := by decide +kernel
theorem dX9_add_76 : decode cX9_add 76 = .ok (.iadd, 1) := by decide +kernel
theorem dX9_add_77 : decode cX9_add 77 = .ok (.invokestatic 96, 3) := by decide +kernel
theorem dX9_add_80 : decode cX9_add 80 = .ok (.istore 6, 2) := by decide +kernel
theorem dX9_add_82 : decode cX9_add 82 = .ok (.iload 4, 2) := by decide +kernel
theorem dX9_add_84 : decode cX9_add 84 = .ok (.aload_n 0, 1) := by decide +kernel
theorem dX9_add_85 : decode cX9_add 85 = .ok (.iload 5, 2) := by decide +kernel
theorem dX9_add_87 : decode cX9_add 87 = .ok (.iload 6, 2) := by decide +kernel
theorem dX9_add_89 : decode cX9_add 89 = .ok (.invokevirtual 100, 3) := by decide +kernel
theorem dX9_add_92 : decode cX9_add 92 = .ok (.ifCond .eq 7, 3) := by decide +kernel
theorem dX9_add_95 : decode cX9_add 95 = .ok (.iconst 0, 1) := by decide +kernel
theorem dX9_add_96 : decode cX9_add 96 = .ok (.goto 4, 3) := by decide +kernel
theorem dX9_add_99 : decode cX9_add 99 = .ok (.iconst 1, 1) := by decide +kernel
theorem dX9_add_100 : decode cX9_add 100 = .ok (.iadd, 1) := by decide +kernel
theorem dX9_add_101 : decode cX9_add 101 = .ok (.istore 4, 2) := by decide +kernel
theorem dX9_add_103 : decode cX9_add 103 = .ok (.aload_n 0, 1) := by decide +kernel
theorem dX9_add_104 : decode cX9_add 104 = .ok (.getfield 31, 3) := by decide +kernel
theorem dX9_add_107 : decode cX9_add 107 = .ok (.iload 5, 2) := by decide +kernel
theorem dX9_add_109 : decode cX9_add 109 = .ok (.aload_n 0, 1) := by decide +kernel
theorem dX9_add_110 : decode cX9_add 110 = .ok (.iload 5, 2) := by decide +kernel
theorem dX9_add_112 : decode cX9_add 112 = .ok (.iload 6, 2) := by decide +kernel
theorem dX9_add_114 : decode cX9_add 114 = .ok (.invokevirtual 187, 3) := by decide +kernel
theorem dX9_add_117 : decode cX9_add 117 = .ok (.iastore, 1) := by decide +kernel
theorem dX9_add_118 : decode cX9_add 118 = .ok (.iinc 5 1, 3) := by decide +kernel
theorem dX9_add_121 : decode cX9_add 121 = .ok (.goto (-90), 3) := by decide +kernel
theorem dX9_add_124 : decode cX9_add 124 = .ok (.aload_n 0, 1) := by decide +kernel
theorem dX9_add_125 : decode cX9_add 125 = .ok (.invokevirtual 159, 3) := by decide +kernel
theorem dX9_add_128 : decode cX9_add 128 = .ok (.iload 4, 2) := by decide +kernel
theorem dX9_add_130 : decode cX9_add 130 = .ok (.ireturn, 1) := by decide +kernel
theorem dX9_likeness_0 : decode cX9_likeness 0 = .ok (.iconst 0, 1) := by decide +kernel
theorem dX9_likeness_1 : decode cX9_likeness 1 = .ok (.istore_n 3, 1) := by decide +kernel
theorem dX9_likeness_2 : decode cX9_likeness 2 = .ok (.iconst 0, 1) := by decide +kernel
theorem dX9_likeness_3 : decode cX9_likeness 3 = .ok (.istore 4, 2) := by decide +kernel
theorem dX9_likeness_5 : decode cX9_likeness 5 = .ok (.iload 4, 2) := by decide +kernel
theorem dX9_likeness_7 : decode cX9_likeness 7 = .ok (.aload_n 0, 1) := by decide +kernel
theorem dX9_likeness_8 : decode cX9_likeness 8 = .ok (.getfield 111, 3) := by decide +kernel
theorem dX9_likeness_11 : decode cX9_likeness 11 = .ok (.if_icmp .ge 36, 3) := by decide +kernel
theorem dX9_likeness_14 : decode cX9_likeness 14 = .ok (.iload_n 3, 1) := by decide +kernel
theorem dX9_likeness_15 : decode cX9_likeness 15 = .ok (.aload_n 0, 1) := by decide +kernel
theorem dX9_likeness_16 : decode cX9_likeness 16 = .ok (.getfield 54, 3) := by decide +kernel
theorem dX9_likeness_19 : decode cX9_likeness 19 = .ok (.iload_n 1, 1) := by decide +kernel
theorem dX9_likeness_20 : decode cX9_likeness 20 = .ok (.iload 4, 2) := by decide +kernel
theorem dX9_likeness_22 : decode cX9_likeness 22 = .ok (.iadd, 1) := by decide +kernel
theorem dX9_likeness_23 : decode cX9_likeness 23 = .ok (.iaload, 1) := by decide +kernel
theorem dX9_likeness_24 : decode cX9_likeness 24 = .ok (.aload_n 0, 1) := by decide +kernel
theorem dX9_likeness_25 : decode cX9_likeness 25 = .ok (.getfield 54, 3) := by decide +kernel
theorem dX9_likeness_28 : decode cX9_likeness 28 = .ok (.iload_n 2, 1) := by decide +kernel
theorem dX9_likeness_29 : decode cX9_likeness 29 = .ok (.iload 4, 2) := by decide +kernel
theorem dX9_likeness_31 : decode cX9_likeness 31 = .ok (.iadd, 1) := by decide +kernel
theorem dX9_likeness_32 : decode cX9_likeness 32 = .ok (.iaload, 1) := by decide +kernel
theorem dX9_likeness_33 : decode cX9_likeness 33 = .ok (.invokestatic 104, 3) := by decide +kernel
theorem dX9_likeness_36 : decode cX9_likeness 36 = .ok (.invokestatic 108, 3) := by decide +kernel
theorem dX9_likeness_39 : decode cX9_likeness 39 = .ok (.iadd, 1) := by decide +kernel
theorem dX9_likeness_40 : decode cX9_likeness 40 = .ok (.istore_n 3, 1) := by decide +kernel
theorem dX9_likeness_41 : decode cX9_likeness 41 = .ok (.iinc 4 1, 3) := by decide +kernel
theorem dX9_likeness_44 : decode cX9_likeness 44 = .ok (.goto (-39), 3) := by decide +kernel
theorem dX9_likeness_47 : decode cX9_likeness 47 = .ok (.iload_n 3, 1) := by decide +kernel
theorem dX9_likeness_48 : decode cX9_likeness 48 = .ok (.ireturn, 1) := by decide +kernel
theorem dX9_like_0 : decode cX9_like 0 = .ok (.aload_n 0, 1) := by decide +kernel
theorem dX9_like_1 : decode cX9_like 1 = .ok (.iload_n 1, 1) := by decide +kernel
theorem dX9_like_2 : decode cX9_like 2 = .ok (.iload_n 2, 1) := by decide +kernel
theorem dX9_like_3 : decode cX9_like 3 = .ok (.invokevirtual 184, 3) := by decide +kernel
theorem dX9_like_6 : decode cX9_like 6 = .ok (.ifCond .eq 31, 3) := by decide +kernel
theorem dX9_like_9 : decode cX9_like 9 = .ok (.aload_n 0, 1) := by decide +kernel
theorem dX9_like_10 : decode cX9_like 10 = .ok (.iload_n 3, 1) := by decide +kernel
theorem dX9_like_11 : decode cX9_like 11 = .ok (.iload 4, 2) := by decide +kernel
theorem dX9_like_13 : decode cX9_like 13 = .ok (.invokevirtual 184, 3) := by decide +kernel
theorem dX9_like_16 : decode cX9_like 16 = .ok (.ifCond .eq 21, 3) := by decide +kernel
theorem dX9_like_19 : decode cX9_like 19 = .ok (.aload_n 0, 1) := by decide +kernel
theorem dX9_like_20 : decode cX9_like 20 = .ok (.iload_n 1, 1) := by decide +kernel
theorem dX9_like_21 : decode cX9_like 21 = .ok (.iload_n 2, 1) := by decide +kernel
theorem dX9_like_22 : decode cX9_like 22 = .ok (.invokestatic 181, 3) := by decide +kernel
theorem dX9_like_25 : decode cX9_like 25 = .ok (.iload_n 3, 1) := by decide +kernel
theorem dX9_like_26 : decode cX9_like 26 = .ok (.iload 4, 2) := by decide +kernel
theorem dX9_like_28 : decode cX9_like 28 = .ok (.invokestatic 181, 3) := by decide +kernel
theorem dX9_like_31 : decode cX9_like 31 = .ok (.invokevirtual 196, 3) := by decide +kernel
theorem dX9_like_34 : decode cX9_like 34 = .ok (.goto 5, 3) := by decide +kernel
theorem dX9_like_37 : decode cX9_like 37 = .ok (.bipush (-2), 2) := by decide +kernel
theorem dX9_like_39 : decode cX9_like 39 = .ok (.ireturn, 1) := by decide +kernel
theorem dX9_holds_0 : decode cX9_holds 0 = .ok (.iload_n 2, 1) := by decide +kernel
theorem dX9_holds_1 : decode cX9_holds 1 = .ok (.iconst 1, 1) := by decide +kernel
theorem dX9_holds_2 : decode cX9_holds 2 = .ok (.iadd, 1) := by decide +kernel
theorem dX9_holds_3 : decode cX9_holds 3 = .ok (.istore 5, 2) := by decide +kernel
theorem dX9_holds_5 : decode cX9_holds 5 = .ok (.iload 5, 2) := by decide +kernel
theorem dX9_holds_7 : decode cX9_holds 7 = .ok (.iload_n 3, 1) := by decide +kernel
theorem dX9_holds_8 : decode cX9_holds 8 = .ok (.if_icmp .ge 105, 3) := by decide +kernel
theorem dX9_holds_11 : decode cX9_holds 11 = .ok (.bipush 100, 2) := by decide +kernel
theorem dX9_holds_13 : decode cX9_holds 13 = .ok (.iload 5, 2) := by decide +kernel
theorem dX9_holds_15 : decode cX9_holds 15 = .ok (.iload_n 2, 1) := by decide +kernel
theorem dX9_holds_16 : decode cX9_holds 16 = .ok (.isub, 1) := by decide +kernel
theorem dX9_holds_17 : decode cX9_holds 17 = .ok (.imul, 1) := by decide +kernel
theorem dX9_holds_18 : decode cX9_holds 18 = .ok (.iload_n 3, 1) := by decide +kernel
theorem dX9_holds_19 : decode cX9_holds 19 = .ok (.iload_n 2, 1) := by decide +kernel
theorem dX9_holds_20 : decode cX9_holds 20 = .ok (.isub, 1) := by decide +kernel
theorem dX9_holds_21 : decode cX9_holds 21 = .ok (.idiv, 1) := by decide +kernel
theorem dX9_holds_22 : decode cX9_holds 22 = .ok (.istore 6, 2) := by decide +kernel
theorem dX9_holds_24 : decode cX9_holds 24 = .ok (.iconst 0, 1) := by decide +kernel
theorem dX9_holds_25 : decode cX9_holds 25 = .ok (.istore 7, 2) := by decide +kernel
theorem dX9_holds_27 : decode cX9_holds 27 = .ok (.iload 7, 2) := by decide +kernel
theorem dX9_holds_29 : decode cX9_holds 29 = .ok (.aload_n 0, 1) := by decide +kernel
theorem dX9_holds_30 : decode cX9_holds 30 = .ok (.getfield 111, 3) := by decide +kernel
theorem dX9_holds_33 : decode cX9_holds 33 = .ok (.if_icmp .ge 74, 3) := by decide +kernel
theorem dX9_holds_36 : decode cX9_holds 36 = .ok (.aload_n 0, 1) := by decide +kernel
theorem dX9_holds_37 : decode cX9_holds 37 = .ok (.iload 7, 2) := by decide +kernel
theorem dX9_holds_39 : decode cX9_holds 39 = .ok (.aload_n 0, 1) := by decide +kernel
theorem dX9_holds_40 : decode cX9_holds 40 = .ok (.getfield 54, 3) := by decide +kernel
theorem dX9_holds_43 : decode cX9_holds 43 = .ok (.iload_n 1, 1) := by decide +kernel
theorem dX9_holds_44 : decode cX9_holds 44 = .ok (.iload_n 2, 1) := by decide +kernel
theorem dX9_holds_45 : decode cX9_holds 45 = .ok (.invokestatic 181, 3) := by decide +kernel
theorem dX9_holds_48 : decode cX9_holds 48 = .ok (.iload 7, 2) := by decide +kernel
theorem dX9_holds_50 : decode cX9_holds 50 = .ok (.iadd, 1) := by decide +kernel
theorem dX9_holds_51 : decode cX9_holds 51 = .ok (.iaload, 1) := by decide +kernel
theorem dX9_holds_52 : decode cX9_holds 52 = .ok (.aload_n 0, 1) := by decide +kernel
theorem dX9_holds_53 : decode cX9_holds 53 = .ok (.getfield 54, 3) := by decide +kernel
theorem dX9_holds_56 : decode cX9_holds 56 = .ok (.iload_n 1, 1) := by decide +kernel
theorem dX9_holds_57 : decode cX9_holds 57 = .ok (.iload_n 3, 1) := by decide +kernel
theorem dX9_holds_58 : decode cX9_holds 58 = .ok (.invokestatic 181, 3) := by decide +kernel
theorem dX9_holds_61 : decode cX9_holds 61 = .ok (.iload 7, 2) := by decide +kernel
theorem dX9_holds_63 : decode cX9_holds 63 = .ok (.iadd, 1) := by decide +kernel
theorem dX9_holds_64 : decode cX9_holds 64 = .ok (.iaload, 1) := by decide +kernel
theorem dX9_holds_65 : decode cX9_holds 65 = .ok (.iload 6, 2) := by decide +kernel
theorem dX9_holds_67 : decode cX9_holds 67 = .ok (.invokevirtual 192, 3) := by decide +kernel
theorem dX9_holds_70 : decode cX9_holds 70 = .ok (.istore 8, 2) := by decide +kernel
theorem dX9_holds_72 : decode cX9_holds 72 = .ok (.iload 8, 2) := by decide +kernel
theorem dX9_holds_74 : decode cX9_holds 74 = .ok (.aload_n 0, 1) := by decide +kernel
theorem dX9_holds_75 : decode cX9_holds 75 = .ok (.getfield 54, 3) := by decide +kernel
theorem dX9_holds_78 : decode cX9_holds 78 = .ok (.iload_n 1, 1) := by decide +kernel
theorem dX9_holds_79 : decode cX9_holds 79 = .ok (.iload 5, 2) := by decide +kernel
theorem dX9_holds_81 : decode cX9_holds 81 = .ok (.invokestatic 181, 3) := by decide +kernel
theorem dX9_holds_84 : decode cX9_holds 84 = .ok (.iload 7, 2) := by decide +kernel
theorem dX9_holds_86 : decode cX9_holds 86 = .ok (.iadd, 1) := by decide +kernel
theorem dX9_holds_87 : decode cX9_holds 87 = .ok (.iaload, 1) := by decide +kernel
theorem dX9_holds_88 : decode cX9_holds 88 = .ok (.invokestatic 104, 3) := by decide +kernel
theorem dX9_holds_91 : decode cX9_holds 91 = .ok (.invokestatic 108, 3) := by decide +kernel
theorem dX9_holds_94 : decode cX9_holds 94 = .ok (.iload 4, 2) := by decide +kernel
theorem dX9_holds_96 : decode cX9_holds 96 = .ok (.if_icmp .le 5, 3) := by decide +kernel
theorem dX9_holds_99 : decode cX9_holds 99 = .ok (.iconst 0, 1) := by decide +kernel
theorem dX9_holds_100 : decode cX9_holds 100 = .ok (.ireturn, 1) := by decide +kernel
theorem dX9_holds_101 : decode cX9_holds 101 = .ok (.iinc 7 1, 3) := by decide +kernel
theorem dX9_holds_104 : decode cX9_holds 104 = .ok (.goto (-77), 3) := by decide +kernel
theorem dX9_holds_107 : decode cX9_holds 107 = .ok (.iinc 5 1, 3) := by decide +kernel
theorem dX9_holds_110 : decode cX9_holds 110 = .ok (.goto (-105), 3) := by decide +kernel
theorem dX9_holds_113 : decode cX9_holds 113 = .ok (.iconst 1, 1) := by decide +kernel
theorem dX9_holds_114 : decode cX9_holds 114 = .ok (.ireturn, 1) := by decide +kernel
theorem dX9_findKeys_0 : decode cX9_findKeys 0 = .ok (.aload_n 0, 1) := by decide +kernel
theorem dX9_findKeys_1 : decode cX9_findKeys 1 = .ok (.iconst 0, 1) := by decide +kernel
theorem dX9_findKeys_2 : decode cX9_findKeys 2 = .ok (.putfield 199, 3) := by decide +kernel
theorem dX9_findKeys_5 : decode cX9_findKeys 5 = .ok (.iconst 0, 1) := by decide +kernel
theorem dX9_findKeys_6 : decode cX9_findKeys 6 = .ok (.istore_n 3, 1) := by decide +kernel
theorem dX9_findKeys_7 : decode cX9_findKeys 7 = .ok (.iload_n 3, 1) := by decide +kernel
theorem dX9_findKeys_8 : decode cX9_findKeys 8 = .ok (.aload_n 0, 1) := by decide +kernel
theorem dX9_findKeys_9 : decode cX9_findKeys 9 = .ok (.getfield 51, 3) := by decide +kernel
theorem dX9_findKeys_12 : decode cX9_findKeys 12 = .ok (.iload_n 1, 1) := by decide +kernel
theorem dX9_findKeys_13 : decode cX9_findKeys 13 = .ok (.iaload, 1) := by decide +kernel
theorem dX9_findKeys_14 : decode cX9_findKeys 14 = .ok (.if_icmp .ge 97, 3) := by decide +kernel
theorem dX9_findKeys_17 : decode cX9_findKeys 17 = .ok (.aload_n 0, 1) := by decide +kernel
theorem dX9_findKeys_18 : decode cX9_findKeys 18 = .ok (.getfield 57, 3) := by decide +kernel
theorem dX9_findKeys_21 : decode cX9_findKeys 21 = .ok (.aload_n 0, 1) := by decide +kernel
theorem dX9_findKeys_22 : decode cX9_findKeys 22 = .ok (.getfield 199, 3) := by decide +kernel
theorem dX9_findKeys_25 : decode cX9_findKeys 25 = .ok (.iload_n 3, 1) := by decide +kernel
theorem dX9_findKeys_26 : decode cX9_findKeys 26 = .ok (.iastore, 1) := by decide +kernel
theorem dX9_findKeys_27 : decode cX9_findKeys 27 = .ok (.aload_n 0, 1) := by decide +kernel
theorem dX9_findKeys_28 : decode cX9_findKeys 28 = .ok (.dup, 1) := by decide +kernel
theorem dX9_findKeys_29 : decode cX9_findKeys 29 = .ok (.getfield 199, 3) := by decide +kernel
theorem dX9_findKeys_32 : decode cX9_findKeys 32 = .ok (.iconst 1, 1) := by decide +kernel
theorem dX9_findKeys_33 : decode cX9_findKeys 33 = .ok (.iadd, 1) := by decide +kernel
theorem dX9_findKeys_34 : decode cX9_findKeys 34 = .ok (.putfield 199, 3) := by decide +kernel
theorem dX9_findKeys_37 : decode cX9_findKeys 37 = .ok (.aload_n 0, 1) := by decide +kernel
theorem dX9_findKeys_38 : decode cX9_findKeys 38 = .ok (.getfield 51, 3) := by decide +kernel
theorem dX9_findKeys_41 : decode cX9_findKeys 41 = .ok (.iload_n 1, 1) := by decide +kernel
theorem dX9_findKeys_42 : decode cX9_findKeys 42 = .ok (.iaload, 1) := by decide +kernel
theorem dX9_findKeys_43 : decode cX9_findKeys 43 = .ok (.istore 4, 2) := by decide +kernel
theorem dX9_findKeys_45 : decode cX9_findKeys 45 = .ok (.iload_n 3, 1) := by decide +kernel
theorem dX9_findKeys_46 : decode cX9_findKeys 46 = .ok (.iconst 1, 1) := by decide +kernel
theorem dX9_findKeys_47 : decode cX9_findKeys 47 = .ok (.iadd, 1) := by decide +kernel
theorem dX9_findKeys_48 : decode cX9_findKeys 48 = .ok (.istore 5, 2) := by decide +kernel
theorem dX9_findKeys_50 : decode cX9_findKeys 50 = .ok (.iload 5, 2) := by decide +kernel
theorem dX9_findKeys_52 : decode cX9_findKeys 52 = .ok (.aload_n 0, 1) := by decide +kernel
theorem dX9_findKeys_53 : decode cX9_findKeys 53 = .ok (.getfield 51, 3) := by decide +kernel
theorem dX9_findKeys_56 : decode cX9_findKeys 56 = .ok (.iload_n 1, 1) := by decide +kernel
theorem dX9_findKeys_57 : decode cX9_findKeys 57 = .ok (.iaload, 1) := by decide +kernel
theorem dX9_findKeys_58 : decode cX9_findKeys 58 = .ok (.if_icmp .ge 47, 3) := by decide +kernel
theorem dX9_findKeys_61 : decode cX9_findKeys 61 = .ok (.aload_n 0, 1) := by decide +kernel
theorem dX9_findKeys_62 : decode cX9_findKeys 62 = .ok (.iload_n 1, 1) := by decide +kernel
theorem dX9_findKeys_63 : decode cX9_findKeys 63 = .ok (.iload_n 3, 1) := by decide +kernel
theorem dX9_findKeys_64 : decode cX9_findKeys 64 = .ok (.iload 5, 2) := by decide +kernel
theorem dX9_findKeys_66 : decode cX9_findKeys 66 = .ok (.iload_n 2, 1) := by decide +kernel
theorem dX9_findKeys_67 : decode cX9_findKeys 67 = .ok (.invokevirtual 202, 3) := by decide +kernel
theorem dX9_findKeys_70 : decode cX9_findKeys 70 = .ok (.ifCond .eq 8, 3) := by decide +kernel
theorem dX9_findKeys_73 : decode cX9_findKeys 73 = .ok (.iload 5, 2) := by decide +kernel
theorem dX9_findKeys_75 : decode cX9_findKeys 75 = .ok (.goto 22, 3) := by decide +kernel
theorem dX9_findKeys_78 : decode cX9_findKeys 78 = .ok (.iload 4, 2) := by decide +kernel
theorem dX9_findKeys_80 : decode cX9_findKeys 80 = .ok (.aload_n 0, 1) := by decide +kernel
theorem dX9_findKeys_81 : decode cX9_findKeys 81 = .ok (.getfield 51, 3) := by decide +kernel
theorem dX9_findKeys_84 : decode cX9_findKeys 84 = .ok (.iload_n 1, 1) := by decide +kernel
theorem dX9_findKeys_85 : decode cX9_findKeys 85 = .ok (.iaload, 1) := by decide +kernel
theorem dX9_findKeys_86 : decode cX9_findKeys 86 = .ok (.if_icmp .ne 9, 3) := by decide +kernel
theorem dX9_findKeys_89 : decode cX9_findKeys 89 = .ok (.iload_n 3, 1) := by decide +kernel
theorem dX9_findKeys_90 : decode cX9_findKeys 90 = .ok (.iconst 1, 1) := by decide +kernel
theorem dX9_findKeys_91 : decode cX9_findKeys 91 = .ok (.iadd, 1) := by decide +kernel
theorem dX9_findKeys_92 : decode cX9_findKeys 92 = .ok (.goto 5, 3) := by decide +kernel
theorem dX9_findKeys_95 : decode cX9_findKeys 95 = .ok (.iload 4, 2) := by decide +kernel
theorem dX9_findKeys_97 : decode cX9_findKeys 97 = .ok (.istore 4, 2) := by decide +kernel
theorem dX9_findKeys_99 : decode cX9_findKeys 99 = .ok (.iinc 5 1, 3) := by decide +kernel
theorem dX9_findKeys_102 : decode cX9_findKeys 102 = .ok (.goto (-52), 3) := by decide +kernel
theorem dX9_findKeys_105 : decode cX9_findKeys 105 = .ok (.iload 4, 2) := by decide +kernel
theorem dX9_findKeys_107 : decode cX9_findKeys 107 = .ok (.istore_n 3, 1) := by decide +kernel
theorem dX9_findKeys_108 : decode cX9_findKeys 108 = .ok (.goto (-101), 3) := by decide +kernel
theorem dX9_findKeys_111 : decode cX9_findKeys 111 = .ok (.return_, 1) := by decide +kernel
theorem dX9_pack_0 : decode cX9_pack 0 = .ok (.iload_n 1, 1) := by decide +kernel
theorem dX9_pack_1 : decode cX9_pack 1 = .ok (.invokestatic 178, 3) := by decide +kernel
theorem dX9_pack_4 : decode cX9_pack 4 = .ok (.ifCond .eq 15, 3) := by decide +kernel
theorem dX9_pack_7 : decode cX9_pack 7 = .ok (.iload_n 2, 1) := by decide +kernel
theorem dX9_pack_8 : decode cX9_pack 8 = .ok (.i2l, 1) := by decide +kernel
theorem dX9_pack_9 : decode cX9_pack 9 = .ok (.lconst 0, 1) := by decide +kernel
theorem dX9_pack_10 : decode cX9_pack 10 = .ok (.ldc2_w 206, 3) := by decide +kernel
theorem dX9_pack_13 : decode cX9_pack 13 = .ok (.invokestatic 114, 3) := by decide +kernel
theorem dX9_pack_16 : decode cX9_pack 16 = .ok (.ifCond .ne 6, 3) := by decide +kernel
theorem dX9_pack_19 : decode cX9_pack 19 = .ok (.bipush (-2), 2) := by decide +kernel
theorem dX9_pack_21 : decode cX9_pack 21 = .ok (.ireturn, 1) := by decide +kernel
theorem dX9_pack_22 : decode cX9_pack 22 = .ok (.aload_n 0, 1) := by decide +kernel
theorem dX9_pack_23 : decode cX9_pack 23 = .ok (.iload_n 1, 1) := by decide +kernel
theorem dX9_pack_24 : decode cX9_pack 24 = .ok (.iload_n 2, 1) := by decide +kernel
theorem dX9_pack_25 : decode cX9_pack 25 = .ok (.invokevirtual 208, 3) := by decide +kernel
theorem dX9_pack_28 : decode cX9_pack 28 = .ok (.aload_n 0, 1) := by decide +kernel
theorem dX9_pack_29 : decode cX9_pack 29 = .ok (.getfield 199, 3) := by decide +kernel
theorem dX9_pack_32 : decode cX9_pack 32 = .ok (.ireturn, 1) := by decide +kernel
theorem dX9_key_0 : decode cX9_key 0 = .ok (.iload_n 1, 1) := by decide +kernel
theorem dX9_key_1 : decode cX9_key 1 = .ok (.i2l, 1) := by decide +kernel
theorem dX9_key_2 : decode cX9_key 2 = .ok (.lconst 0, 1) := by decide +kernel
theorem dX9_key_3 : decode cX9_key 3 = .ok (.aload_n 0, 1) := by decide +kernel
theorem dX9_key_4 : decode cX9_key 4 = .ok (.getfield 199, 3) := by decide +kernel
theorem dX9_key_7 : decode cX9_key 7 = .ok (.iconst 1, 1) := by decide +kernel
theorem dX9_key_8 : decode cX9_key 8 = .ok (.isub, 1) := by decide +kernel
theorem dX9_key_9 : decode cX9_key 9 = .ok (.i2l, 1) := by decide +kernel
theorem dX9_key_10 : decode cX9_key 10 = .ok (.invokestatic 114, 3) := by decide +kernel
theorem dX9_key_13 : decode cX9_key 13 = .ok (.ifCond .eq 12, 3) := by decide +kernel
theorem dX9_key_16 : decode cX9_key 16 = .ok (.aload_n 0, 1) := by decide +kernel
theorem dX9_key_17 : decode cX9_key 17 = .ok (.getfield 57, 3) := by decide +kernel
theorem dX9_key_20 : decode cX9_key 20 = .ok (.iload_n 1, 1) := by decide +kernel
theorem dX9_key_21 : decode cX9_key 21 = .ok (.iaload, 1) := by decide +kernel
theorem dX9_key_22 : decode cX9_key 22 = .ok (.goto 5, 3) := by decide +kernel
theorem dX9_key_25 : decode cX9_key 25 = .ok (.bipush (-2), 2) := by decide +kernel
theorem dX9_key_27 : decode cX9_key 27 = .ok (.ireturn, 1) := by decide +kernel
theorem dX9_thin_0 : decode cX9_thin 0 = .ok (.iload_n 1, 1) := by decide +kernel
theorem dX9_thin_1 : decode cX9_thin 1 = .ok (.invokestatic 178, 3) := by decide +kernel
theorem dX9_thin_4 : decode cX9_thin 4 = .ok (.ifCond .eq 15, 3) := by decide +kernel
theorem dX9_thin_7 : decode cX9_thin 7 = .ok (.iload_n 2, 1) := by decide +kernel
theorem dX9_thin_8 : decode cX9_thin 8 = .ok (.i2l, 1) := by decide +kernel
theorem dX9_thin_9 : decode cX9_thin 9 = .ok (.lconst 0, 1) := by decide +kernel
theorem dX9_thin_10 : decode cX9_thin 10 = .ok (.ldc2_w 206, 3) := by decide +kernel
theorem dX9_thin_13 : decode cX9_thin 13 = .ok (.invokestatic 114, 3) := by decide +kernel
theorem dX9_thin_16 : decode cX9_thin 16 = .ok (.ifCond .ne 6, 3) := by decide +kernel
theorem dX9_thin_19 : decode cX9_thin 19 = .ok (.bipush (-2), 2) := by decide +kernel
theorem dX9_thin_21 : decode cX9_thin 21 = .ok (.ireturn, 1) := by decide +kernel
theorem dX9_thin_22 : decode cX9_thin 22 = .ok (.aload_n 0, 1) := by decide +kernel
theorem dX9_thin_23 : decode cX9_thin 23 = .ok (.iload_n 1, 1) := by decide +kernel
theorem dX9_thin_24 : decode cX9_thin 24 = .ok (.iload_n 2, 1) := by decide +kernel
theorem dX9_thin_25 : decode cX9_thin 25 = .ok (.invokevirtual 208, 3) := by decide +kernel
theorem dX9_thin_28 : decode cX9_thin 28 = .ok (.aload_n 0, 1) := by decide +kernel
theorem dX9_thin_29 : decode cX9_thin 29 = .ok (.getfield 51, 3) := by decide +kernel
theorem dX9_thin_32 : decode cX9_thin 32 = .ok (.iload_n 1, 1) := by decide +kernel
theorem dX9_thin_33 : decode cX9_thin 33 = .ok (.iaload, 1) := by decide +kernel
theorem dX9_thin_34 : decode cX9_thin 34 = .ok (.aload_n 0, 1) := by decide +kernel
theorem dX9_thin_35 : decode cX9_thin 35 = .ok (.getfield 199, 3) := by decide +kernel
theorem dX9_thin_38 : decode cX9_thin 38 = .ok (.isub, 1) := by decide +kernel
theorem dX9_thin_39 : decode cX9_thin 39 = .ok (.istore_n 3, 1) := by decide +kernel
theorem dX9_thin_40 : decode cX9_thin 40 = .ok (.iconst 0, 1) := by decide +kernel
theorem dX9_thin_41 : decode cX9_thin 41 = .ok (.istore 4, 2) := by decide +kernel
theorem dX9_thin_43 : decode cX9_thin 43 = .ok (.iload 4, 2) := by decide +kernel
theorem dX9_thin_45 : decode cX9_thin 45 = .ok (.aload_n 0, 1) := by decide +kernel
theorem dX9_thin_46 : decode cX9_thin 46 = .ok (.getfield 199, 3) := by decide +kernel
theorem dX9_thin_49 : decode cX9_thin 49 = .ok (.if_icmp .ge 60, 3) := by decide +kernel
theorem dX9_thin_52 : decode cX9_thin 52 = .ok (.iconst 0, 1) := by decide +kernel
theorem dX9_thin_53 : decode cX9_thin 53 = .ok (.istore 5, 2) := by decide +kernel
theorem dX9_thin_55 : decode cX9_thin 55 = .ok (.iload 5, 2) := by decide +kernel
theorem dX9_thin_57 : decode cX9_thin 57 = .ok (.aload_n 0, 1) := by decide +kernel
theorem dX9_thin_58 : decode cX9_thin 58 = .ok (.getfield 111, 3) := by decide +kernel
theorem dX9_thin_61 : decode cX9_thin 61 = .ok (.if_icmp .ge 42, 3) := by decide +kernel
theorem dX9_thin_64 : decode cX9_thin 64 = .ok (.aload_n 0, 1) := by decide +kernel
theorem dX9_thin_65 : decode cX9_thin 65 = .ok (.getfield 54, 3) := by decide +kernel
theorem dX9_thin_68 : decode cX9_thin 68 = .ok (.iload_n 1, 1) := by decide +kernel
theorem dX9_thin_69 : decode cX9_thin 69 = .ok (.iload 4, 2) := by decide +kernel
theorem dX9_thin_71 : decode cX9_thin 71 = .ok (.invokestatic 181, 3) := by decide +kernel
theorem dX9_thin_74 : decode cX9_thin 74 = .ok (.iload 5, 2) := by decide +kernel
theorem dX9_thin_76 : decode cX9_thin 76 = .ok (.iadd, 1) := by decide +kernel
theorem dX9_thin_77 : decode cX9_thin 77 = .ok (.aload_n 0, 1) := by decide +kernel
theorem dX9_thin_78 : decode cX9_thin 78 = .ok (.getfield 54, 3) := by decide +kernel
theorem dX9_thin_81 : decode cX9_thin 81 = .ok (.iload_n 1, 1) := by decide +kernel
theorem dX9_thin_82 : decode cX9_thin 82 = .ok (.aload_n 0, 1) := by decide +kernel
theorem dX9_thin_83 : decode cX9_thin 83 = .ok (.getfield 57, 3) := by decide +kernel
theorem dX9_thin_86 : decode cX9_thin 86 = .ok (.iload 4, 2) := by decide +kernel
theorem dX9_thin_88 : decode cX9_thin 88 = .ok (.iaload, 1) := by decide +kernel
theorem dX9_thin_89 : decode cX9_thin 89 = .ok (.invokestatic 181, 3) := by decide +kernel
theorem dX9_thin_92 : decode cX9_thin 92 = .ok (.iload 5, 2) := by decide +kernel
theorem dX9_thin_94 : decode cX9_thin 94 = .ok (.iadd, 1) := by decide +kernel
theorem dX9_thin_95 : decode cX9_thin 95 = .ok (.iaload, 1) := by decide +kernel
theorem dX9_thin_96 : decode cX9_thin 96 = .ok (.iastore, 1) := by decide +kernel
theorem dX9_thin_97 : decode cX9_thin 97 = .ok (.iinc 5 1, 3) := by decide +kernel
theorem dX9_thin_100 : decode cX9_thin 100 = .ok (.goto (-45), 3) := by decide +kernel
theorem dX9_thin_103 : decode cX9_thin 103 = .ok (.iinc 4 1, 3) := by decide +kernel
theorem dX9_thin_106 : decode cX9_thin 106 = .ok (.goto (-63), 3) := by decide +kernel
theorem dX9_thin_109 : decode cX9_thin 109 = .ok (.aload_n 0, 1) := by decide +kernel
theorem dX9_thin_110 : decode cX9_thin 110 = .ok (.getfield 51, 3) := by decide +kernel
theorem dX9_thin_113 : decode cX9_thin 113 = .ok (.iload_n 1, 1) := by decide +kernel
theorem dX9_thin_114 : decode cX9_thin 114 = .ok (.aload_n 0, 1) := by decide +kernel
theorem dX9_thin_115 : decode cX9_thin 115 = .ok (.getfield 199, 3) := by decide +kernel
theorem dX9_thin_118 : decode cX9_thin 118 = .ok (.iastore, 1) := by decide +kernel
theorem dX9_thin_119 : decode cX9_thin 119 = .ok (.iload_n 3, 1) := by decide +kernel
theorem dX9_thin_120 : decode cX9_thin 120 = .ok (.ireturn, 1) := by decide +kernel
theorem dX9_join_0 : decode cX9_join 0 = .ok (.iload_n 1, 1) := by decide +kernel
theorem dX9_join_1 : decode cX9_join 1 = .ok (.i2l, 1) := by decide +kernel
theorem dX9_join_2 : decode cX9_join 2 = .ok (.lconst 0, 1) := by decide +kernel
theorem dX9_join_3 : decode cX9_join 3 = .ok (.ldc2_w 124, 3) := by decide +kernel
theorem dX9_join_6 : decode cX9_join 6 = .ok (.invokestatic 114, 3) := by decide +kernel
theorem dX9_join_9 : decode cX9_join 9 = .ok (.ifCond .ne 6, 3) := by decide +kernel
theorem dX9_join_12 : decode cX9_join 12 = .ok (.bipush (-2), 2) := by decide +kernel
theorem dX9_join_14 : decode cX9_join 14 = .ok (.ireturn, 1) := by decide +kernel
theorem dX9_join_15 : decode cX9_join 15 = .ok (.aload_n 0, 1) := by decide +kernel
theorem dX9_join_16 : decode cX9_join 16 = .ok (.getfield 60, 3) := by decide +kernel
theorem dX9_join_19 : decode cX9_join 19 = .ok (.istore_n 2, 1) := by decide +kernel
theorem dX9_join_20 : decode cX9_join 20 = .ok (.aload_n 0, 1) := by decide +kernel
theorem dX9_join_21 : decode cX9_join 21 = .ok (.iload_n 1, 1) := by decide +kernel
theorem dX9_join_22 : decode cX9_join 22 = .ok (.putfield 60, 3) := by decide +kernel
theorem dX9_join_25 : decode cX9_join 25 = .ok (.iload_n 2, 1) := by decide +kernel
theorem dX9_join_26 : decode cX9_join 26 = .ok (.ireturn, 1) := by decide +kernel
theorem dX9_isNode_0 : decode cX9_isNode 0 = .ok (.iload_n 1, 1) := by decide +kernel
theorem dX9_isNode_1 : decode cX9_isNode 1 = .ok (.bipush 30, 2) := by decide +kernel
theorem dX9_isNode_3 : decode cX9_isNode 3 = .ok (.irem, 1) := by decide +kernel
theorem dX9_isNode_4 : decode cX9_isNode 4 = .ok (.aload_n 0, 1) := by decide +kernel
theorem dX9_isNode_5 : decode cX9_isNode 5 = .ok (.getfield 51, 3) := by decide +kernel
theorem dX9_isNode_8 : decode cX9_isNode 8 = .ok (.iload_n 1, 1) := by decide +kernel
