theorem dX8_thin_28 : decode cX8_thin 28 = .ok (.aload_n 3, 1) := by decide +kernel
theorem dX8_thin_29 : decode cX8_thin 29 = .ok (.getfield 147, 3) := by decide +kernel
theorem dX8_thin_32 : decode cX8_thin 32 = .ok (.istore 4, 2) := by decide +kernel
theorem dX8_thin_34 : decode cX8_thin 34 = .ok (.aload_n 0, 1) := by decide +kernel
theorem dX8_thin_35 : decode cX8_thin 35 = .ok (.getfield 26, 3) := by decide +kernel
theorem dX8_thin_38 : decode cX8_thin 38 = .ok (.aload_n 0, 1) := by decide +kernel
theorem dX8_thin_39 : decode cX8_thin 39 = .ok (.getfield 12, 3) := by decide +kernel
theorem dX8_thin_42 : decode cX8_thin 42 = .ok (.aload_n 3, 1) := by decide +kernel
theorem dX8_thin_43 : decode cX8_thin 43 = .ok (.iload_n 2, 1) := by decide +kernel
theorem dX8_thin_44 : decode cX8_thin 44 = .ok (.invokevirtual 185, 3) := by decide +kernel
theorem dX8_thin_47 : decode cX8_thin 47 = .ok (.aload_n 0, 1) := by decide +kernel
theorem dX8_thin_48 : decode cX8_thin 48 = .ok (.getfield 26, 3) := by decide +kernel
theorem dX8_thin_51 : decode cX8_thin 51 = .ok (.aload_n 3, 1) := by decide +kernel
theorem dX8_thin_52 : decode cX8_thin 52 = .ok (.invokevirtual 194, 3) := by decide +kernel
theorem dX8_thin_55 : decode cX8_thin 55 = .ok (.iload 4, 2) := by decide +kernel
theorem dX8_thin_57 : decode cX8_thin 57 = .ok (.aload_n 3, 1) := by decide +kernel
theorem dX8_thin_58 : decode cX8_thin 58 = .ok (.getfield 147, 3) := by decide +kernel
theorem dX8_thin_61 : decode cX8_thin 61 = .ok (.isub, 1) := by decide +kernel
theorem dX8_thin_62 : decode cX8_thin 62 = .ok (.ireturn, 1) := by decide +kernel
theorem dX8_join_0 : decode cX8_join 0 = .ok (.iload_n 1, 1) := by decide +kernel
theorem dX8_join_1 : decode cX8_join 1 = .ok (.i2l, 1) := by decide +kernel
theorem dX8_join_2 : decode cX8_join 2 = .ok (.lconst 0, 1) := by decide +kernel
theorem dX8_join_3 : decode cX8_join 3 = .ok (.ldc2_w 52, 3) := by decide +kernel
theorem dX8_join_6 : decode cX8_join 6 = .ok (.invokestatic 54, 3) := by decide +kernel
theorem dX8_join_9 : decode cX8_join 9 = .ok (.ifCond .ne 6, 3) := by decide +kernel
theorem dX8_join_12 : decode cX8_join 12 = .ok (.bipush (-2), 2) := by decide +kernel
theorem dX8_join_14 : decode cX8_join 14 = .ok (.ireturn, 1) := by decide +kernel
theorem dX8_join_15 : decode cX8_join 15 = .ok (.aload_n 0, 1) := by decide +kernel
theorem dX8_join_16 : decode cX8_join 16 = .ok (.getfield 33, 3) := by decide +kernel
theorem dX8_join_19 : decode cX8_join 19 = .ok (.getfield 198, 3) := by decide +kernel
theorem dX8_join_22 : decode cX8_join 22 = .ok (.istore_n 2, 1) := by decide +kernel
theorem dX8_join_23 : decode cX8_join 23 = .ok (.aload_n 0, 1) := by decide +kernel
theorem dX8_join_24 : decode cX8_join 24 = .ok (.getfield 33, 3) := by decide +kernel
theorem dX8_join_27 : decode cX8_join 27 = .ok (.iload_n 1, 1) := by decide +kernel
theorem dX8_join_28 : decode cX8_join 28 = .ok (.putfield 198, 3) := by decide +kernel
theorem dX8_join_31 : decode cX8_join 31 = .ok (.iload_n 2, 1) := by decide +kernel
theorem dX8_join_32 : decode cX8_join 32 = .ok (.ireturn, 1) := by decide +kernel
theorem dX8_live_0 : decode cX8_live 0 = .ok (.iconst 0, 1) := by decide +kernel
theorem dX8_live_1 : decode cX8_live 1 = .ok (.istore_n 1, 1) := by decide +kernel
theorem dX8_live_2 : decode cX8_live 2 = .ok (.iconst 0, 1) := by decide +kernel
theorem dX8_live_3 : decode cX8_live 3 = .ok (.istore_n 2, 1) := by decide +kernel
theorem dX8_live_4 : decode cX8_live 4 = .ok (.iload_n 2, 1) := by decide +kernel
theorem dX8_live_5 : decode cX8_live 5 = .ok (.bipush 6, 2) := by decide +kernel
theorem dX8_live_7 : decode cX8_live 7 = .ok (.if_icmp .ge 26, 3) := by decide +kernel
theorem dX8_live_10 : decode cX8_live 10 = .ok (.iload_n 1, 1) := by decide +kernel
theorem dX8_live_11 : decode cX8_live 11 = .ok (.aload_n 0, 1) := by decide +kernel
theorem dX8_live_12 : decode cX8_live 12 = .ok (.getfield 33, 3) := by decide +kernel
theorem dX8_live_15 : decode cX8_live 15 = .ok (.aload_n 0, 1) := by decide +kernel
theorem dX8_live_16 : decode cX8_live 16 = .ok (.getfield 19, 3) := by decide +kernel
theorem dX8_live_19 : decode cX8_live 19 = .ok (.iload_n 2, 1) := by decide +kernel
theorem dX8_live_20 : decode cX8_live 20 = .ok (.invokevirtual 201, 3) := by decide +kernel
theorem dX8_live_23 : decode cX8_live 23 = .ok (.iconst 1, 1) := by decide +kernel
theorem dX8_live_24 : decode cX8_live 24 = .ok (.iadd, 1) := by decide +kernel
theorem dX8_live_25 : decode cX8_live 25 = .ok (.iadd, 1) := by decide +kernel
theorem dX8_live_26 : decode cX8_live 26 = .ok (.istore_n 1, 1) := by decide +kernel
theorem dX8_live_27 : decode cX8_live 27 = .ok (.iinc 2 1, 3) := by decide +kernel
theorem dX8_live_30 : decode cX8_live 30 = .ok (.goto (-26), 3) := by decide +kernel
theorem dX8_live_33 : decode cX8_live 33 = .ok (.iload_n 1, 1) := by decide +kernel
theorem dX8_live_34 : decode cX8_live 34 = .ok (.ireturn, 1) := by decide +kernel
theorem dX8_isLive_0 : decode cX8_isLive 0 = .ok (.aload_n 0, 1) := by decide +kernel
theorem dX8_isLive_1 : decode cX8_isLive 1 = .ok (.getfield 19, 3) := by decide +kernel
theorem dX8_isLive_4 : decode cX8_isLive 4 = .ok (.iload_n 1, 1) := by decide +kernel
theorem dX8_isLive_5 : decode cX8_isLive 5 = .ok (.iload_n 2, 1) := by decide +kernel
theorem dX8_isLive_6 : decode cX8_isLive 6 = .ok (.invokevirtual 161, 3) := by decide +kernel
theorem dX8_isLive_9 : decode cX8_isLive 9 = .ok (.ifnonnull 6, 3) := by decide +kernel
theorem dX8_isLive_12 : decode cX8_isLive 12 = .ok (.bipush (-2), 2) := by decide +kernel
theorem dX8_isLive_14 : decode cX8_isLive 14 = .ok (.ireturn, 1) := by decide +kernel
theorem dX8_isLive_15 : decode cX8_isLive 15 = .ok (.iload_n 2, 1) := by decide +kernel
theorem dX8_isLive_16 : decode cX8_isLive 16 = .ok (.aload_n 0, 1) := by decide +kernel
theorem dX8_isLive_17 : decode cX8_isLive 17 = .ok (.getfield 33, 3) := by decide +kernel
theorem dX8_isLive_20 : decode cX8_isLive 20 = .ok (.aload_n 0, 1) := by decide +kernel
theorem dX8_isLive_21 : decode cX8_isLive 21 = .ok (.getfield 19, 3) := by decide +kernel
theorem dX8_isLive_24 : decode cX8_isLive 24 = .ok (.iload_n 1, 1) := by decide +kernel
theorem dX8_isLive_25 : decode cX8_isLive 25 = .ok (.invokevirtual 201, 3) := by decide +kernel
theorem dX8_isLive_28 : decode cX8_isLive 28 = .ok (.if_icmp .gt 7, 3) := by decide +kernel
theorem dX8_isLive_31 : decode cX8_isLive 31 = .ok (.iconst 1, 1) := by decide +kernel
theorem dX8_isLive_32 : decode cX8_isLive 32 = .ok (.goto 4, 3) := by decide +kernel
theorem dX8_isLive_35 : decode cX8_isLive 35 = .ok (.iconst 0, 1) := by decide +kernel
theorem dX8_isLive_36 : decode cX8_isLive 36 = .ok (.ireturn, 1) := by decide +kernel
theorem dX8_walk_0 : decode cX8_walk 0 = .ok (.aload_n 0, 1) := by decide +kernel
theorem dX8_walk_1 : decode cX8_walk 1 = .ok (.getfield 19, 3) := by decide +kernel
theorem dX8_walk_4 : decode cX8_walk 4 = .ok (.iload_n 1, 1) := by decide +kernel
theorem dX8_walk_5 : decode cX8_walk 5 = .ok (.iload_n 2, 1) := by decide +kernel
theorem dX8_walk_6 : decode cX8_walk 6 = .ok (.invokevirtual 161, 3) := by decide +kernel
theorem dX8_walk_9 : decode cX8_walk 9 = .ok (.ifnull 16, 3) := by decide +kernel
theorem dX8_walk_12 : decode cX8_walk 12 = .ok (.aload_n 0, 1) := by decide +kernel
theorem dX8_walk_13 : decode cX8_walk 13 = .ok (.getfield 19, 3) := by decide +kernel
theorem dX8_walk_16 : decode cX8_walk 16 = .ok (.iload_n 3, 1) := by decide +kernel
theorem dX8_walk_17 : decode cX8_walk 17 = .ok (.iload 4, 2) := by decide +kernel
theorem dX8_walk_19 : decode cX8_walk 19 = .ok (.invokevirtual 161, 3) := by decide +kernel
theorem dX8_walk_22 : decode cX8_walk 22 = .ok (.ifnonnull 6, 3) := by decide +kernel
theorem dX8_walk_25 : decode cX8_walk 25 = .ok (.bipush (-2), 2) := by decide +kernel
theorem dX8_walk_27 : decode cX8_walk 27 = .ok (.ireturn, 1) := by decide +kernel
theorem dX8_walk_28 : decode cX8_walk 28 = .ok (.aload_n 0, 1) := by decide +kernel
theorem dX8_walk_29 : decode cX8_walk 29 = .ok (.getfield 33, 3) := by decide +kernel
theorem dX8_walk_32 : decode cX8_walk 32 = .ok (.aload_n 0, 1) := by decide +kernel
theorem dX8_walk_33 : decode cX8_walk 33 = .ok (.getfield 19, 3) := by decide +kernel
theorem dX8_walk_36 : decode cX8_walk 36 = .ok (.bipush 30, 2) := by decide +kernel
theorem dX8_walk_38 : decode cX8_walk 38 = .ok (.iload_n 1, 1) := by decide +kernel
theorem dX8_walk_39 : decode cX8_walk 39 = .ok (.imul, 1) := by decide +kernel
theorem dX8_walk_40 : decode cX8_walk 40 = .ok (.iload_n 2, 1) := by decide +kernel
theorem dX8_walk_41 : decode cX8_walk 41 = .ok (.iadd, 1) := by decide +kernel
theorem dX8_walk_42 : decode cX8_walk 42 = .ok (.bipush 30, 2) := by decide +kernel
theorem dX8_walk_44 : decode cX8_walk 44 = .ok (.iload_n 3, 1) := by decide +kernel
theorem dX8_walk_45 : decode cX8_walk 45 = .ok (.imul, 1) := by decide +kernel
theorem dX8_walk_46 : decode cX8_walk 46 = .ok (.iload 4, 2) := by decide +kernel
theorem dX8_walk_48 : decode cX8_walk 48 = .ok (.iadd, 1) := by decide +kernel
theorem dX8_walk_49 : decode cX8_walk 49 = .ok (.invokevirtual 205, 3) := by decide +kernel
theorem dX8_walk_52 : decode cX8_walk 52 = .ok (.aload_n 0, 1) := by decide +kernel
theorem dX8_walk_53 : decode cX8_walk 53 = .ok (.getfield 33, 3) := by decide +kernel
theorem dX8_walk_56 : decode cX8_walk 56 = .ok (.getfield 209, 3) := by decide +kernel
theorem dX8_walk_59 : decode cX8_walk 59 = .ok (.ireturn, 1) := by decide +kernel
theorem dX8_step_0 : decode cX8_step 0 = .ok (.iload_n 1, 1) := by decide +kernel
theorem dX8_step_1 : decode cX8_step 1 = .ok (.i2l, 1) := by decide +kernel
theorem dX8_step_2 : decode cX8_step 2 = .ok (.lconst 0, 1) := by decide +kernel
theorem dX8_step_3 : decode cX8_step 3 = .ok (.aload_n 0, 1) := by decide +kernel
theorem dX8_step_4 : decode cX8_step 4 = .ok (.getfield 33, 3) := by decide +kernel
theorem dX8_step_7 : decode cX8_step 7 = .ok (.getfield 212, 3) := by decide +kernel
theorem dX8_step_10 : decode cX8_step 10 = .ok (.iconst 1, 1) := by decide +kernel
theorem dX8_step_11 : decode cX8_step 11 = .ok (.isub, 1) := by decide +kernel
theorem dX8_step_12 : decode cX8_step 12 = .ok (.i2l, 1) := by decide +kernel
theorem dX8_step_13 : decode cX8_step 13 = .ok (.invokestatic 54, 3) := by decide +kernel
theorem dX8_step_16 : decode cX8_step 16 = .ok (.ifCond .eq 15, 3) := by decide +kernel
theorem dX8_step_19 : decode cX8_step 19 = .ok (.aload_n 0, 1) := by decide +kernel
theorem dX8_step_20 : decode cX8_step 20 = .ok (.getfield 33, 3) := by decide +kernel
theorem dX8_step_23 : decode cX8_step 23 = .ok (.getfield 215, 3) := by decide +kernel
theorem dX8_step_26 : decode cX8_step 26 = .ok (.iload_n 1, 1) := by decide +kernel
theorem dX8_step_27 : decode cX8_step 27 = .ok (.iaload, 1) := by decide +kernel
theorem dX8_step_28 : decode cX8_step 28 = .ok (.goto 5, 3) := by decide +kernel
theorem dX8_step_31 : decode cX8_step 31 = .ok (.bipush (-2), 2) := by decide +kernel
theorem dX8_step_33 : decode cX8_step 33 = .ok (.ireturn, 1) := by decide +kernel
theorem dX8_sheet_0 : decode cX8_sheet 0 = .ok (.aload_n 0, 1) := by decide +kernel
theorem dX8_sheet_1 : decode cX8_sheet 1 = .ok (.iload_n 1, 1) := by decide +kernel
theorem dX8_sheet_2 : decode cX8_sheet 2 = .ok (.invokevirtual 218, 3) := by decide +kernel
theorem dX8_sheet_5 : decode cX8_sheet 5 = .ok (.astore 4, 2) := by decide +kernel
theorem dX8_sheet_7 : decode cX8_sheet 7 = .ok (.aload 4, 2) := by decide +kernel
theorem dX8_sheet_9 : decode cX8_sheet 9 = .ok (.ifnull 16, 3) := by decide +kernel
theorem dX8_sheet_12 : decode cX8_sheet 12 = .ok (.iload_n 2, 1) := by decide +kernel
theorem dX8_sheet_13 : decode cX8_sheet 13 = .ok (.invokestatic 222, 3) := by decide +kernel
theorem dX8_sheet_16 : decode cX8_sheet 16 = .ok (.ifCond .eq 9, 3) := by decide +kernel
theorem dX8_sheet_19 : decode cX8_sheet 19 = .ok (.iload_n 3, 1) := by decide +kernel
theorem dX8_sheet_20 : decode cX8_sheet 20 = .ok (.bipush 60, 2) := by decide +kernel
theorem dX8_sheet_22 : decode cX8_sheet 22 = .ok (.if_icmp .le 6, 3) := by decide +kernel
theorem dX8_sheet_25 : decode cX8_sheet 25 = .ok (.bipush (-2), 2) := by decide +kernel
theorem dX8_sheet_27 : decode cX8_sheet 27 = .ok (.ireturn, 1) := by decide +kernel
theorem dX8_sheet_28 : decode cX8_sheet 28 = .ok (.iload_n 3, 1) := by decide +kernel
theorem dX8_sheet_29 : decode cX8_sheet 29 = .ok (.ifCond .ge 9, 3) := by decide +kernel
theorem dX8_sheet_32 : decode cX8_sheet 32 = .ok (.aload_n 0, 1) := by decide +kernel
theorem dX8_sheet_33 : decode cX8_sheet 33 = .ok (.iconst 5, 1) := by decide +kernel
theorem dX8_sheet_34 : decode cX8_sheet 34 = .ok (.invokevirtual 225, 3) := by decide +kernel
theorem dX8_sheet_37 : decode cX8_sheet 37 = .ok (.ireturn, 1) := by decide +kernel
theorem dX8_sheet_38 : decode cX8_sheet 38 = .ok (.aload 4, 2) := by decide +kernel
theorem dX8_sheet_40 : decode cX8_sheet 40 = .ok (.iload_n 2, 1) := by decide +kernel
theorem dX8_sheet_41 : decode cX8_sheet 41 = .ok (.iload_n 3, 1) := by decide +kernel
theorem dX8_sheet_42 : decode cX8_sheet 42 = .ok (.invokevirtual 229, 3) := by decide +kernel
theorem dX8_sheet_45 : decode cX8_sheet 45 = .ok (.iload_n 3, 1) := by decide +kernel
theorem dX8_sheet_46 : decode cX8_sheet 46 = .ok (.ireturn, 1) := by decide +kernel
theorem dX8_lose_0 : decode cX8_lose 0 = .ok (.aload_n 0, 1) := by decide +kernel
theorem dX8_lose_1 : decode cX8_lose 1 = .ok (.iload_n 1, 1) := by decide +kernel
theorem dX8_lose_2 : decode cX8_lose 2 = .ok (.invokevirtual 218, 3) := by decide +kernel
theorem dX8_lose_5 : decode cX8_lose 5 = .ok (.astore_n 2, 1) := by decide +kernel
theorem dX8_lose_6 : decode cX8_lose 6 = .ok (.aload_n 2, 1) := by decide +kernel
theorem dX8_lose_7 : decode cX8_lose 7 = .ok (.ifnonnull 6, 3) := by decide +kernel
theorem dX8_lose_10 : decode cX8_lose 10 = .ok (.bipush (-2), 2) := by decide +kernel
theorem dX8_lose_12 : decode cX8_lose 12 = .ok (.ireturn, 1) := by decide +kernel
theorem dX8_lose_13 : decode cX8_lose 13 = .ok (.aload_n 2, 1) := by decide +kernel
theorem dX8_lose_14 : decode cX8_lose 14 = .ok (.getfield 233, 3) := by decide +kernel
theorem dX8_lose_17 : decode cX8_lose 17 = .ok (.ifCond .eq 9, 3) := by decide +kernel
theorem dX8_lose_20 : decode cX8_lose 20 = .ok (.aload_n 0, 1) := by decide +kernel
theorem dX8_lose_21 : decode cX8_lose 21 = .ok (.iconst 1, 1) := by decide +kernel
theorem dX8_lose_22 : decode cX8_lose 22 = .ok (.invokevirtual 225, 3) := by decide +kernel
theorem dX8_lose_25 : decode cX8_lose 25 = .ok (.ireturn, 1) := by decide +kernel
theorem dX8_lose_26 : decode cX8_lose 26 = .ok (.aload_n 2, 1) := by decide +kernel
theorem dX8_lose_27 : decode cX8_lose 27 = .ok (.iconst 1, 1) := by decide +kernel
theorem dX8_lose_28 : decode cX8_lose 28 = .ok (.putfield 233, 3) := by decide +kernel
theorem dX8_lose_31 : decode cX8_lose 31 = .ok (.aload_n 2, 1) := by decide +kernel
theorem dX8_lose_32 : decode cX8_lose 32 = .ok (.getfield 237, 3) := by decide +kernel
theorem dX8_lose_35 : decode cX8_lose 35 = .ok (.ireturn, 1) := by decide +kernel
theorem dX8_put_0 : decode cX8_put 0 = .ok (.aload_n 0, 1) := by decide +kernel
theorem dX8_put_1 : decode cX8_put 1 = .ok (.iload_n 1, 1) := by decide +kernel
theorem dX8_put_2 : decode cX8_put 2 = .ok (.invokevirtual 218, 3) := by decide +kernel
theorem dX8_put_5 : decode cX8_put 5 = .ok (.astore 5, 2) := by decide +kernel
theorem dX8_put_7 : decode cX8_put 7 = .ok (.aload 5, 2) := by decide +kernel
theorem dX8_put_9 : decode cX8_put 9 = .ok (.ifnull 10, 3) := by decide +kernel
theorem dX8_put_12 : decode cX8_put 12 = .ok (.iload_n 2, 1) := by decide +kernel
theorem dX8_put_13 : decode cX8_put 13 = .ok (.invokestatic 222, 3) := by decide +kernel
theorem dX8_put_16 : decode cX8_put 16 = .ok (.ifCond .ne 6, 3) := by decide +kernel
theorem dX8_put_19 : decode cX8_put 19 = .ok (.bipush (-2), 2) := by decide +kernel
theorem dX8_put_21 : decode cX8_put 21 = .ok (.ireturn, 1) := by decide +kernel
theorem dX8_put_22 : decode cX8_put 22 = .ok (.aload 5, 2) := by decide +kernel
theorem dX8_put_24 : decode cX8_put 24 = .ok (.iload_n 2, 1) := by decide +kernel
theorem dX8_put_25 : decode cX8_put 25 = .ok (.iload_n 3, 1) := by decide +kernel
theorem dX8_put_26 : decode cX8_put 26 = .ok (.invokevirtual 238, 3) := by decide +kernel
theorem dX8_put_29 : decode cX8_put 29 = .ok (.istore 6, 2) := by decide +kernel
theorem dX8_put_31 : decode cX8_put 31 = .ok (.iload 6, 2) := by decide +kernel
theorem dX8_put_33 : decode cX8_put 33 = .ok (.ifCond .eq 10, 3) := by decide +kernel
theorem dX8_put_36 : decode cX8_put 36 = .ok (.aload_n 0, 1) := by decide +kernel
theorem dX8_put_37 : decode cX8_put 37 = .ok (.iload 6, 2) := by decide +kernel
theorem dX8_put_39 : decode cX8_put 39 = .ok (.invokevirtual 225, 3) := by decide +kernel
theorem dX8_put_42 : decode cX8_put 42 = .ok (.ireturn, 1) := by decide +kernel
theorem dX8_put_43 : decode cX8_put 43 = .ok (.aload 5, 2) := by decide +kernel
theorem dX8_put_45 : decode cX8_put 45 = .ok (.iload_n 3, 1) := by decide +kernel
theorem dX8_put_46 : decode cX8_put 46 = .ok (.iload 4, 2) := by decide +kernel
theorem dX8_put_48 : decode cX8_put 48 = .ok (.invokevirtual 242, 3) := by decide +kernel
theorem dX8_put_51 : decode cX8_put 51 = .ok (.iconst 1, 1) := by decide +kernel
theorem dX8_put_52 : decode cX8_put 52 = .ok (.ireturn, 1) := by decide +kernel
theorem dX8_get_0 : decode cX8_get 0 = .ok (.aload_n 0, 1) := by decide +kernel
theorem dX8_get_1 : decode cX8_get 1 = .ok (.iload_n 1, 1) := by decide +kernel
theorem dX8_get_2 : decode cX8_get 2 = .ok (.invokevirtual 218, 3) := by decide +kernel
theorem dX8_get_5 : decode cX8_get 5 = .ok (.astore 4, 2) := by decide +kernel
theorem dX8_get_7 : decode cX8_get 7 = .ok (.aload 4, 2) := by decide +kernel
theorem dX8_get_9 : decode cX8_get 9 = .ok (.ifnull 10, 3) := by decide +kernel
theorem dX8_get_12 : decode cX8_get 12 = .ok (.iload_n 2, 1) := by decide +kernel
theorem dX8_get_13 : decode cX8_get 13 = .ok (.invokestatic 222, 3) := by decide +kernel
theorem dX8_get_16 : decode cX8_get 16 = .ok (.ifCond .ne 6, 3) := by decide +kernel
theorem dX8_get_19 : decode cX8_get 19 = .ok (.ldc 245, 2) := by decide +kernel
theorem dX8_get_21 : decode cX8_get 21 = .ok (.ireturn, 1) := by decide +kernel
theorem dX8_get_22 : decode cX8_get 22 = .ok (.aload 4, 2) := by decide +kernel
theorem dX8_get_24 : decode cX8_get 24 = .ok (.iload_n 2, 1) := by decide +kernel
theorem dX8_get_25 : decode cX8_get 25 = .ok (.iload_n 3, 1) := by decide +kernel
theorem dX8_get_26 : decode cX8_get 26 = .ok (.invokevirtual 238, 3) := by decide +kernel
theorem dX8_get_29 : decode cX8_get 29 = .ok (.istore 5, 2) := by decide +kernel
theorem dX8_get_31 : decode cX8_get 31 = .ok (.iload 5, 2) := by decide +kernel
theorem dX8_get_33 : decode cX8_get 33 = .ok (.ifCond .eq 12, 3) := by decide +kernel
theorem dX8_get_36 : decode cX8_get 36 = .ok (.aload_n 0, 1) := by decide +kernel
theorem dX8_get_37 : decode cX8_get 37 = .ok (.iload 5, 2) := by decide +kernel
theorem dX8_get_39 : decode cX8_get 39 = .ok (.putfield 43, 3) := by decide +kernel
theorem dX8_get_42 : decode cX8_get 42 = .ok (.ldc 245, 2) := by decide +kernel
theorem dX8_get_44 : decode cX8_get 44 = .ok (.ireturn, 1) := by decide +kernel
theorem dX8_get_45 : decode cX8_get 45 = .ok (.aload 4, 2) := by decide +kernel
theorem dX8_get_47 : decode cX8_get 47 = .ok (.getfield 246, 3) := by decide +kernel
theorem dX8_get_50 : decode cX8_get 50 = .ok (.iload_n 3, 1) := by decide +kernel
theorem dX8_get_51 : decode cX8_get 51 = .ok (.iaload, 1) := by decide +kernel
theorem dX8_get_52 : decode cX8_get 52 = .ok (.ireturn, 1) := by decide +kernel
theorem dX8_copy_0 : decode cX8_copy 0 = .ok (.aload_n 0, 1) := by decide +kernel
theorem dX8_copy_1 : decode cX8_copy 1 = .ok (.iload_n 1, 1) := by decide +kernel
theorem dX8_copy_2 : decode cX8_copy 2 = .ok (.invokevirtual 218, 3) := by decide +kernel
theorem dX8_copy_5 : decode cX8_copy 5 = .ok (.astore 6, 2) := by decide +kernel
theorem dX8_copy_7 : decode cX8_copy 7 = .ok (.aload_n 0, 1) := by decide +kernel
theorem dX8_copy_8 : decode cX8_copy 8 = .ok (.iload_n 3, 1) := by decide +kernel
theorem dX8_copy_9 : decode cX8_copy 9 = .ok (.invokevirtual 218, 3) := by decide +kernel
theorem dX8_copy_12 : decode cX8_copy 12 = .ok (.astore 7, 2) := by decide +kernel
theorem dX8_copy_14 : decode cX8_copy 14 = .ok (.aload 6, 2) := by decide +kernel
theorem dX8_copy_16 : decode cX8_copy 16 = .ok (.ifnull 8, 3) := by decide +kernel
theorem dX8_copy_19 : decode cX8_copy 19 = .ok (.aload 7, 2) := by decide +kernel
theorem dX8_copy_21 : decode cX8_copy 21 = .ok (.ifnonnull 6, 3) := by decide +kernel
theorem dX8_copy_24 : decode cX8_copy 24 = .ok (.bipush (-2), 2) := by decide +kernel
theorem dX8_copy_26 : decode cX8_copy 26 = .ok (.ireturn, 1) := by decide +kernel
theorem dX8_copy_27 : decode cX8_copy 27 = .ok (.aload 6, 2) := by decide +kernel
theorem dX8_copy_29 : decode cX8_copy 29 = .ok (.getfield 233, 3) := by decide +kernel
theorem dX8_copy_32 : decode cX8_copy 32 = .ok (.ifCond .ne 11, 3) := by decide +kernel
theorem dX8_copy_35 : decode cX8_copy 35 = .ok (.aload 7, 2) := by decide +kernel
theorem dX8_copy_37 : decode cX8_copy 37 = .ok (.getfield 233, 3) := by decide +kernel
theorem dX8_copy_40 : decode cX8_copy 40 = .ok (.ifCond .eq 9, 3) := by decide +kernel
theorem dX8_copy_43 : decode cX8_copy 43 = .ok (.aload_n 0, 1) := by decide +kernel
theorem dX8_copy_44 : decode cX8_copy 44 = .ok (.iconst 1, 1) := by decide +kernel
theorem dX8_copy_45 : decode cX8_copy 45 = .ok (.invokevirtual 225, 3) := by decide +kernel
theorem dX8_copy_48 : decode cX8_copy 48 = .ok (.ireturn, 1) := by decide +kernel
theorem dX8_copy_49 : decode cX8_copy 49 = .ok (.aload 6, 2) := by decide +kernel
theorem dX8_copy_51 : decode cX8_copy 51 = .ok (.getfield 249, 3) := by decide +kernel
theorem dX8_copy_54 : decode cX8_copy 54 = .ok (.aload 7, 2) := by decide +kernel
theorem dX8_copy_56 : decode cX8_copy 56 = .ok (.getfield 249, 3) := by decide +kernel
theorem dX8_copy_59 : decode cX8_copy 59 = .ok (.if_icmp .eq 9, 3) := by decide +kernel
theorem dX8_copy_62 : decode cX8_copy 62 = .ok (.aload_n 0, 1) := by decide +kernel
theorem dX8_copy_63 : decode cX8_copy 63 = .ok (.iconst 4, 1) := by decide +kernel
theorem dX8_copy_64 : decode cX8_copy 64 = .ok (.invokevirtual 225, 3) := by decide +kernel
theorem dX8_copy_67 : decode cX8_copy 67 = .ok (.ireturn, 1) := by decide +kernel
theorem dX8_copy_68 : decode cX8_copy 68 = .ok (.aload 6, 2) := by decide +kernel
theorem dX8_copy_70 : decode cX8_copy 70 = .ok (.iload_n 2, 1) := by decide +kernel
theorem dX8_copy_71 : decode cX8_copy 71 = .ok (.iload 5, 2) := by decide +kernel
theorem dX8_copy_73 : decode cX8_copy 73 = .ok (.invokevirtual 252, 3) := by decide +kernel
theorem dX8_copy_76 : decode cX8_copy 76 = .ok (.ifCond .eq 15, 3) := by decide +kernel
theorem dX8_copy_79 : decode cX8_copy 79 = .ok (.aload 7, 2) := by decide +kernel
theorem dX8_copy_81 : decode cX8_copy 81 = .ok (.iload 4, 2) := by decide +kernel
theorem dX8_copy_83 : decode cX8_copy 83 = .ok (.iload 5, 2) := by decide +kernel
theorem dX8_copy_85 : decode cX8_copy 85 = .ok (.invokevirtual 252, 3) := by decide +kernel
theorem dX8_copy_88 : decode cX8_copy 88 = .ok (.ifCond .ne 9, 3) := by decide +kernel
theorem dX8_copy_91 : decode cX8_copy 91 = .ok (.aload_n 0, 1) := by decide +kernel
theorem dX8_copy_92 : decode cX8_copy 92 = .ok (.iconst 2, 1) := by decide +kernel
theorem dX8_copy_93 : decode cX8_copy 93 = .ok (.invokevirtual 225, 3) := by decide +kernel
theorem dX8_copy_96 : decode cX8_copy 96 = .ok (.ireturn, 1) := by decide +kernel
theorem dX8_copy_97 : decode cX8_copy 97 = .ok (.aload 6, 2) := by decide +kernel
theorem dX8_copy_99 : decode cX8_copy 99 = .ok (.getfield 246, 3) := by decide +kernel
theorem dX8_copy_102 : decode cX8_copy 102 = .ok (.iload_n 2, 1) := by decide +kernel
theorem dX8_copy_103 : decode cX8_copy 103 = .ok (.aload 7, 2) := by decide +kernel
theorem dX8_copy_105 : decode cX8_copy 105 = .ok (.getfield 246, 3) := by decide +kernel
theorem dX8_copy_108 : decode cX8_copy 108 = .ok (.iload 4, 2) := by decide +kernel
theorem dX8_copy_110 : decode cX8_copy 110 = .ok (.iload 5, 2) := by decide +kernel
theorem dX8_copy_112 : decode cX8_copy 112 = .ok (.invokestatic 256, 3) := by decide +kernel
theorem dX8_copy_115 : decode cX8_copy 115 = .ok (.iconst 1, 1) := by decide +kernel
theorem dX8_copy_116 : decode cX8_copy 116 = .ok (.ireturn, 1) := by decide +kernel
theorem dX8_pose_0 : decode cX8_pose 0 = .ok (.aload_n 0, 1) := by decide +kernel
theorem dX8_pose_1 : decode cX8_pose 1 = .ok (.iload_n 1, 1) := by decide +kernel
theorem dX8_pose_2 : decode cX8_pose 2 = .ok (.invokevirtual 218, 3) := by decide +kernel
theorem dX8_pose_5 : decode cX8_pose 5 = .ok (.astore_n 3, 1) := by decide +kernel
theorem dX8_pose_6 : decode cX8_pose 6 = .ok (.aload_n 3, 1) := by decide +kernel
theorem dX8_pose_7 : decode cX8_pose 7 = .ok (.ifnonnull 6, 3) := by decide +kernel
theorem dX8_pose_10 : decode cX8_pose 10 = .ok (.bipush (-2), 2) := by decide +kernel
theorem dX8_pose_12 : decode cX8_pose 12 = .ok (.ireturn, 1) := by decide +kernel
theorem dX8_pose_13 : decode cX8_pose 13 = .ok (.aload_n 3, 1) := by decide +kernel
theorem dX8_pose_14 : decode cX8_pose 14 = .ok (.iload_n 2, 1) := by decide +kernel
theorem dX8_pose_15 : decode cX8_pose 15 = .ok (.aload_n 0, 1) := by decide +kernel
theorem dX8_pose_16 : decode cX8_pose 16 = .ok (.getfield 12, 3) := by decide +kernel
theorem dX8_pose_19 : decode cX8_pose 19 = .ok (.getfield 71, 3) := by decide +kernel
theorem dX8_pose_22 : decode cX8_pose 22 = .ok (.invokevirtual 262, 3) := by decide +kernel
theorem dX8_pose_25 : decode cX8_pose 25 = .ok (.istore 4, 2) := by decide +kernel
theorem dX8_pose_27 : decode cX8_pose 27 = .ok (.iload 4, 2) := by decide +kernel
theorem dX8_pose_29 : decode cX8_pose 29 = .ok (.ifCond .eq 10, 3) := by decide +kernel
theorem dX8_pose_32 : decode cX8_pose 32 = .ok (.aload_n 0, 1) := by decide +kernel
theorem dX8_pose_33 : decode cX8_pose 33 = .ok (.iload 4, 2) := by decide +kernel
theorem dX8_pose_35 : decode cX8_pose 35 = .ok (.invokevirtual 225, 3) := by decide +kernel
theorem dX8_pose_38 : decode cX8_pose 38 = .ok (.ireturn, 1) := by decide +kernel
theorem dX8_pose_39 : decode cX8_pose 39 = .ok (.aload_n 0, 1) := by decide +kernel
theorem dX8_pose_40 : decode cX8_pose 40 = .ok (.getfield 12, 3) := by decide +kernel
theorem dX8_pose_43 : decode cX8_pose 43 = .ok (.aload_n 3, 1) := by decide +kernel
theorem dX8_pose_44 : decode cX8_pose 44 = .ok (.getfield 246, 3) := by decide +kernel
theorem dX8_pose_47 : decode cX8_pose 47 = .ok (.iload_n 2, 1) := by decide +kernel
theorem dX8_pose_48 : decode cX8_pose 48 = .ok (.invokevirtual 265, 3) := by decide +kernel
theorem dX8_pose_51 : decode cX8_pose 51 = .ok (.ireturn, 1) := by decide +kernel
theorem dX8_write_0 : decode cX8_write 0 = .ok (.aload_n 0, 1) := by decide +kernel
theorem dX8_write_1 : decode cX8_write 1 = .ok (.iload_n 1, 1) := by decide +kernel
theorem dX8_write_2 : decode cX8_write 2 = .ok (.invokevirtual 218, 3) := by decide +kernel
theorem dX8_write_5 : decode cX8_write 5 = .ok (.astore_n 3, 1) := by decide +kernel
theorem dX8_write_6 : decode cX8_write 6 = .ok (.aload_n 3, 1) := by decide +kernel
theorem dX8_write_7 : decode cX8_write 7 = .ok (.ifnonnull 6, 3) := by decide +kernel
theorem dX8_write_10 : decode cX8_write 10 = .ok (.bipush (-2), 2) := by decide +kernel
theorem dX8_write_12 : decode cX8_write 12 = .ok (.ireturn, 1) := by decide +kernel
theorem dX8_write_13 : decode cX8_write 13 = .ok (.aload_n 3, 1) := by decide +kernel
theorem dX8_write_14 : decode cX8_write 14 = .ok (.iload_n 2, 1) := by decide +kernel
theorem dX8_write_15 : decode cX8_write 15 = .ok (.aload_n 0, 1) := by decide +kernel
theorem dX8_write_16 : decode cX8_write 16 = .ok (.getfield 12, 3) := by decide +kernel
theorem dX8_write_19 : decode cX8_write 19 = .ok (.getfield 71, 3) := by decide +kernel
theorem dX8_write_22 : decode cX8_write 22 = .ok (.invokevirtual 262, 3) := by decide +kernel
theorem dX8_write_25 : decode cX8_write 25 = .ok (.istore 4, 2) := by decide +kernel
theorem dX8_write_27 : decode cX8_write 27 = .ok (.iload 4, 2) := by decide +kernel
theorem dX8_write_29 : decode cX8_write 29 = .ok (.ifCond .eq 10, 3) := by decide +kernel
theorem dX8_write_32 : decode cX8_write 32 = .ok (.aload_n 0, 1) := by decide +kernel
theorem dX8_write_33 : decode cX8_write 33 = .ok (.iload 4, 2) := by decide +kernel
theorem dX8_write_35 : decode cX8_write 35 = .ok (.invokevirtual 225, 3) := by decide +kernel
theorem dX8_write_38 : decode cX8_write 38 = .ok (.ireturn, 1) := by decide +kernel
theorem dX8_write_39 : decode cX8_write 39 = .ok (.iconst 0, 1) := by decide +kernel
theorem dX8_write_40 : decode cX8_write 40 = .ok (.istore 5, 2) := by decide +kernel
theorem dX8_write_42 : decode cX8_write 42 = .ok (.iload 5, 2) := by decide +kernel
theorem dX8_write_44 : decode cX8_write 44 = .ok (.aload_n 0, 1) := by decide +kernel
theorem dX8_write_45 : decode cX8_write 45 = .ok (.getfield 12, 3) := by decide +kernel
theorem dX8_write_48 : decode cX8_write 48 = .ok (.getfield 71, 3) := by decide +kernel
theorem dX8_write_51 : decode cX8_write 51 = .ok (.if_icmp .ge 30, 3) := by decide +kernel
theorem dX8_write_54 : decode cX8_write 54 = .ok (.aload_n 3, 1) := by decide +kernel
theorem dX8_write_55 : decode cX8_write 55 = .ok (.iload_n 2, 1) := by decide +kernel
theorem dX8_write_56 : decode cX8_write 56 = .ok (.iload 5, 2) := by decide +kernel
theorem dX8_write_58 : decode cX8_write 58 = .ok (.iadd, 1) := by decide +kernel
theorem dX8_write_59 : decode cX8_write 59 = .ok (.aload_n 0, 1) := by decide +kernel
theorem dX8_write_60 : decode cX8_write 60 = .ok (.getfield 12, 3) := by decide +kernel
theorem dX8_write_63 : decode cX8_write 63 = .ok (.getfield 269, 3) := by decide +kernel
theorem dX8_write_66 : decode cX8_write 66 = .ok (.iload 5, 2) := by decide +kernel
theorem dX8_write_68 : decode cX8_write 68 = .ok (.aaload, 1) := by decide +kernel
theorem dX8_write_69 : decode cX8_write 69 = .ok (.getfield 93, 3) := by decide +kernel
theorem dX8_write_72 : decode cX8_write 72 = .ok (.invokevirtual 242, 3) := by decide +kernel
theorem dX8_write_75 : decode cX8_write 75 = .ok (.iinc 5 1, 3) := by decide +kernel
theorem dX8_write_78 : decode cX8_write 78 = .ok (.goto (-36), 3) := by decide +kernel
theorem dX8_write_81 : decode cX8_write 81 = .ok (.aload_n 0, 1) := by decide +kernel
theorem dX8_write_82 : decode cX8_write 82 = .ok (.getfield 12, 3) := by decide +kernel
theorem dX8_write_85 : decode cX8_write 85 = .ok (.getfield 71, 3) := by decide +kernel
theorem dX8_write_88 : decode cX8_write 88 = .ok (.ireturn, 1) := by decide +kernel
theorem dX8_count_0 : decode cX8_count 0 = .ok (.iload_n 1, 1) := by decide +kernel
theorem dX8_count_1 : decode cX8_count 1 = .ok (.tableswitch 96 0 6 #[43, 51, 59, 67, 75, 83, 91], 43) := by decide +kernel
theorem dX8_count_44 : decode cX8_count 44 = .ok (.aload_n 0, 1) := by decide +kernel
theorem dX8_count_45 : decode cX8_count 45 = .ok (.getfield 12, 3) := by decide +kernel
theorem dX8_count_48 : decode cX8_count 48 = .ok (.getfield 71, 3) := by decide +kernel
theorem dX8_count_51 : decode cX8_count 51 = .ok (.ireturn, 1) := by decide +kernel
theorem dX8_count_52 : decode cX8_count 52 = .ok (.aload_n 0, 1) := by decide +kernel
theorem dX8_count_53 : decode cX8_count 53 = .ok (.getfield 19, 3) := by decide +kernel
theorem dX8_count_56 : decode cX8_count 56 = .ok (.invokevirtual 67, 3) := by decide +kernel
theorem dX8_count_59 : decode cX8_count 59 = .ok (.ireturn, 1) := by decide +kernel
theorem dX8_count_60 : decode cX8_count 60 = .ok (.aload_n 0, 1) := by decide +kernel
theorem dX8_count_61 : decode cX8_count 61 = .ok (.getfield 12, 3) := by decide +kernel
theorem dX8_count_64 : decode cX8_count 64 = .ok (.getfield 106, 3) := by decide +kernel
theorem dX8_count_67 : decode cX8_count 67 = .ok (.ireturn, 1) := by decide +kernel
theorem dX8_count_68 : decode cX8_count 68 = .ok (.aload_n 0, 1) := by decide +kernel
theorem dX8_count_69 : decode cX8_count 69 = .ok (.getfield 33, 3) := by decide +kernel
theorem dX8_count_72 : decode cX8_count 72 = .ok (.getfield 198, 3) := by decide +kernel
theorem dX8_count_75 : decode cX8_count 75 = .ok (.ireturn, 1) := by decide +kernel
theorem dX8_count_76 : decode cX8_count 76 = .ok (.aload_n 0, 1) := by decide +kernel
theorem dX8_count_77 : decode cX8_count 77 = .ok (.getfield 26, 3) := by decide +kernel
theorem dX8_count_80 : decode cX8_count 80 = .ok (.getfield 189, 3) := by decide +kernel
theorem dX8_count_83 : decode cX8_count 83 = .ok (.ireturn, 1) := by decide +kernel
theorem dX8_count_84 : decode cX8_count 84 = .ok (.aload_n 0, 1) := by decide +kernel
theorem dX8_count_85 : decode cX8_count 85 = .ok (.getfield 33, 3) := by decide +kernel
theorem dX8_count_88 : decode cX8_count 88 = .ok (.getfield 209, 3) := by decide +kernel
theorem dX8_count_91 : decode cX8_count 91 = .ok (.ireturn, 1) := by decide +kernel
theorem dX8_count_92 : decode cX8_count 92 = .ok (.aload_n 0, 1) := by decide +kernel
theorem dX8_count_93 : decode cX8_count 93 = .ok (.getfield 43, 3) := by decide +kernel
theorem dX8_count_96 : decode cX8_count 96 = .ok (.ireturn, 1) := by decide +kernel
theorem dX8_count_97 : decode cX8_count 97 = .ok (.bipush (-2), 2) := by decide +kernel
theorem dX8_count_99 : decode cX8_count 99 = .ok (.ireturn, 1) := by decide +kernel
theorem dX8_digest_0 : decode cX8_digest 0 = .ok (.ldc2_w 273, 3) := by decide +kernel
theorem dX8_digest_3 : decode cX8_digest 3 = .ok (.lstore_n 1, 1) := by decide +kernel
theorem dX8_digest_4 : decode cX8_digest 4 = .ok (.iconst 0, 1) := by decide +kernel
theorem dX8_digest_5 : decode cX8_digest 5 = .ok (.istore_n 3, 1) := by decide +kernel
theorem dX8_digest_6 : decode cX8_digest 6 = .ok (.iload_n 3, 1) := by decide +kernel
theorem dX8_digest_7 : decode cX8_digest 7 = .ok (.iconst 3, 1) := by decide +kernel
theorem dX8_digest_8 : decode cX8_digest 8 = .ok (.if_icmp .gt 22, 3) := by decide +kernel
theorem dX8_digest_11 : decode cX8_digest 11 = .ok (.ldc2_w 275, 3) := by decide +kernel
theorem dX8_digest_14 : decode cX8_digest 14 = .ok (.lload_n 1, 1) := by decide +kernel
theorem dX8_digest_15 : decode cX8_digest 15 = .ok (.lmul, 1) := by decide +kernel
theorem dX8_digest_16 : decode cX8_digest 16 = .ok (.aload_n 0, 1) := by decide +kernel
theorem dX8_digest_17 : decode cX8_digest 17 = .ok (.iload_n 3, 1) := by decide +kernel
theorem dX8_digest_18 : decode cX8_digest 18 = .ok (.invokevirtual 277, 3) := by decide +kernel
theorem dX8_digest_21 : decode cX8_digest 21 = .ok (.i2l, 1) := by decide +kernel
theorem dX8_digest_22 : decode cX8_digest 22 = .ok (.ladd, 1) := by decide +kernel
theorem dX8_digest_23 : decode cX8_digest 23 = .ok (.lstore_n 1, 1) := by decide +kernel
theorem dX8_digest_24 : decode cX8_digest 24 = .ok (.iinc 3 1, 3) := by decide +kernel
theorem dX8_digest_27 : decode cX8_digest 27 = .ok (.goto (-21), 3) := by decide +kernel
theorem dX8_digest_30 : decode cX8_digest 30 = .ok (.aload_n 0, 1) := by decide +kernel
theorem dX8_digest_31 : decode cX8_digest 31 = .ok (.getfield 19, 3) := by decide +kernel
theorem dX8_digest_34 : decode cX8_digest 34 = .ok (.aload_n 0, 1) := by decide +kernel
theorem dX8_digest_35 : decode cX8_digest 35 = .ok (.getfield 12, 3) := by decide +kernel
theorem dX8_digest_38 : decode cX8_digest 38 = .ok (.lload_n 1, 1) := by decide +kernel
theorem dX8_digest_39 : decode cX8_digest 39 = .ok (.invokevirtual 280, 3) := by decide +kernel
theorem dX8_digest_42 : decode cX8_digest 42 = .ok (.invokevirtual 284, 3) := by decide +kernel
theorem dX8_digest_45 : decode cX8_digest 45 = .ok (.lreturn, 1) := by decide +kernel
theorem dX8_isIn_0 : decode cX8_isIn 0 = .ok (.lload_n 0, 1) := by decide +kernel
theorem dX8_isIn_1 : decode cX8_isIn 1 = .ok (.lload_n 2, 1) := by decide +kernel
theorem dX8_isIn_2 : decode cX8_isIn 2 = .ok (.lcmp, 1) := by decide +kernel
theorem dX8_isIn_3 : decode cX8_isIn 3 = .ok (.ifCond .lt 14, 3) := by decide +kernel
theorem dX8_isIn_6 : decode cX8_isIn 6 = .ok (.lload_n 0, 1) := by decide +kernel
theorem dX8_isIn_7 : decode cX8_isIn 7 = .ok (.lload 4, 2) := by decide +kernel
theorem dX8_isIn_9 : decode cX8_isIn 9 = .ok (.lcmp, 1) := by decide +kernel
theorem dX8_isIn_10 : decode cX8_isIn 10 = .ok (.ifCond .gt 7, 3) := by decide +kernel
theorem dX8_isIn_13 : decode cX8_isIn 13 = .ok (.iconst 1, 1) := by decide +kernel
theorem dX8_isIn_14 : decode cX8_isIn 14 = .ok (.goto 4, 3) := by decide +kernel
theorem dX8_isIn_17 : decode cX8_isIn 17 = .ok (.iconst 0, 1) := by decide +kernel
theorem dX8_isIn_18 : decode cX8_isIn 18 = .ok (.ireturn, 1) := by decide +kernel
theorem dX8_isTurn_0 : decode cX8_isTurn 0 = .ok (.iload_n 0, 1) := by decide +kernel
theorem dX8_isTurn_1 : decode cX8_isTurn 1 = .ok (.i2l, 1) := by decide +kernel
theorem dX8_isTurn_2 : decode cX8_isTurn 2 = .ok (.lconst 0, 1) := by decide +kernel
theorem dX8_isTurn_3 : decode cX8_isTurn 3 = .ok (.ldc2_w 285, 3) := by decide +kernel
theorem dX8_isTurn_6 : decode cX8_isTurn 6 = .ok (.invokestatic 54, 3) := by decide +kernel
theorem dX8_isTurn_9 : decode cX8_isTurn 9 = .ok (.ireturn, 1) := by decide +kernel
theorem dX8_isPlace_0 : decode cX8_isPlace 0 = .ok (.lload_n 0, 1) := by decide +kernel
theorem dX8_isPlace_1 : decode cX8_isPlace 1 = .ok (.ldc2_w 287, 3) := by decide +kernel
theorem dX8_isPlace_4 : decode cX8_isPlace 4 = .ok (.ldc2_w 289, 3) := by decide +kernel
theorem dX8_isPlace_7 : decode cX8_isPlace 7 = .ok (.invokestatic 54, 3) := by decide +kernel
theorem dX8_isPlace_10 : decode cX8_isPlace 10 = .ok (.ifCond .eq 20, 3) := by decide +kernel
theorem dX8_isPlace_13 : decode cX8_isPlace 13 = .ok (.lload_n 2, 1) := by decide +kernel
theorem dX8_isPlace_14 : decode cX8_isPlace 14 = .ok (.ldc2_w 287, 3) := by decide +kernel
theorem dX8_isPlace_17 : decode cX8_isPlace 17 = .ok (.ldc2_w 289, 3) := by decide +kernel
theorem dX8_isPlace_20 : decode cX8_isPlace 20 = .ok (.invokestatic 54, 3) := by decide +kernel
theorem dX8_isPlace_23 : decode cX8_isPlace 23 = .ok (.ifCond .eq 7, 3) := by decide +kernel
theorem dX8_isPlace_26 : decode cX8_isPlace 26 = .ok (.iconst 1, 1) := by decide +kernel
theorem dX8_isPlace_27 : decode cX8_isPlace 27 = .ok (.goto 4, 3) := by decide +kernel
theorem dX8_isPlace_30 : decode cX8_isPlace 30 = .ok (.iconst 0, 1) := by decide +kernel
theorem dX8_isPlace_31 : decode cX8_isPlace 31 = .ok (.ireturn, 1) := by decide +kernel
theorem dX8_isForm_0 : decode cX8_isForm 0 = .ok (.iload_n 0, 1) := by decide +kernel
theorem dX8_isForm_1 : decode cX8_isForm 1 = .ok (.i2l, 1) := by decide +kernel
theorem dX8_isForm_2 : decode cX8_isForm 2 = .ok (.lconst 0, 1) := by decide +kernel
theorem dX8_isForm_3 : decode cX8_isForm 3 = .ok (.ldc2_w 291, 3) := by decide +kernel
theorem dX8_isForm_6 : decode cX8_isForm 6 = .ok (.invokestatic 54, 3) := by decide +kernel
theorem dX8_isForm_9 : decode cX8_isForm 9 = .ok (.ireturn, 1) := by decide +kernel
theorem dX8_asLong_0 : decode cX8_asLong 0 = .ok (.ldc2_w 293, 3) := by decide +kernel
theorem dX8_asLong_3 : decode cX8_asLong 3 = .ok (.iload_n 0, 1) := by decide +kernel
theorem dX8_asLong_4 : decode cX8_asLong 4 = .ok (.i2l, 1) := by decide +kernel
theorem dX8_asLong_5 : decode cX8_asLong 5 = .ok (.lsub, 1) := by decide +kernel
theorem dX8_asLong_6 : decode cX8_asLong 6 = .ok (.lreturn, 1) := by decide +kernel
theorem dX8_found_0 : decode cX8_found 0 = .ok (.aload_n 0, 1) := by decide +kernel
theorem dX8_found_1 : decode cX8_found 1 = .ok (.iload_n 1, 1) := by decide +kernel
theorem dX8_found_2 : decode cX8_found 2 = .ok (.putfield 43, 3) := by decide +kernel
theorem dX8_found_5 : decode cX8_found 5 = .ok (.bipush (-10), 2) := by decide +kernel
theorem dX8_found_7 : decode cX8_found 7 = .ok (.iload_n 1, 1) := by decide +kernel
theorem dX8_found_8 : decode cX8_found 8 = .ok (.isub, 1) := by decide +kernel
theorem dX8_found_9 : decode cX8_found 9 = .ok (.ireturn, 1) := by decide +kernel
theorem dX8_findSheet_0 : decode cX8_findSheet 0 = .ok (.iload_n 1, 1) := by decide +kernel
theorem dX8_findSheet_1 : decode cX8_findSheet 1 = .ok (.i2l, 1) := by decide +kernel
theorem dX8_findSheet_2 : decode cX8_findSheet 2 = .ok (.lconst 0, 1) := by decide +kernel
theorem dX8_findSheet_3 : decode cX8_findSheet 3 = .ok (.ldc2_w 295, 3) := by decide +kernel
theorem dX8_findSheet_6 : decode cX8_findSheet 6 = .ok (.invokestatic 54, 3) := by decide +kernel
theorem dX8_findSheet_9 : decode cX8_findSheet 9 = .ok (.ifCond .eq 12, 3) := by decide +kernel
theorem dX8_findSheet_12 : decode cX8_findSheet 12 = .ok (.aload_n 0, 1) := by decide +kernel
theorem dX8_findSheet_13 : decode cX8_findSheet 13 = .ok (.getfield 39, 3) := by decide +kernel
theorem dX8_findSheet_16 : decode cX8_findSheet 16 = .ok (.iload_n 1, 1) := by decide +kernel
theorem dX8_findSheet_17 : decode cX8_findSheet 17 = .ok (.aaload, 1) := by decide +kernel
theorem dX8_findSheet_18 : decode cX8_findSheet 18 = .ok (.goto 4, 3) := by decide +kernel
theorem dX8_findSheet_21 : decode cX8_findSheet 21 = .ok (.aconst_null, 1) := by decide +kernel
theorem dX8_findSheet_22 : decode cX8_findSheet 22 = .ok (.areturn, 1) := by decide +kernel
theorem dX9_init_0 : decode cX9_init 0 = .ok (.aload_n 0, 1) := by decide +kernel
theorem dX9_init_1 : decode cX9_init 1 = .ok (.invokespecial 1, 3) := by decide +kernel
theorem dX9_init_4 : decode cX9_init 4 = .ok (.aload_n 0, 1) := by decide +kernel
theorem dX9_init_5 : decode cX9_init 5 = .ok (.bipush 36, 2) := by decide +kernel
theorem dX9_init_7 : decode cX9_init 7 = .ok (.newarray .int, 2) := by decide +kernel
theorem dX9_init_9 : decode cX9_init 9 = .ok (.putfield 7, 3) := by decide +kernel
theorem dX9_init_12 : decode cX9_init 12 = .ok (.aload_n 0, 1) := by decide +kernel
theorem dX9_init_13 : decode cX9_init 13 = .ok (.bipush 36, 2) := by decide +kernel
theorem dX9_init_15 : decode cX9_init 15 = .ok (.newarray .int, 2) := by decide +kernel
theorem dX9_init_17 : decode cX9_init 17 = .ok (.putfield 13, 3) := by decide +kernel
theorem dX9_init_20 : decode cX9_init 20 = .ok (.aload_n 0, 1) := by decide +kernel
theorem dX9_init_21 : decode cX9_init 21 = .ok (.bipush 10, 2) := by decide +kernel
theorem dX9_init_23 : decode cX9_init 23 = .ok (.newarray .int, 2) := by decide +kernel
theorem dX9_init_25 : decode cX9_init 25 = .ok (.putfield 16, 3) := by decide +kernel
theorem dX9_init_28 : decode cX9_init 28 = .ok (.aload_n 0, 1) := by decide +kernel
theorem dX9_init_29 : decode cX9_init 29 = .ok (.bipush 10, 2) := by decide +kernel
theorem dX9_init_31 : decode cX9_init 31 = .ok (.newarray .int, 2) := by decide +kernel
theorem dX9_init_33 : decode cX9_init 33 = .ok (.putfield 19, 3) := by decide +kernel
theorem dX9_init_36 : decode cX9_init 36 = .ok (.aload_n 0, 1) := by decide +kernel
theorem dX9_init_37 : decode cX9_init 37 = .ok (.bipush 10, 2) := by decide +kernel
theorem dX9_init_39 : decode cX9_init 39 = .ok (.newarray .int, 2) := by decide +kernel
theorem dX9_init_41 : decode cX9_init 41 = .ok (.putfield 22, 3) := by decide +kernel
theorem dX9_init_44 : decode cX9_init 44 = .ok (.aload_n 0, 1) := by decide +kernel
theorem dX9_init_45 : decode cX9_init 45 = .ok (.bipush 10, 2) := by decide +kernel
theorem dX9_init_47 : decode cX9_init 47 = .ok (.newarray .int, 2) := by decide +kernel
theorem dX9_init_49 : decode cX9_init 49 = .ok (.putfield 25, 3) := by decide +kernel
theorem dX9_init_52 : decode cX9_init 52 = .ok (.aload_n 0, 1) := by decide +kernel
theorem dX9_init_53 : decode cX9_init 53 = .ok (.bipush 10, 2) := by decide +kernel
theorem dX9_init_55 : decode cX9_init 55 = .ok (.newarray .int, 2) := by decide +kernel
theorem dX9_init_57 : decode cX9_init 57 = .ok (.putfield 28, 3) := by decide +kernel
theorem dX9_init_60 : decode cX9_init 60 = .ok (.aload_n 0, 1) := by decide +kernel
theorem dX9_init_61 : decode cX9_init 61 = .ok (.bipush 10, 2) := by decide +kernel
theorem dX9_init_63 : decode cX9_init 63 = .ok (.newarray .int, 2) := by decide +kernel
theorem dX9_init_65 : decode cX9_init 65 = .ok (.putfield 31, 3) := by decide +kernel
theorem dX9_init_68 : decode cX9_init 68 = .ok (.aload_n 0, 1) := by decide +kernel
theorem dX9_init_69 : decode cX9_init 69 = .ok (.iconst (-1), 1) := by decide +kernel
theorem dX9_init_70 : decode cX9_init 70 = .ok (.putfield 34, 3) := by decide +kernel
theorem dX9_init_73 : decode cX9_init 73 = .ok (.aload_n 0, 1) := by decide +kernel
theorem dX9_init_74 : decode cX9_init 74 = .ok (.bipush 10, 2) := by decide +kernel
theorem dX9_init_76 : decode cX9_init 76 = .ok (.newarray .long, 2) := by decide +kernel
theorem dX9_init_78 : decode cX9_init 78 = .ok (.putfield 38, 3) := by decide +kernel
theorem dX9_init_81 : decode cX9_init 81 = .ok (.aload_n 0, 1) := by decide +kernel
theorem dX9_init_82 : decode cX9_init 82 = .ok (.bipush 10, 2) := by decide +kernel
theorem dX9_init_84 : decode cX9_init 84 = .ok (.newarray .long, 2) := by decide +kernel
theorem dX9_init_86 : decode cX9_init 86 = .ok (.putfield 42, 3) := by decide +kernel
theorem dX9_init_89 : decode cX9_init 89 = .ok (.aload_n 0, 1) := by decide +kernel
theorem dX9_init_90 : decode cX9_init 90 = .ok (.bipush 10, 2) := by decide +kernel
theorem dX9_init_92 : decode cX9_init 92 = .ok (.newarray .long, 2) := by decide +kernel
theorem dX9_init_94 : decode cX9_init 94 = .ok (.putfield 45, 3) := by decide +kernel
theorem dX9_init_97 : decode cX9_init 97 = .ok (.aload_n 0, 1) := by decide +kernel
theorem dX9_init_98 : decode cX9_init 98 = .ok (.bipush 10, 2) := by decide +kernel
theorem dX9_init_100 : decode cX9_init 100 = .ok (.newarray .long, 2) := by decide +kernel
theorem dX9_init_102 : decode cX9_init 102 = .ok (.putfield 48, 3) := by decide +kernel
theorem dX9_init_105 : decode cX9_init 105 = .ok (.aload_n 0, 1) := by decide +kernel
theorem dX9_init_106 : decode cX9_init 106 = .ok (.bipush 6, 2) := by decide +kernel
theorem dX9_init_108 : decode cX9_init 108 = .ok (.newarray .int, 2) := by decide +kernel
theorem dX9_init_110 : decode cX9_init 110 = .ok (.putfield 51, 3) := by decide +kernel
theorem dX9_init_113 : decode cX9_init 113 = .ok (.aload_n 0, 1) := by decide +kernel
theorem dX9_init_114 : decode cX9_init 114 = .ok (.sipush 1800, 3) := by decide +kernel
theorem dX9_init_117 : decode cX9_init 117 = .ok (.newarray .int, 2) := by decide +kernel
theorem dX9_init_119 : decode cX9_init 119 = .ok (.putfield 54, 3) := by decide +kernel
theorem dX9_init_122 : decode cX9_init 122 = .ok (.aload_n 0, 1) := by decide +kernel
theorem dX9_init_123 : decode cX9_init 123 = .ok (.bipush 30, 2) := by decide +kernel
theorem dX9_init_125 : decode cX9_init 125 = .ok (.newarray .int, 2) := by decide +kernel
theorem dX9_init_127 : decode cX9_init 127 = .ok (.putfield 57, 3) := by decide +kernel
theorem dX9_init_130 : decode cX9_init 130 = .ok (.aload_n 0, 1) := by decide +kernel
theorem dX9_init_131 : decode cX9_init 131 = .ok (.iconst 3, 1) := by decide +kernel
theorem dX9_init_132 : decode cX9_init 132 = .ok (.putfield 60, 3) := by decide +kernel
theorem dX9_init_135 : decode cX9_init 135 = .ok (.aload_n 0, 1) := by decide +kernel
theorem dX9_init_136 : decode cX9_init 136 = .ok (.sipush 32400, 3) := by decide +kernel
theorem dX9_init_139 : decode cX9_init 139 = .ok (.newarray .int, 2) := by decide +kernel
theorem dX9_init_141 : decode cX9_init 141 = .ok (.putfield 63, 3) := by decide +kernel
theorem dX9_init_144 : decode cX9_init 144 = .ok (.aload_n 0, 1) := by decide +kernel
theorem dX9_init_145 : decode cX9_init 145 = .ok (.sipush 180, 3) := by decide +kernel
theorem dX9_init_148 : decode cX9_init 148 = .ok (.newarray .boolean, 2) := by decide +kernel
theorem dX9_init_150 : decode cX9_init 150 = .ok (.putfield 66, 3) := by decide +kernel
theorem dX9_init_153 : decode cX9_init 153 = .ok (.aload_n 0, 1) := by decide +kernel
theorem dX9_init_154 : decode cX9_init 154 = .ok (.sipush 180, 3) := by decide +kernel
theorem dX9_init_157 : decode cX9_init 157 = .ok (.newarray .int, 2) := by decide +kernel
theorem dX9_init_159 : decode cX9_init 159 = .ok (.putfield 70, 3) := by decide +kernel
theorem dX9_init_162 : decode cX9_init 162 = .ok (.aload_n 0, 1) := by decide +kernel
theorem dX9_init_163 : decode cX9_init 163 = .ok (.sipush 180, 3) := by decide +kernel
theorem dX9_init_166 : decode cX9_init 166 = .ok (.newarray .boolean, 2) := by decide +kernel
theorem dX9_init_168 : decode cX9_init 168 = .ok (.putfield 73, 3) := by decide +kernel
theorem dX9_init_171 : decode cX9_init 171 = .ok (.aload_n 0, 1) := by decide +kernel
theorem dX9_init_172 : decode cX9_init 172 = .ok (.iconst (-1), 1) := by decide +kernel
theorem dX9_init_173 : decode cX9_init 173 = .ok (.putfield 76, 3) := by decide +kernel
theorem dX9_init_176 : decode cX9_init 176 = .ok (.aload_n 0, 1) := by decide +kernel
theorem dX9_init_177 : decode cX9_init 177 = .ok (.sipush 180, 3) := by decide +kernel
theorem dX9_init_180 : decode cX9_init 180 = .ok (.newarray .int, 2) := by decide +kernel
theorem dX9_init_182 : decode cX9_init 182 = .ok (.putfield 79, 3) := by decide +kernel
theorem dX9_init_185 : decode cX9_init 185 = .ok (.aload_n 0, 1) := by decide +kernel
theorem dX9_init_186 : decode cX9_init 186 = .ok (.iconst 4, 1) := by decide +kernel
theorem dX9_init_187 : decode cX9_init 187 = .ok (.newarray .int, 2) := by decide +kernel
theorem dX9_init_189 : decode cX9_init 189 = .ok (.putfield 82, 3) := by decide +kernel
theorem dX9_init_192 : decode cX9_init 192 = .ok (.aload_n 0, 1) := by decide +kernel
theorem dX9_init_193 : decode cX9_init 193 = .ok (.iconst 4, 1) := by decide +kernel
theorem dX9_init_194 : decode cX9_init 194 = .ok (.newarray .int, 2) := by decide +kernel
theorem dX9_init_196 : decode cX9_init 196 = .ok (.putfield 85, 3) := by decide +kernel
theorem dX9_init_199 : decode cX9_init 199 = .ok (.aload_n 0, 1) := by decide +kernel
theorem dX9_init_200 : decode cX9_init 200 = .ok (.sipush 240, 3) := by decide +kernel
theorem dX9_init_203 : decode cX9_init 203 = .ok (.newarray .int, 2) := by decide +kernel
theorem dX9_init_205 : decode cX9_init 205 = .ok (.putfield 88, 3) := by decide +kernel
theorem dX9_init_208 : decode cX9_init 208 = .ok (.aload_n 0, 1) := by decide +kernel
theorem dX9_init_209 : decode cX9_init 209 = .ok (.bipush 60, 2) := by decide +kernel
theorem dX9_init_211 : decode cX9_init 211 = .ok (.newarray .int, 2) := by decide +kernel
theorem dX9_init_213 : decode cX9_init 213 = .ok (.putfield 91, 3) := by decide +kernel
theorem dX9_init_216 : decode cX9_init 216 = .ok (.aload_n 0, 1) := by decide +kernel
theorem dX9_init_217 : decode cX9_init 217 = .ok (.getfield 7, 3) := by decide +kernel
theorem dX9_init_220 : decode cX9_init 220 = .ok (.iconst 0, 1) := by decide +kernel
theorem dX9_init_221 : decode cX9_init 221 = .ok (.bipush 65, 2) := by decide +kernel
theorem dX9_init_223 : decode cX9_init 223 = .ok (.iastore, 1) := by decide +kernel
theorem dX9_init_224 : decode cX9_init 224 = .ok (.aload_n 0, 1) := by decide +kernel
theorem dX9_init_225 : decode cX9_init 225 = .ok (.getfield 7, 3) := by decide +kernel
theorem dX9_init_228 : decode cX9_init 228 = .ok (.iconst 1, 1) := by decide +kernel
theorem dX9_init_229 : decode cX9_init 229 = .ok (.bipush 63, 2) := by decide +kernel
theorem dX9_init_231 : decode cX9_init 231 = .ok (.iastore, 1) := by decide +kernel
theorem dX9_init_232 : decode cX9_init 232 = .ok (.aload_n 0, 1) := by decide +kernel
theorem dX9_init_233 : decode cX9_init 233 = .ok (.getfield 7, 3) := by decide +kernel
theorem dX9_init_236 : decode cX9_init 236 = .ok (.iconst 2, 1) := by decide +kernel
theorem dX9_init_237 : decode cX9_init 237 = .ok (.bipush 60, 2) := by decide +kernel
theorem dX9_init_239 : decode cX9_init 239 = .ok (.iastore, 1) := by decide +kernel
theorem dX9_init_240 : decode cX9_init 240 = .ok (.aload_n 0, 1) := by decide +kernel
theorem dX9_init_241 : decode cX9_init 241 = .ok (.getfield 7, 3) := by decide +kernel
theorem dX9_init_244 : decode cX9_init 244 = .ok (.iconst 3, 1) := by decide +kernel
theorem dX9_init_245 : decode cX9_init 245 = .ok (.bipush 56, 2) := by decide +kernel
theorem dX9_init_247 : decode cX9_init 247 = .ok (.iastore, 1) := by decide +kernel
theorem dX9_init_248 : decode cX9_init 248 = .ok (.aload_n 0, 1) := by decide +kernel
theorem dX9_init_249 : decode cX9_init 249 = .ok (.getfield 7, 3) := by decide +kernel
theorem dX9_init_252 : decode cX9_init 252 = .ok (.iconst 4, 1) := by decide +kernel
theorem dX9_init_253 : decode cX9_init 253 = .ok (.bipush 52, 2) := by decide +kernel
theorem dX9_init_255 : decode cX9_init 255 = .ok (.iastore, 1) := by decide +kernel
theorem dX9_init_256 : decode cX9_init 256 = .ok (.aload_n 0, 1) := by decide +kernel
theorem dX9_init_257 : decode cX9_init 257 = .ok (.getfield 7, 3) := by decide +kernel
theorem dX9_init_260 : decode cX9_init 260 = .ok (.iconst 5, 1) := by decide +kernel
theorem dX9_init_261 : decode cX9_init 261 = .ok (.bipush 39, 2) := by decide +kernel
theorem dX9_init_263 : decode cX9_init 263 = .ok (.iastore, 1) := by decide +kernel
theorem dX9_init_264 : decode cX9_init 264 = .ok (.aload_n 0, 1) := by decide +kernel
theorem dX9_init_265 : decode cX9_init 265 = .ok (.getfield 7, 3) := by decide +kernel
theorem dX9_init_268 : decode cX9_init 268 = .ok (.bipush 6, 2) := by decide +kernel
theorem dX9_init_270 : decode cX9_init 270 = .ok (.bipush 33, 2) := by decide +kernel
theorem dX9_init_272 : decode cX9_init 272 = .ok (.iastore, 1) := by decide +kernel
theorem dX9_init_273 : decode cX9_init 273 = .ok (.aload_n 0, 1) := by decide +kernel
theorem dX9_init_274 : decode cX9_init 274 = .ok (.getfield 7, 3) := by decide +kernel
theorem dX9_init_277 : decode cX9_init 277 = .ok (.bipush 7, 2) := by decide +kernel
theorem dX9_init_279 : decode cX9_init 279 = .ok (.bipush 25, 2) := by decide +kernel
theorem dX9_init_281 : decode cX9_init 281 = .ok (.iastore, 1) := by decide +kernel
theorem dX9_init_282 : decode cX9_init 282 = .ok (.aload_n 0, 1) := by decide +kernel
theorem dX9_init_283 : decode cX9_init 283 = .ok (.getfield 7, 3) := by decide +kernel
theorem dX9_init_286 : decode cX9_init 286 = .ok (.bipush 8, 2) := by decide +kernel
theorem dX9_init_288 : decode cX9_init 288 = .ok (.bipush 16, 2) := by decide +kernel
theorem dX9_init_290 : decode cX9_init 290 = .ok (.iastore, 1) := by decide +kernel
theorem dX9_init_291 : decode cX9_init 291 = .ok (.aload_n 0, 1) := by decide +kernel
theorem dX9_init_292 : decode cX9_init 292 = .ok (.getfield 13, 3) := by decide +kernel
theorem dX9_init_295 : decode cX9_init 295 = .ok (.iconst 0, 1) := by decide +kernel
theorem dX9_init_296 : decode cX9_init 296 = .ok (.iconst 0, 1) := by decide +kernel
theorem dX9_init_297 : decode cX9_init 297 = .ok (.iastore, 1) := by decide +kernel
theorem dX9_init_298 : decode cX9_init 298 = .ok (.aload_n 0, 1) := by decide +kernel
theorem dX9_init_299 : decode cX9_init 299 = .ok (.getfield 13, 3) := by decide +kernel
theorem dX9_init_302 : decode cX9_init 302 = .ok (.iconst 1, 1) := by decide +kernel
theorem dX9_init_303 : decode cX9_init 303 = .ok (.bipush 16, 2) := by decide +kernel
theorem dX9_init_305 : decode cX9_init 305 = .ok (.iastore, 1) := by decide +kernel
theorem dX9_init_306 : decode cX9_init 306 = .ok (.aload_n 0, 1) := by decide +kernel
theorem dX9_init_307 : decode cX9_init 307 = .ok (.getfield 13, 3) := by decide +kernel
theorem dX9_init_310 : decode cX9_init 310 = .ok (.iconst 2, 1) := by decide +kernel
theorem dX9_init_311 : decode cX9_init 311 = .ok (.bipush 25, 2) := by decide +kernel
theorem dX9_init_313 : decode cX9_init 313 = .ok (.iastore, 1) := by decide +kernel
theorem dX9_init_314 : decode cX9_init 314 = .ok (.aload_n 0, 1) := by decide +kernel
theorem dX9_init_315 : decode cX9_init 315 = .ok (.getfield 13, 3) := by decide +kernel
theorem dX9_init_318 : decode cX9_init 318 = .ok (.iconst 3, 1) := by decide +kernel
theorem dX9_init_319 : decode cX9_init 319 = .ok (.bipush 33, 2) := by decide +kernel
theorem dX9_init_321 : decode cX9_init 321 = .ok (.iastore, 1) := by decide +kernel
theorem dX9_init_322 : decode cX9_init 322 = .ok (.aload_n 0, 1) := by decide +kernel
theorem dX9_init_323 : decode cX9_init 323 = .ok (.getfield 13, 3) := by decide +kernel
theorem dX9_init_326 : decode cX9_init 326 = .ok (.iconst 4, 1) := by decide +kernel
theorem dX9_init_327 : decode cX9_init 327 = .ok (.bipush 39, 2) := by decide +kernel
theorem dX9_init_329 : decode cX9_init 329 = .ok (.iastore, 1) := by decide +kernel
theorem dX9_init_330 : decode cX9_init 330 = .ok (.aload_n 0, 1) := by decide +kernel
theorem dX9_init_331 : decode cX9_init 331 = .ok (.getfield 13, 3) := by decide +kernel
theorem dX9_init_334 : decode cX9_init 334 = .ok (.iconst 5, 1) := by decide +kernel
theorem dX9_init_335 : decode cX9_init 335 = .ok (.bipush 52, 2) := by decide +kernel
theorem dX9_init_337 : decode cX9_init 337 = .ok (.iastore, 1) := by decide +kernel
theorem dX9_init_338 : decode cX9_init 338 = .ok (.aload_n 0, 1) := by decide +kernel
theorem dX9_init_339 : decode cX9_init 339 = .ok (.getfield 13, 3) := by decide +kernel
theorem dX9_init_342 : decode cX9_init 342 = .ok (.bipush 6, 2) := by decide +kernel
theorem dX9_init_344 : decode cX9_init 344 = .ok (.bipush 56, 2) := by decide +kernel
theorem dX9_init_346 : decode cX9_init 346 = .ok (.iastore, 1) := by decide +kernel
theorem dX9_init_347 : decode cX9_init 347 = .ok (.aload_n 0, 1) := by decide +kernel
theorem dX9_init_348 : decode cX9_init 348 = .ok (.getfield 13, 3) := by decide +kernel
theorem dX9_init_351 : decode cX9_init 351 = .ok (.bipush 7, 2) := by decide +kernel
theorem dX9_init_353 : decode cX9_init 353 = .ok (.bipush 60, 2) := by decide +kernel
theorem dX9_init_355 : decode cX9_init 355 = .ok (.iastore, 1) := by decide +kernel
theorem dX9_init_356 : decode cX9_init 356 = .ok (.aload_n 0, 1) := by decide +kernel
theorem dX9_init_357 : decode cX9_init 357 = .ok (.getfield 13, 3) := by decide +kernel
theorem dX9_init_360 : decode cX9_init 360 = .ok (.bipush 8, 2) := by decide +kernel
theorem dX9_init_362 : decode cX9_init 362 = .ok (.bipush 63, 2) := by decide +kernel
theorem dX9_init_364 : decode cX9_init 364 = .ok (.iastore, 1) := by decide +kernel
theorem dX9_init_365 : decode cX9_init 365 = .ok (.bipush 9, 2) := by decide +kernel
theorem dX9_init_367 : decode cX9_init 367 = .ok (.istore_n 1, 1) := by decide +kernel
theorem dX9_init_368 : decode cX9_init 368 = .ok (.iload_n 1, 1) := by decide +kernel
theorem dX9_init_369 : decode cX9_init 369 = .ok (.bipush 36, 2) := by decide +kernel
theorem dX9_init_371 : decode cX9_init 371 = .ok (.if_icmp .ge 40, 3) := by decide +kernel
theorem dX9_init_374 : decode cX9_init 374 = .ok (.aload_n 0, 1) := by decide +kernel
theorem dX9_init_375 : decode cX9_init 375 = .ok (.getfield 7, 3) := by decide +kernel
theorem dX9_init_378 : decode cX9_init 378 = .ok (.iload_n 1, 1) := by decide +kernel
theorem dX9_init_379 : decode cX9_init 379 = .ok (.aload_n 0, 1) := by decide +kernel
theorem dX9_init_380 : decode cX9_init 380 = .ok (.getfield 13, 3) := by decide +kernel
theorem dX9_init_383 : decode cX9_init 383 = .ok (.iload_n 1, 1) := by decide +kernel
theorem dX9_init_384 : decode cX9_init 384 = .ok (.bipush 9, 2) := by decide +kernel
theorem dX9_init_386 : decode cX9_init 386 = .ok (.isub, 1) := by decide +kernel
theorem dX9_init_387 : decode cX9_init 387 = .ok (.iaload, 1) := by decide +kernel
theorem dX9_init_388 : decode cX9_init 388 = .ok (.ineg, 1) := by decide +kernel
theorem dX9_init_389 : decode cX9_init 389 = .ok (.iastore, 1) := by decide +kernel
theorem dX9_init_390 : decode cX9_init 390 = .ok (.aload_n 0, 1) := by decide +kernel
theorem dX9_init_391 : decode cX9_init 391 = .ok (.getfield 13, 3) := by decide +kernel
theorem dX9_init_394 : decode cX9_init 394 = .ok (.iload_n 1, 1) := by decide +kernel
theorem dX9_init_395 : decode cX9_init 395 = .ok (.aload_n 0, 1) := by decide +kernel
theorem dX9_init_396 : decode cX9_init 396 = .ok (.getfield 7, 3) := by decide +kernel
theorem dX9_init_399 : decode cX9_init 399 = .ok (.iload_n 1, 1) := by decide +kernel
theorem dX9_init_400 : decode cX9_init 400 = .ok (.bipush 9, 2) := by decide +kernel
theorem dX9_init_402 : decode cX9_init 402 = .ok (.isub, 1) := by decide +kernel
theorem dX9_init_403 : decode cX9_init 403 = .ok (.iaload, 1) := by decide +kernel
theorem dX9_init_404 : decode cX9_init 404 = .ok (.iastore, 1) := by decide +kernel
theorem dX9_init_405 : decode cX9_init 405 = .ok (.iinc 1 1, 3) := by decide +kernel
theorem dX9_init_408 : decode cX9_init 408 = .ok (.goto (-40), 3) := by decide +kernel
theorem dX9_init_411 : decode cX9_init 411 = .ok (.iconst 0, 1) := by decide +kernel
theorem dX9_init_412 : decode cX9_init 412 = .ok (.istore_n 1, 1) := by decide +kernel
theorem dX9_init_413 : decode cX9_init 413 = .ok (.iload_n 1, 1) := by decide +kernel
theorem dX9_init_414 : decode cX9_init 414 = .ok (.iconst 4, 1) := by decide +kernel
theorem dX9_init_415 : decode cX9_init 415 = .ok (.if_icmp .ge 16, 3) := by decide +kernel
theorem dX9_init_418 : decode cX9_init 418 = .ok (.aload_n 0, 1) := by decide +kernel
theorem dX9_init_419 : decode cX9_init 419 = .ok (.getfield 82, 3) := by decide +kernel
theorem dX9_init_422 : decode cX9_init 422 = .ok (.iload_n 1, 1) := by decide +kernel
theorem dX9_init_423 : decode cX9_init 423 = .ok (.iconst (-1), 1) := by decide +kernel
theorem dX9_init_424 : decode cX9_init 424 = .ok (.iastore, 1) := by decide +kernel
theorem dX9_init_425 : decode cX9_init 425 = .ok (.iinc 1 1, 3) := by decide +kernel
theorem dX9_init_428 : decode cX9_init 428 = .ok (.goto (-15), 3) := by decide +kernel
theorem dX9_init_431 : decode cX9_init 431 = .ok (.return_, 1) := by decide +kernel
theorem dX9_in_0 : decode cX9_in 0 = .ok (.lload_n 0, 1) := by decide +kernel
theorem dX9_in_1 : decode cX9_in 1 = .ok (.lload_n 2, 1) := by decide +kernel
theorem dX9_in_2 : decode cX9_in 2 = .ok (.lcmp, 1) := by decide +kernel
theorem dX9_in_3 : decode cX9_in 3 = .ok (.ifCond .lt 14, 3) := by decide +kernel
theorem dX9_in_6 : decode cX9_in 6 = .ok (.lload_n 0, 1) := by decide +kernel
theorem dX9_in_7 : decode cX9_in 7 = .ok (.lload 4, 2) := by decide +kernel
theorem dX9_in_9 : decode cX9_in 9 = .ok (.lcmp, 1) := by decide +kernel
theorem dX9_in_10 : decode cX9_in 10 = .ok (.ifCond .gt 7, 3) := by decide +kernel
theorem dX9_in_13 : decode cX9_in 13 = .ok (.iconst 1, 1) := by decide +kernel
theorem dX9_in_14 : decode cX9_in 14 = .ok (.goto 4, 3) := by decide +kernel
theorem dX9_in_17 : decode cX9_in 17 = .ok (.iconst 0, 1) := by decide +kernel
theorem dX9_in_18 : decode cX9_in 18 = .ok (.ireturn, 1) := by decide +kernel
theorem dX9_no_0 : decode cX9_no 0 = .ok (.ldc2_w 94, 3) := by decide +kernel
theorem dX9_no_3 : decode cX9_no 3 = .ok (.iload_n 0, 1) := by decide +kernel
theorem dX9_no_4 : decode cX9_no 4 = .ok (.i2l, 1) := by decide +kernel
theorem dX9_no_5 : decode cX9_no 5 = .ok (.lsub, 1) := by decide +kernel
theorem dX9_no_6 : decode cX9_no 6 = .ok (.lreturn, 1) := by decide +kernel
theorem dX9_round_0 : decode cX9_round 0 = .ok (.iload_n 0, 1) := by decide +kernel
theorem dX9_round_1 : decode cX9_round 1 = .ok (.bipush 36, 2) := by decide +kernel
theorem dX9_round_3 : decode cX9_round 3 = .ok (.irem, 1) := by decide +kernel
theorem dX9_round_4 : decode cX9_round 4 = .ok (.istore_n 1, 1) := by decide +kernel
theorem dX9_round_5 : decode cX9_round 5 = .ok (.iload_n 1, 1) := by decide +kernel
theorem dX9_round_6 : decode cX9_round 6 = .ok (.ifCond .ge 10, 3) := by decide +kernel
theorem dX9_round_9 : decode cX9_round 9 = .ok (.iload_n 1, 1) := by decide +kernel
theorem dX9_round_10 : decode cX9_round 10 = .ok (.bipush 36, 2) := by decide +kernel
theorem dX9_round_12 : decode cX9_round 12 = .ok (.iadd, 1) := by decide +kernel
theorem dX9_round_13 : decode cX9_round 13 = .ok (.goto 4, 3) := by decide +kernel
theorem dX9_round_16 : decode cX9_round 16 = .ok (.iload_n 1, 1) := by decide +kernel
theorem dX9_round_17 : decode cX9_round 17 = .ok (.ireturn, 1) := by decide +kernel
theorem dX9_shortWay_0 : decode cX9_shortWay 0 = .ok (.iload_n 1, 1) := by decide +kernel
theorem dX9_shortWay_1 : decode cX9_shortWay 1 = .ok (.iload_n 0, 1) := by decide +kernel
theorem dX9_shortWay_2 : decode cX9_shortWay 2 = .ok (.isub, 1) := by decide +kernel
theorem dX9_shortWay_3 : decode cX9_shortWay 3 = .ok (.invokestatic 96, 3) := by decide +kernel
theorem dX9_shortWay_6 : decode cX9_shortWay 6 = .ok (.istore_n 2, 1) := by decide +kernel
theorem dX9_shortWay_7 : decode cX9_shortWay 7 = .ok (.iload_n 2, 1) := by decide +kernel
theorem dX9_shortWay_8 : decode cX9_shortWay 8 = .ok (.bipush 18, 2) := by decide +kernel
theorem dX9_shortWay_10 : decode cX9_shortWay 10 = .ok (.if_icmp .le 10, 3) := by decide +kernel
theorem dX9_shortWay_13 : decode cX9_shortWay 13 = .ok (.iload_n 2, 1) := by decide +kernel
theorem dX9_shortWay_14 : decode cX9_shortWay 14 = .ok (.bipush 36, 2) := by decide +kernel
theorem dX9_shortWay_16 : decode cX9_shortWay 16 = .ok (.isub, 1) := by decide +kernel
theorem dX9_shortWay_17 : decode cX9_shortWay 17 = .ok (.goto 4, 3) := by decide +kernel
theorem dX9_shortWay_20 : decode cX9_shortWay 20 = .ok (.iload_n 2, 1) := by decide +kernel
theorem dX9_shortWay_21 : decode cX9_shortWay 21 = .ok (.ireturn, 1) := by decide +kernel
theorem dX9_amount_0 : decode cX9_amount 0 = .ok (.iload_n 0, 1) := by decide +kernel
theorem dX9_amount_1 : decode cX9_amount 1 = .ok (.ifCond .ge 8, 3) := by decide +kernel
theorem dX9_amount_4 : decode cX9_amount 4 = .ok (.iload_n 0, 1) := by decide +kernel
theorem dX9_amount_5 : decode cX9_amount 5 = .ok (.ineg, 1) := by decide +kernel
theorem dX9_amount_6 : decode cX9_amount 6 = .ok (.goto 4, 3) := by decide +kernel
theorem dX9_amount_9 : decode cX9_amount 9 = .ok (.iload_n 0, 1) := by decide +kernel
theorem dX9_amount_10 : decode cX9_amount 10 = .ok (.ireturn, 1) := by decide +kernel
theorem dX9_isWithin_0 : decode cX9_isWithin 0 = .ok (.iload_n 2, 1) := by decide +kernel
theorem dX9_isWithin_1 : decode cX9_isWithin 1 = .ok (.aload_n 0, 1) := by decide +kernel
theorem dX9_isWithin_2 : decode cX9_isWithin 2 = .ok (.getfield 22, 3) := by decide +kernel
theorem dX9_isWithin_5 : decode cX9_isWithin 5 = .ok (.iload_n 1, 1) := by decide +kernel
theorem dX9_isWithin_6 : decode cX9_isWithin 6 = .ok (.iaload, 1) := by decide +kernel
theorem dX9_isWithin_7 : decode cX9_isWithin 7 = .ok (.isub, 1) := by decide +kernel
theorem dX9_isWithin_8 : decode cX9_isWithin 8 = .ok (.invokestatic 96, 3) := by decide +kernel
theorem dX9_isWithin_11 : decode cX9_isWithin 11 = .ok (.aload_n 0, 1) := by decide +kernel
theorem dX9_isWithin_12 : decode cX9_isWithin 12 = .ok (.getfield 25, 3) := by decide +kernel
theorem dX9_isWithin_15 : decode cX9_isWithin 15 = .ok (.iload_n 1, 1) := by decide +kernel
theorem dX9_isWithin_16 : decode cX9_isWithin 16 = .ok (.iaload, 1) := by decide +kernel
theorem dX9_isWithin_17 : decode cX9_isWithin 17 = .ok (.if_icmp .gt 7, 3) := by decide +kernel
theorem dX9_isWithin_20 : decode cX9_isWithin 20 = .ok (.iconst 1, 1) := by decide +kernel
theorem dX9_isWithin_21 : decode cX9_isWithin 21 = .ok (.goto 4, 3) := by decide +kernel
theorem dX9_isWithin_24 : decode cX9_isWithin 24 = .ok (.iconst 0, 1) := by decide +kernel
theorem dX9_isWithin_25 : decode cX9_isWithin 25 = .ok (.ireturn, 1) := by decide +kernel
theorem dX9_intoLimits_0 : decode cX9_intoLimits 0 = .ok (.aload_n 0, 1) := by decide +kernel
theorem dX9_intoLimits_1 : decode cX9_intoLimits 1 = .ok (.iload_n 1, 1) := by decide +kernel
theorem dX9_intoLimits_2 : decode cX9_intoLimits 2 = .ok (.iload_n 2, 1) := by decide +kernel
theorem dX9_intoLimits_3 : decode cX9_intoLimits 3 = .ok (.invokevirtual 100, 3) := by decide +kernel
theorem dX9_intoLimits_6 : decode cX9_intoLimits 6 = .ok (.ifCond .eq 5, 3) := by decide +kernel
theorem dX9_intoLimits_9 : decode cX9_intoLimits 9 = .ok (.iload_n 2, 1) := by decide +kernel
theorem dX9_intoLimits_10 : decode cX9_intoLimits 10 = .ok (.ireturn, 1) := by decide +kernel
theorem dX9_intoLimits_11 : decode cX9_intoLimits 11 = .ok (.aload_n 0, 1) := by decide +kernel
theorem dX9_intoLimits_12 : decode cX9_intoLimits 12 = .ok (.getfield 22, 3) := by decide +kernel
theorem dX9_intoLimits_15 : decode cX9_intoLimits 15 = .ok (.iload_n 1, 1) := by decide +kernel
theorem dX9_intoLimits_16 : decode cX9_intoLimits 16 = .ok (.iaload, 1) := by decide +kernel
theorem dX9_intoLimits_17 : decode cX9_intoLimits 17 = .ok (.aload_n 0, 1) := by decide +kernel
theorem dX9_intoLimits_18 : decode cX9_intoLimits 18 = .ok (.getfield 25, 3) := by decide +kernel
theorem dX9_intoLimits_21 : decode cX9_intoLimits 21 = .ok (.iload_n 1, 1) := by decide +kernel
theorem dX9_intoLimits_22 : decode cX9_intoLimits 22 = .ok (.iaload, 1) := by decide +kernel
theorem dX9_intoLimits_23 : decode cX9_intoLimits 23 = .ok (.iadd, 1) := by decide +kernel
theorem dX9_intoLimits_24 : decode cX9_intoLimits 24 = .ok (.invokestatic 96, 3) := by decide +kernel
theorem dX9_intoLimits_27 : decode cX9_intoLimits 27 = .ok (.istore_n 3, 1) := by decide +kernel
theorem dX9_intoLimits_28 : decode cX9_intoLimits 28 = .ok (.iload_n 2, 1) := by decide +kernel
theorem dX9_intoLimits_29 : decode cX9_intoLimits 29 = .ok (.iload_n 3, 1) := by decide +kernel
theorem dX9_intoLimits_30 : decode cX9_intoLimits 30 = .ok (.invokestatic 104, 3) := by decide +kernel
theorem dX9_intoLimits_33 : decode cX9_intoLimits 33 = .ok (.invokestatic 108, 3) := by decide +kernel
theorem dX9_intoLimits_36 : decode cX9_intoLimits 36 = .ok (.iload_n 2, 1) := by decide +kernel
theorem dX9_intoLimits_37 : decode cX9_intoLimits 37 = .ok (.aload_n 0, 1) := by decide +kernel
theorem dX9_intoLimits_38 : decode cX9_intoLimits 38 = .ok (.getfield 22, 3) := by decide +kernel
theorem dX9_intoLimits_41 : decode cX9_intoLimits 41 = .ok (.iload_n 1, 1) := by decide +kernel
theorem dX9_intoLimits_42 : decode cX9_intoLimits 42 = .ok (.iaload, 1) := by decide +kernel
theorem dX9_intoLimits_43 : decode cX9_intoLimits 43 = .ok (.invokestatic 104, 3) := by decide +kernel
theorem dX9_intoLimits_46 : decode cX9_intoLimits 46 = .ok (.invokestatic 108, 3) := by decide +kernel
theorem dX9_intoLimits_49 : decode cX9_intoLimits 49 = .ok (.if_icmp .ge 7, 3) := by decide +kernel
theorem dX9_intoLimits_52 : decode cX9_intoLimits 52 = .ok (.iload_n 3, 1) := by decide +kernel
theorem dX9_intoLimits_53 : decode cX9_intoLimits 53 = .ok (.goto 9, 3) := by decide +kernel
theorem dX9_intoLimits_56 : decode cX9_intoLimits 56 = .ok (.aload_n 0, 1) := by decide +kernel
theorem dX9_intoLimits_57 : decode cX9_intoLimits 57 = .ok (.getfield 22, 3) := by decide +kernel
theorem dX9_intoLimits_60 : decode cX9_intoLimits 60 = .ok (.iload_n 1, 1) := by decide +kernel
theorem dX9_intoLimits_61 : decode cX9_intoLimits 61 = .ok (.iaload, 1) := by decide +kernel
theorem dX9_intoLimits_62 : decode cX9_intoLimits 62 = .ok (.ireturn, 1) := by decide +kernel
theorem dX9_isBone_0 : decode cX9_isBone 0 = .ok (.iload_n 1, 1) := by decide +kernel
theorem dX9_isBone_1 : decode cX9_isBone 1 = .ok (.i2l, 1) := by decide +kernel
theorem dX9_isBone_2 : decode cX9_isBone 2 = .ok (.lconst 0, 1) := by decide +kernel
theorem dX9_isBone_3 : decode cX9_isBone 3 = .ok (.aload_n 0, 1) := by decide +kernel
theorem dX9_isBone_4 : decode cX9_isBone 4 = .ok (.getfield 111, 3) := by decide +kernel
theorem dX9_isBone_7 : decode cX9_isBone 7 = .ok (.iconst 1, 1) := by decide +kernel
theorem dX9_isBone_8 : decode cX9_isBone 8 = .ok (.isub, 1) := by decide +kernel
theorem dX9_isBone_9 : decode cX9_isBone 9 = .ok (.i2l, 1) := by decide +kernel
theorem dX9_isBone_10 : decode cX9_isBone 10 = .ok (.invokestatic 114, 3) := by decide +kernel
theorem dX9_isBone_13 : decode cX9_isBone 13 = .ok (.ireturn, 1) := by decide +kernel
theorem dX9_isPlace_0 : decode cX9_isPlace 0 = .ok (.lload_n 0, 1) := by decide +kernel
theorem dX9_isPlace_1 : decode cX9_isPlace 1 = .ok (.ldc2_w 118, 3) := by decide +kernel
theorem dX9_isPlace_4 : decode cX9_isPlace 4 = .ok (.ldc2_w 120, 3) := by decide +kernel
theorem dX9_isPlace_7 : decode cX9_isPlace 7 = .ok (.invokestatic 114, 3) := by decide +kernel
theorem dX9_isPlace_10 : decode cX9_isPlace 10 = .ok (.ifCond .eq 20, 3) := by decide +kernel
theorem dX9_isPlace_13 : decode cX9_isPlace 13 = .ok (.lload_n 2, 1) := by decide +kernel
theorem dX9_isPlace_14 : decode cX9_isPlace 14 = .ok (.ldc2_w 118, 3) := by decide +kernel
theorem dX9_isPlace_17 : decode cX9_isPlace 17 = .ok (.ldc2_w 120, 3) := by decide +kernel
theorem dX9_isPlace_20 : decode cX9_isPlace 20 = .ok (.invokestatic 114, 3) := by decide +kernel
theorem dX9_isPlace_23 : decode cX9_isPlace 23 = .ok (.ifCond .eq 7, 3) := by decide +kernel
theorem dX9_isPlace_26 : decode cX9_isPlace 26 = .ok (.iconst 1, 1) := by decide +kernel
theorem dX9_isPlace_27 : decode cX9_isPlace 27 = .ok (.goto 4, 3) := by decide +kernel
theorem dX9_isPlace_30 : decode cX9_isPlace 30 = .ok (.iconst 0, 1) := by decide +kernel
theorem dX9_isPlace_31 : decode cX9_isPlace 31 = .ok (.ireturn, 1) := by decide +kernel
theorem dX9_frames_0 : decode cX9_frames 0 = .ok (.iconst 0, 1) := by decide +kernel
theorem dX9_frames_1 : decode cX9_frames 1 = .ok (.istore_n 1, 1) := by decide +kernel
theorem dX9_frames_2 : decode cX9_frames 2 = .ok (.iconst 0, 1) := by decide +kernel
theorem dX9_frames_3 : decode cX9_frames 3 = .ok (.istore_n 2, 1) := by decide +kernel
theorem dX9_frames_4 : decode cX9_frames 4 = .ok (.iload_n 2, 1) := by decide +kernel
theorem dX9_frames_5 : decode cX9_frames 5 = .ok (.bipush 6, 2) := by decide +kernel
theorem dX9_frames_7 : decode cX9_frames 7 = .ok (.if_icmp .ge 18, 3) := by decide +kernel
theorem dX9_frames_10 : decode cX9_frames 10 = .ok (.iload_n 1, 1) := by decide +kernel
theorem dX9_frames_11 : decode cX9_frames 11 = .ok (.aload_n 0, 1) := by decide +kernel
theorem dX9_frames_12 : decode cX9_frames 12 = .ok (.getfield 51, 3) := by decide +kernel
theorem dX9_frames_15 : decode cX9_frames 15 = .ok (.iload_n 2, 1) := by decide +kernel
theorem dX9_frames_16 : decode cX9_frames 16 = .ok (.iaload, 1) := by decide +kernel
theorem dX9_frames_17 : decode cX9_frames 17 = .ok (.iadd, 1) := by decide +kernel
theorem dX9_frames_18 : decode cX9_frames 18 = .ok (.istore_n 1, 1) := by decide +kernel
theorem dX9_frames_19 : decode cX9_frames 19 = .ok (.iinc 2 1, 3) := by decide +kernel
theorem dX9_frames_22 : decode cX9_frames 22 = .ok (.goto (-18), 3) := by decide +kernel
theorem dX9_frames_25 : decode cX9_frames 25 = .ok (.iload_n 1, 1) := by decide +kernel
theorem dX9_frames_26 : decode cX9_frames 26 = .ok (.ireturn, 1) := by decide +kernel
theorem dX9_bone_0 : decode cX9_bone 0 = .ok (.iload_n 1, 1) := by decide +kernel
theorem dX9_bone_1 : decode cX9_bone 1 = .ok (.i2l, 1) := by decide +kernel
theorem dX9_bone_2 : decode cX9_bone 2 = .ok (.ldc2_w 122, 3) := by decide +kernel
theorem dX9_bone_5 : decode cX9_bone 5 = .ok (.aload_n 0, 1) := by decide +kernel
theorem dX9_bone_6 : decode cX9_bone 6 = .ok (.getfield 111, 3) := by decide +kernel
theorem dX9_bone_9 : decode cX9_bone 9 = .ok (.iconst 1, 1) := by decide +kernel
theorem dX9_bone_10 : decode cX9_bone 10 = .ok (.isub, 1) := by decide +kernel
theorem dX9_bone_11 : decode cX9_bone 11 = .ok (.i2l, 1) := by decide +kernel
theorem dX9_bone_12 : decode cX9_bone 12 = .ok (.invokestatic 114, 3) := by decide +kernel
theorem dX9_bone_15 : decode cX9_bone 15 = .ok (.ifCond .eq 44, 3) := by decide +kernel
theorem dX9_bone_18 : decode cX9_bone 18 = .ok (.iload_n 2, 1) := by decide +kernel
theorem dX9_bone_19 : decode cX9_bone 19 = .ok (.i2l, 1) := by decide +kernel
theorem dX9_bone_20 : decode cX9_bone 20 = .ok (.lconst 1, 1) := by decide +kernel
theorem dX9_bone_21 : decode cX9_bone 21 = .ok (.ldc2_w 124, 3) := by decide +kernel
theorem dX9_bone_24 : decode cX9_bone 24 = .ok (.invokestatic 114, 3) := by decide +kernel
theorem dX9_bone_27 : decode cX9_bone 27 = .ok (.ifCond .eq 32, 3) := by decide +kernel
theorem dX9_bone_30 : decode cX9_bone 30 = .ok (.iload_n 3, 1) := by decide +kernel
theorem dX9_bone_31 : decode cX9_bone 31 = .ok (.i2l, 1) := by decide +kernel
theorem dX9_bone_32 : decode cX9_bone 32 = .ok (.lconst 0, 1) := by decide +kernel
theorem dX9_bone_33 : decode cX9_bone 33 = .ok (.ldc2_w 126, 3) := by decide +kernel
theorem dX9_bone_36 : decode cX9_bone 36 = .ok (.invokestatic 114, 3) := by decide +kernel
theorem dX9_bone_39 : decode cX9_bone 39 = .ok (.ifCond .eq 20, 3) := by decide +kernel
theorem dX9_bone_42 : decode cX9_bone 42 = .ok (.iload 4, 2) := by decide +kernel
theorem dX9_bone_44 : decode cX9_bone 44 = .ok (.i2l, 1) := by decide +kernel
theorem dX9_bone_45 : decode cX9_bone 45 = .ok (.lconst 0, 1) := by decide +kernel
theorem dX9_bone_46 : decode cX9_bone 46 = .ok (.ldc2_w 126, 3) := by decide +kernel
theorem dX9_bone_49 : decode cX9_bone 49 = .ok (.invokestatic 114, 3) := by decide +kernel
theorem dX9_bone_52 : decode cX9_bone 52 = .ok (.ifCond .eq 7, 3) := by decide +kernel
theorem dX9_bone_55 : decode cX9_bone 55 = .ok (.iconst 1, 1) := by decide +kernel
theorem dX9_bone_56 : decode cX9_bone 56 = .ok (.goto 4, 3) := by decide +kernel
theorem dX9_bone_59 : decode cX9_bone 59 = .ok (.iconst 0, 1) := by decide +kernel
theorem dX9_bone_60 : decode cX9_bone 60 = .ok (.istore 5, 2) := by decide +kernel
theorem dX9_bone_62 : decode cX9_bone 62 = .ok (.iload 5, 2) := by decide +kernel
theorem dX9_bone_64 : decode cX9_bone 64 = .ok (.ifCond .eq 18, 3) := by decide +kernel
theorem dX9_bone_67 : decode cX9_bone 67 = .ok (.iload_n 1, 1) := by decide +kernel
theorem dX9_bone_68 : decode cX9_bone 68 = .ok (.iconst (-1), 1) := by decide +kernel
theorem dX9_bone_69 : decode cX9_bone 69 = .ok (.if_icmp .eq 16, 3) := by decide +kernel
theorem dX9_bone_72 : decode cX9_bone 72 = .ok (.aload_n 0, 1) := by decide +kernel
theorem dX9_bone_73 : decode cX9_bone 73 = .ok (.getfield 28, 3) := by decide +kernel
theorem dX9_bone_76 : decode cX9_bone 76 = .ok (.iload_n 1, 1) := by decide +kernel
theorem dX9_bone_77 : decode cX9_bone 77 = .ok (.iaload, 1) := by decide +kernel
theorem dX9_bone_78 : decode cX9_bone 78 = .ok (.iconst 5, 1) := by decide +kernel
theorem dX9_bone_79 : decode cX9_bone 79 = .ok (.if_icmp .ne 6, 3) := by decide +kernel
theorem dX9_bone_82 : decode cX9_bone 82 = .ok (.bipush (-2), 2) := by decide +kernel
theorem dX9_bone_84 : decode cX9_bone 84 = .ok (.ireturn, 1) := by decide +kernel
theorem dX9_bone_85 : decode cX9_bone 85 = .ok (.aload_n 0, 1) := by decide +kernel
theorem dX9_bone_86 : decode cX9_bone 86 = .ok (.invokevirtual 128, 3) := by decide +kernel
theorem dX9_bone_89 : decode cX9_bone 89 = .ok (.ifCond .le 6, 3) := by decide +kernel
theorem dX9_bone_92 : decode cX9_bone 92 = .ok (.bipush (-3), 2) := by decide +kernel
theorem dX9_bone_94 : decode cX9_bone 94 = .ok (.ireturn, 1) := by decide +kernel
theorem dX9_bone_95 : decode cX9_bone 95 = .ok (.aload_n 0, 1) := by decide +kernel
theorem dX9_bone_96 : decode cX9_bone 96 = .ok (.getfield 111, 3) := by decide +kernel
theorem dX9_bone_99 : decode cX9_bone 99 = .ok (.bipush 10, 2) := by decide +kernel
theorem dX9_bone_101 : decode cX9_bone 101 = .ok (.if_icmp .ne 6, 3) := by decide +kernel
theorem dX9_bone_104 : decode cX9_bone 104 = .ok (.bipush (-4), 2) := by decide +kernel
theorem dX9_bone_106 : decode cX9_bone 106 = .ok (.ireturn, 1) := by decide +kernel
theorem dX9_bone_107 : decode cX9_bone 107 = .ok (.aload_n 0, 1) := by decide +kernel
theorem dX9_bone_108 : decode cX9_bone 108 = .ok (.getfield 16, 3) := by decide +kernel
theorem dX9_bone_111 : decode cX9_bone 111 = .ok (.aload_n 0, 1) := by decide +kernel
theorem dX9_bone_112 : decode cX9_bone 112 = .ok (.getfield 111, 3) := by decide +kernel
theorem dX9_bone_115 : decode cX9_bone 115 = .ok (.iload_n 1, 1) := by decide +kernel
theorem dX9_bone_116 : decode cX9_bone 116 = .ok (.iastore, 1) := by decide +kernel
theorem dX9_bone_117 : decode cX9_bone 117 = .ok (.aload_n 0, 1) := by decide +kernel
theorem dX9_bone_118 : decode cX9_bone 118 = .ok (.getfield 19, 3) := by decide +kernel
theorem dX9_bone_121 : decode cX9_bone 121 = .ok (.aload_n 0, 1) := by decide +kernel
theorem dX9_bone_122 : decode cX9_bone 122 = .ok (.getfield 111, 3) := by decide +kernel
theorem dX9_bone_125 : decode cX9_bone 125 = .ok (.iload_n 2, 1) := by decide +kernel
theorem dX9_bone_126 : decode cX9_bone 126 = .ok (.iastore, 1) := by decide +kernel
theorem dX9_bone_127 : decode cX9_bone 127 = .ok (.aload_n 0, 1) := by decide +kernel
theorem dX9_bone_128 : decode cX9_bone 128 = .ok (.getfield 22, 3) := by decide +kernel
theorem dX9_bone_131 : decode cX9_bone 131 = .ok (.aload_n 0, 1) := by decide +kernel
theorem dX9_bone_132 : decode cX9_bone 132 = .ok (.getfield 111, 3) := by decide +kernel
theorem dX9_bone_135 : decode cX9_bone 135 = .ok (.iload_n 3, 1) := by decide +kernel
theorem dX9_bone_136 : decode cX9_bone 136 = .ok (.iastore, 1) := by decide +kernel
theorem dX9_bone_137 : decode cX9_bone 137 = .ok (.aload_n 0, 1) := by decide +kernel
theorem dX9_bone_138 : decode cX9_bone 138 = .ok (.getfield 25, 3) := by decide +kernel
theorem dX9_bone_141 : decode cX9_bone 141 = .ok (.aload_n 0, 1) := by decide +kernel
theorem dX9_bone_142 : decode cX9_bone 142 = .ok (.getfield 111, 3) := by decide +kernel
theorem dX9_bone_145 : decode cX9_bone 145 = .ok (.iload 4, 2) := by decide +kernel
theorem dX9_bone_147 : decode cX9_bone 147 = .ok (.iastore, 1) := by decide +kernel
theorem dX9_bone_148 : decode cX9_bone 148 = .ok (.aload_n 0, 1) := by decide +kernel
theorem dX9_bone_149 : decode cX9_bone 149 = .ok (.getfield 28, 3) := by decide +kernel
theorem dX9_bone_152 : decode cX9_bone 152 = .ok (.aload_n 0, 1) := by decide +kernel
theorem dX9_bone_153 : decode cX9_bone 153 = .ok (.getfield 111, 3) := by decide +kernel
theorem dX9_bone_156 : decode cX9_bone 156 = .ok (.iload_n 1, 1) := by decide +kernel
theorem dX9_bone_157 : decode cX9_bone 157 = .ok (.iconst (-1), 1) := by decide +kernel
theorem dX9_bone_158 : decode cX9_bone 158 = .ok (.if_icmp .ne 7, 3) := by decide +kernel
theorem dX9_bone_161 : decode cX9_bone 161 = .ok (.iconst 1, 1) := by decide +kernel
theorem dX9_bone_162 : decode cX9_bone 162 = .ok (.goto 11, 3) := by decide +kernel
theorem dX9_bone_165 : decode cX9_bone 165 = .ok (.aload_n 0, 1) := by decide +kernel
theorem dX9_bone_166 : decode cX9_bone 166 = .ok (.getfield 28, 3) := by decide +kernel
theorem dX9_bone_169 : decode cX9_bone 169 = .ok (.iload_n 1, 1) := by decide +kernel
theorem dX9_bone_170 : decode cX9_bone 170 = .ok (.iaload, 1) := by decide +kernel
theorem dX9_bone_171 : decode cX9_bone 171 = .ok (.iconst 1, 1) := by decide +kernel
theorem dX9_bone_172 : decode cX9_bone 172 = .ok (.iadd, 1) := by decide +kernel
theorem dX9_bone_173 : decode cX9_bone 173 = .ok (.iastore, 1) := by decide +kernel
theorem dX9_bone_174 : decode cX9_bone 174 = .ok (.aload_n 0, 1) := by decide +kernel
theorem dX9_bone_175 : decode cX9_bone 175 = .ok (.getfield 31, 3) := by decide +kernel
theorem dX9_bone_178 : decode cX9_bone 178 = .ok (.aload_n 0, 1) := by decide +kernel
theorem dX9_bone_179 : decode cX9_bone 179 = .ok (.getfield 111, 3) := by decide +kernel
theorem dX9_bone_182 : decode cX9_bone 182 = .ok (.iload_n 3, 1) := by decide +kernel
theorem dX9_bone_183 : decode cX9_bone 183 = .ok (.iastore, 1) := by decide +kernel
theorem dX9_bone_184 : decode cX9_bone 184 = .ok (.aload_n 0, 1) := by decide +kernel
theorem dX9_bone_185 : decode cX9_bone 185 = .ok (.dup, 1) := by decide +kernel
theorem dX9_bone_186 : decode cX9_bone 186 = .ok (.getfield 111, 3) := by decide +kernel
theorem dX9_bone_189 : decode cX9_bone 189 = .ok (.iconst 1, 1) := by decide +kernel
theorem dX9_bone_190 : decode cX9_bone 190 = .ok (.iadd, 1) := by decide +kernel
theorem dX9_bone_191 : decode cX9_bone 191 = .ok (.putfield 111, 3) := by decide +kernel
theorem dX9_bone_194 : decode cX9_bone 194 = .ok (.aload_n 0, 1) := by decide +kernel
theorem dX9_bone_195 : decode cX9_bone 195 = .ok (.getfield 111, 3) := by decide +kernel
theorem dX9_bone_198 : decode cX9_bone 198 = .ok (.iconst 1, 1) := by decide +kernel
theorem dX9_bone_199 : decode cX9_bone 199 = .ok (.isub, 1) := by decide +kernel
theorem dX9_bone_200 : decode cX9_bone 200 = .ok (.ireturn, 1) := by decide +kernel
theorem dX9_about_0 : decode cX9_about 0 = .ok (.aload_n 0, 1) := by decide +kernel
theorem dX9_about_1 : decode cX9_about 1 = .ok (.iload_n 1, 1) := by decide +kernel
theorem dX9_about_2 : decode cX9_about 2 = .ok (.invokevirtual 132, 3) := by decide +kernel
theorem dX9_about_5 : decode cX9_about 5 = .ok (.ifCond .ne 6, 3) := by decide +kernel
theorem dX9_about_8 : decode cX9_about 8 = .ok (.bipush (-2), 2) := by decide +kernel
theorem dX9_about_10 : decode cX9_about 10 = .ok (.ireturn, 1) := by decide +kernel
theorem dX9_about_11 : decode cX9_about 11 = .ok (.iload_n 2, 1) := by decide +kernel
theorem dX9_about_12 : decode cX9_about 12 = .ok (.tableswitch 71 0 4 #[36, 43, 50, 57, 64], 36) := by decide +kernel
theorem dX9_about_48 : decode cX9_about 48 = .ok (.aload_n 0, 1) := by decide +kernel
theorem dX9_about_49 : decode cX9_about 49 = .ok (.getfield 16, 3) := by decide +kernel
theorem dX9_about_52 : decode cX9_about 52 = .ok (.iload_n 1, 1) := by decide +kernel
theorem dX9_about_53 : decode cX9_about 53 = .ok (.iaload, 1) := by decide +kernel
theorem dX9_about_54 : decode cX9_about 54 = .ok (.ireturn, 1) := by decide +kernel
theorem dX9_about_55 : decode cX9_about 55 = .ok (.aload_n 0, 1) := by decide +kernel
theorem dX9_about_56 : decode cX9_about 56 = .ok (.getfield 19, 3) := by decide +kernel
theorem dX9_about_59 : decode cX9_about 59 = .ok (.iload_n 1, 1) := by decide +kernel
theorem dX9_about_60 : decode cX9_about 60 = .ok (.iaload, 1) := by decide +kernel
theorem dX9_about_61 : decode cX9_about 61 = .ok (.ireturn, 1) := by decide +kernel
theorem dX9_about_62 : decode cX9_about 62 = .ok (.aload_n 0, 1) := by decide +kernel
theorem dX9_about_63 : decode cX9_about 63 = .ok (.getfield 22, 3) := by decide +kernel
theorem dX9_about_66 : decode cX9_about 66 = .ok (.iload_n 1, 1) := by decide +kernel
theorem dX9_about_67 : decode cX9_about 67 = .ok (.iaload, 1) := by decide +kernel
theorem dX9_about_68 : decode cX9_about 68 = .ok (.ireturn, 1) := by decide +kernel
theorem dX9_about_69 : decode cX9_about 69 = .ok (.aload_n 0, 1) := by decide +kernel
theorem dX9_about_70 : decode cX9_about 70 = .ok (.getfield 25, 3) := by decide +kernel
theorem dX9_about_73 : decode cX9_about 73 = .ok (.iload_n 1, 1) := by decide +kernel
theorem dX9_about_74 : decode cX9_about 74 = .ok (.iaload, 1) := by decide +kernel
theorem dX9_about_75 : decode cX9_about 75 = .ok (.ireturn, 1) := by decide +kernel
theorem dX9_about_76 : decode cX9_about 76 = .ok (.aload_n 0, 1) := by decide +kernel
theorem dX9_about_77 : decode cX9_about 77 = .ok (.getfield 31, 3) := by decide +kernel
theorem dX9_about_80 : decode cX9_about 80 = .ok (.iload_n 1, 1) := by decide +kernel
theorem dX9_about_81 : decode cX9_about 81 = .ok (.iaload, 1) := by decide +kernel
theorem dX9_about_82 : decode cX9_about 82 = .ok (.ireturn, 1) := by decide +kernel
theorem dX9_about_83 : decode cX9_about 83 = .ok (.bipush (-2), 2) := by decide +kernel
theorem dX9_about_85 : decode cX9_about 85 = .ok (.ireturn, 1) := by decide +kernel
theorem dX9_place_0 : decode cX9_place 0 = .ok (.iconst 0, 1) := by decide +kernel
theorem dX9_place_1 : decode cX9_place 1 = .ok (.istore_n 1, 1) := by decide +kernel
theorem dX9_place_2 : decode cX9_place 2 = .ok (.iload_n 1, 1) := by decide +kernel
theorem dX9_place_3 : decode cX9_place 3 = .ok (.aload_n 0, 1) := by decide +kernel
theorem dX9_place_4 : decode cX9_place 4 = .ok (.getfield 111, 3) := by decide +kernel
theorem dX9_place_7 : decode cX9_place 7 = .ok (.if_icmp .ge 197, 3) := by decide +kernel
theorem dX9_place_10 : decode cX9_place 10 = .ok (.aload_n 0, 1) := by decide +kernel
theorem dX9_place_11 : decode cX9_place 11 = .ok (.getfield 16, 3) := by decide +kernel
theorem dX9_place_14 : decode cX9_place 14 = .ok (.iload_n 1, 1) := by decide +kernel
theorem dX9_place_15 : decode cX9_place 15 = .ok (.iaload, 1) := by decide +kernel
theorem dX9_place_16 : decode cX9_place 16 = .ok (.istore_n 2, 1) := by decide +kernel
theorem dX9_place_17 : decode cX9_place 17 = .ok (.iload_n 2, 1) := by decide +kernel
theorem dX9_place_18 : decode cX9_place 18 = .ok (.iconst (-1), 1) := by decide +kernel
theorem dX9_place_19 : decode cX9_place 19 = .ok (.if_icmp .ne 9, 3) := by decide +kernel
theorem dX9_place_22 : decode cX9_place 22 = .ok (.ldc2_w 136, 3) := by decide +kernel
theorem dX9_place_25 : decode cX9_place 25 = .ok (.goto 9, 3) := by decide +kernel
theorem dX9_place_28 : decode cX9_place 28 = .ok (.aload_n 0, 1) := by decide +kernel
theorem dX9_place_29 : decode cX9_place 29 = .ok (.getfield 38, 3) := by decide +kernel
theorem dX9_place_32 : decode cX9_place 32 = .ok (.iload_n 2, 1) := by decide +kernel
theorem dX9_place_33 : decode cX9_place 33 = .ok (.laload, 1) := by decide +kernel
theorem dX9_place_34 : decode cX9_place 34 = .ok (.lstore_n 3, 1) := by decide +kernel
theorem dX9_place_35 : decode cX9_place 35 = .ok (.iload_n 2, 1) := by decide +kernel
theorem dX9_place_36 : decode cX9_place 36 = .ok (.iconst (-1), 1) := by decide +kernel
theorem dX9_place_37 : decode cX9_place 37 = .ok (.if_icmp .ne 7, 3) := by decide +kernel
theorem dX9_place_40 : decode cX9_place 40 = .ok (.lconst 0, 1) := by decide +kernel
theorem dX9_place_41 : decode cX9_place 41 = .ok (.goto 9, 3) := by decide +kernel
theorem dX9_place_44 : decode cX9_place 44 = .ok (.aload_n 0, 1) := by decide +kernel
theorem dX9_place_45 : decode cX9_place 45 = .ok (.getfield 42, 3) := by decide +kernel
theorem dX9_place_48 : decode cX9_place 48 = .ok (.iload_n 2, 1) := by decide +kernel
theorem dX9_place_49 : decode cX9_place 49 = .ok (.laload, 1) := by decide +kernel
theorem dX9_place_50 : decode cX9_place 50 = .ok (.lstore 5, 2) := by decide +kernel
theorem dX9_place_52 : decode cX9_place 52 = .ok (.aload_n 0, 1) := by decide +kernel
theorem dX9_place_53 : decode cX9_place 53 = .ok (.getfield 7, 3) := by decide +kernel
theorem dX9_place_56 : decode cX9_place 56 = .ok (.aload_n 0, 1) := by decide +kernel
theorem dX9_place_57 : decode cX9_place 57 = .ok (.getfield 31, 3) := by decide +kernel
theorem dX9_place_60 : decode cX9_place 60 = .ok (.iload_n 1, 1) := by decide +kernel
theorem dX9_place_61 : decode cX9_place 61 = .ok (.iaload, 1) := by decide +kernel
theorem dX9_place_62 : decode cX9_place 62 = .ok (.iaload, 1) := by decide +kernel
theorem dX9_place_63 : decode cX9_place 63 = .ok (.i2l, 1) := by decide +kernel
theorem dX9_place_64 : decode cX9_place 64 = .ok (.lstore 7, 2) := by decide +kernel
theorem dX9_place_66 : decode cX9_place 66 = .ok (.aload_n 0, 1) := by decide +kernel
theorem dX9_place_67 : decode cX9_place 67 = .ok (.getfield 13, 3) := by decide +kernel
theorem dX9_place_70 : decode cX9_place 70 = .ok (.aload_n 0, 1) := by decide +kernel
theorem dX9_place_71 : decode cX9_place 71 = .ok (.getfield 31, 3) := by decide +kernel
theorem dX9_place_74 : decode cX9_place 74 = .ok (.iload_n 1, 1) := by decide +kernel
theorem dX9_place_75 : decode cX9_place 75 = .ok (.iaload, 1) := by decide +kernel
theorem dX9_place_76 : decode cX9_place 76 = .ok (.iaload, 1) := by decide +kernel
theorem dX9_place_77 : decode cX9_place 77 = .ok (.i2l, 1) := by decide +kernel
theorem dX9_place_78 : decode cX9_place 78 = .ok (.lstore 9, 2) := by decide +kernel
theorem dX9_place_80 : decode cX9_place 80 = .ok (.aload_n 0, 1) := by decide +kernel
theorem dX9_place_81 : decode cX9_place 81 = .ok (.getfield 38, 3) := by decide +kernel
theorem dX9_place_84 : decode cX9_place 84 = .ok (.iload_n 1, 1) := by decide +kernel
theorem dX9_place_85 : decode cX9_place 85 = .ok (.lload_n 3, 1) := by decide +kernel
theorem dX9_place_86 : decode cX9_place 86 = .ok (.lload 7, 2) := by decide +kernel
theorem dX9_place_88 : decode cX9_place 88 = .ok (.lmul, 1) := by decide +kernel
theorem dX9_place_89 : decode cX9_place 89 = .ok (.lload 5, 2) := by decide +kernel
theorem dX9_place_91 : decode cX9_place 91 = .ok (.lload 9, 2) := by decide +kernel
theorem dX9_place_93 : decode cX9_place 93 = .ok (.lmul, 1) := by decide +kernel
theorem dX9_place_94 : decode cX9_place 94 = .ok (.lsub, 1) := by decide +kernel
theorem dX9_place_95 : decode cX9_place 95 = .ok (.ldc2_w 138, 3) := by decide +kernel
theorem dX9_place_98 : decode cX9_place 98 = .ok (.ldiv, 1) := by decide +kernel
theorem dX9_place_99 : decode cX9_place 99 = .ok (.lastore, 1) := by decide +kernel
theorem dX9_place_100 : decode cX9_place 100 = .ok (.aload_n 0, 1) := by decide +kernel
theorem dX9_place_101 : decode cX9_place 101 = .ok (.getfield 42, 3) := by decide +kernel
theorem dX9_place_104 : decode cX9_place 104 = .ok (.iload_n 1, 1) := by decide +kernel
theorem dX9_place_105 : decode cX9_place 105 = .ok (.lload_n 3, 1) := by decide +kernel
theorem dX9_place_106 : decode cX9_place 106 = .ok (.lload 9, 2) := by decide +kernel
theorem dX9_place_108 : decode cX9_place 108 = .ok (.lmul, 1) := by decide +kernel
theorem dX9_place_109 : decode cX9_place 109 = .ok (.lload 5, 2) := by decide +kernel
theorem dX9_place_111 : decode cX9_place 111 = .ok (.lload 7, 2) := by decide +kernel
theorem dX9_place_113 : decode cX9_place 113 = .ok (.lmul, 1) := by decide +kernel
theorem dX9_place_114 : decode cX9_place 114 = .ok (.ladd, 1) := by decide +kernel
theorem dX9_place_115 : decode cX9_place 115 = .ok (.ldc2_w 138, 3) := by decide +kernel
theorem dX9_place_118 : decode cX9_place 118 = .ok (.ldiv, 1) := by decide +kernel
theorem dX9_place_119 : decode cX9_place 119 = .ok (.lastore, 1) := by decide +kernel
theorem dX9_place_120 : decode cX9_place 120 = .ok (.aload_n 0, 1) := by decide +kernel
theorem dX9_place_121 : decode cX9_place 121 = .ok (.getfield 45, 3) := by decide +kernel
theorem dX9_place_124 : decode cX9_place 124 = .ok (.iload_n 1, 1) := by decide +kernel
theorem dX9_place_125 : decode cX9_place 125 = .ok (.iload_n 2, 1) := by decide +kernel
theorem dX9_place_126 : decode cX9_place 126 = .ok (.iconst (-1), 1) := by decide +kernel
theorem dX9_place_127 : decode cX9_place 127 = .ok (.if_icmp .ne 10, 3) := by decide +kernel
theorem dX9_place_130 : decode cX9_place 130 = .ok (.aload_n 0, 1) := by decide +kernel
theorem dX9_place_131 : decode cX9_place 131 = .ok (.getfield 140, 3) := by decide +kernel
theorem dX9_place_134 : decode cX9_place 134 = .ok (.goto 9, 3) := by decide +kernel
theorem dX9_place_137 : decode cX9_place 137 = .ok (.aload_n 0, 1) := by decide +kernel
