theorem dX5_wrongItem_21 : decode cX5_wrongItem 21 = .ok (.lconst 0, 1) := by decide +kernel
theorem dX5_wrongItem_22 : decode cX5_wrongItem 22 = .ok (.aload_n 0, 1) := by decide +kernel
theorem dX5_wrongItem_23 : decode cX5_wrongItem 23 = .ok (.getfield 29, 3) := by decide +kernel
theorem dX5_wrongItem_26 : decode cX5_wrongItem 26 = .ok (.iconst 1, 1) := by decide +kernel
theorem dX5_wrongItem_27 : decode cX5_wrongItem 27 = .ok (.isub, 1) := by decide +kernel
theorem dX5_wrongItem_28 : decode cX5_wrongItem 28 = .ok (.i2l, 1) := by decide +kernel
theorem dX5_wrongItem_29 : decode cX5_wrongItem 29 = .ok (.invokestatic 32, 3) := by decide +kernel
theorem dX5_wrongItem_32 : decode cX5_wrongItem 32 = .ok (.ifCond .eq 7, 3) := by decide +kernel
theorem dX5_wrongItem_35 : decode cX5_wrongItem 35 = .ok (.iconst 0, 1) := by decide +kernel
theorem dX5_wrongItem_36 : decode cX5_wrongItem 36 = .ok (.goto 4, 3) := by decide +kernel
theorem dX5_wrongItem_39 : decode cX5_wrongItem 39 = .ok (.iconst 2, 1) := by decide +kernel
theorem dX5_wrongItem_40 : decode cX5_wrongItem 40 = .ok (.ireturn, 1) := by decide +kernel
theorem dX5_wrongPose_0 : decode cX5_wrongPose 0 = .ok (.aload_n 0, 1) := by decide +kernel
theorem dX5_wrongPose_1 : decode cX5_wrongPose 1 = .ok (.getfield 15, 3) := by decide +kernel
theorem dX5_wrongPose_4 : decode cX5_wrongPose 4 = .ok (.ifCond .eq 5, 3) := by decide +kernel
theorem dX5_wrongPose_7 : decode cX5_wrongPose 7 = .ok (.iconst 1, 1) := by decide +kernel
theorem dX5_wrongPose_8 : decode cX5_wrongPose 8 = .ok (.ireturn, 1) := by decide +kernel
theorem dX5_wrongPose_9 : decode cX5_wrongPose 9 = .ok (.aload_n 0, 1) := by decide +kernel
theorem dX5_wrongPose_10 : decode cX5_wrongPose 10 = .ok (.iload_n 1, 1) := by decide +kernel
theorem dX5_wrongPose_11 : decode cX5_wrongPose 11 = .ok (.iload_n 2, 1) := by decide +kernel
theorem dX5_wrongPose_12 : decode cX5_wrongPose 12 = .ok (.invokevirtual 36, 3) := by decide +kernel
theorem dX5_wrongPose_15 : decode cX5_wrongPose 15 = .ok (.ifCond .eq 7, 3) := by decide +kernel
theorem dX5_wrongPose_18 : decode cX5_wrongPose 18 = .ok (.iconst 0, 1) := by decide +kernel
theorem dX5_wrongPose_19 : decode cX5_wrongPose 19 = .ok (.goto 4, 3) := by decide +kernel
theorem dX5_wrongPose_22 : decode cX5_wrongPose 22 = .ok (.iconst 2, 1) := by decide +kernel
theorem dX5_wrongPose_23 : decode cX5_wrongPose 23 = .ok (.ireturn, 1) := by decide +kernel
theorem dX5_store_0 : decode cX5_store 0 = .ok (.aload_n 0, 1) := by decide +kernel
theorem dX5_store_1 : decode cX5_store 1 = .ok (.getfield 9, 3) := by decide +kernel
theorem dX5_store_4 : decode cX5_store 4 = .ok (.iload_n 1, 1) := by decide +kernel
theorem dX5_store_5 : decode cX5_store 5 = .ok (.aload_n 0, 1) := by decide +kernel
theorem dX5_store_6 : decode cX5_store 6 = .ok (.getfield 25, 3) := by decide +kernel
theorem dX5_store_9 : decode cX5_store 9 = .ok (.ifCond .ne 8, 3) := by decide +kernel
theorem dX5_store_12 : decode cX5_store 12 = .ok (.iload_n 2, 1) := by decide +kernel
theorem dX5_store_13 : decode cX5_store 13 = .ok (.i2b, 1) := by decide +kernel
theorem dX5_store_14 : decode cX5_store 14 = .ok (.goto 17, 3) := by decide +kernel
theorem dX5_store_17 : decode cX5_store 17 = .ok (.aload_n 0, 1) := by decide +kernel
theorem dX5_store_18 : decode cX5_store 18 = .ok (.getfield 25, 3) := by decide +kernel
theorem dX5_store_21 : decode cX5_store 21 = .ok (.iconst 1, 1) := by decide +kernel
theorem dX5_store_22 : decode cX5_store 22 = .ok (.if_icmp .ne 8, 3) := by decide +kernel
theorem dX5_store_25 : decode cX5_store 25 = .ok (.iload_n 2, 1) := by decide +kernel
theorem dX5_store_26 : decode cX5_store 26 = .ok (.i2s, 1) := by decide +kernel
theorem dX5_store_27 : decode cX5_store 27 = .ok (.goto 4, 3) := by decide +kernel
theorem dX5_store_30 : decode cX5_store 30 = .ok (.iload_n 2, 1) := by decide +kernel
theorem dX5_store_31 : decode cX5_store 31 = .ok (.iastore, 1) := by decide +kernel
theorem dX5_store_32 : decode cX5_store 32 = .ok (.return_, 1) := by decide +kernel
theorem dX6_init_0 : decode cX6_init 0 = .ok (.aload_n 0, 1) := by decide +kernel
theorem dX6_init_1 : decode cX6_init 1 = .ok (.invokespecial 3, 3) := by decide +kernel
theorem dX6_init_4 : decode cX6_init 4 = .ok (.aload_n 0, 1) := by decide +kernel
theorem dX6_init_5 : decode cX6_init 5 = .ok (.bipush 10, 2) := by decide +kernel
theorem dX6_init_7 : decode cX6_init 7 = .ok (.anewarray 9, 3) := by decide +kernel
theorem dX6_init_10 : decode cX6_init 10 = .ok (.putfield 11, 3) := by decide +kernel
theorem dX6_init_13 : decode cX6_init 13 = .ok (.aload_n 0, 1) := by decide +kernel
theorem dX6_init_14 : decode cX6_init 14 = .ok (.iconst (-1), 1) := by decide +kernel
theorem dX6_init_15 : decode cX6_init 15 = .ok (.putfield 17, 3) := by decide +kernel
theorem dX6_init_18 : decode cX6_init 18 = .ok (.return_, 1) := by decide +kernel
theorem dX6_find_0 : decode cX6_find 0 = .ok (.iload_n 1, 1) := by decide +kernel
theorem dX6_find_1 : decode cX6_find 1 = .ok (.i2l, 1) := by decide +kernel
theorem dX6_find_2 : decode cX6_find 2 = .ok (.lconst 0, 1) := by decide +kernel
theorem dX6_find_3 : decode cX6_find 3 = .ok (.aload_n 0, 1) := by decide +kernel
theorem dX6_find_4 : decode cX6_find 4 = .ok (.getfield 21, 3) := by decide +kernel
theorem dX6_find_7 : decode cX6_find 7 = .ok (.iconst 1, 1) := by decide +kernel
theorem dX6_find_8 : decode cX6_find 8 = .ok (.isub, 1) := by decide +kernel
theorem dX6_find_9 : decode cX6_find 9 = .ok (.i2l, 1) := by decide +kernel
theorem dX6_find_10 : decode cX6_find 10 = .ok (.invokestatic 24, 3) := by decide +kernel
theorem dX6_find_13 : decode cX6_find 13 = .ok (.ifCond .eq 12, 3) := by decide +kernel
theorem dX6_find_16 : decode cX6_find 16 = .ok (.aload_n 0, 1) := by decide +kernel
theorem dX6_find_17 : decode cX6_find 17 = .ok (.getfield 11, 3) := by decide +kernel
theorem dX6_find_20 : decode cX6_find 20 = .ok (.iload_n 1, 1) := by decide +kernel
theorem dX6_find_21 : decode cX6_find 21 = .ok (.aaload, 1) := by decide +kernel
theorem dX6_find_22 : decode cX6_find 22 = .ok (.goto 4, 3) := by decide +kernel
theorem dX6_find_25 : decode cX6_find 25 = .ok (.aconst_null, 1) := by decide +kernel
theorem dX6_find_26 : decode cX6_find 26 = .ok (.areturn, 1) := by decide +kernel
theorem dX6_grow_0 : decode cX6_grow 0 = .ok (.aload_n 0, 1) := by decide +kernel
theorem dX6_grow_1 : decode cX6_grow 1 = .ok (.getfield 11, 3) := by decide +kernel
theorem dX6_grow_4 : decode cX6_grow 4 = .ok (.aload_n 0, 1) := by decide +kernel
theorem dX6_grow_5 : decode cX6_grow 5 = .ok (.getfield 21, 3) := by decide +kernel
theorem dX6_grow_8 : decode cX6_grow 8 = .ok (.aload_n 1, 1) := by decide +kernel
theorem dX6_grow_9 : decode cX6_grow 9 = .ok (.aastore, 1) := by decide +kernel
theorem dX6_grow_10 : decode cX6_grow 10 = .ok (.aload_n 1, 1) := by decide +kernel
theorem dX6_grow_11 : decode cX6_grow 11 = .ok (.aload_n 0, 1) := by decide +kernel
theorem dX6_grow_12 : decode cX6_grow 12 = .ok (.getfield 28, 3) := by decide +kernel
theorem dX6_grow_15 : decode cX6_grow 15 = .ok (.aload_n 0, 1) := by decide +kernel
theorem dX6_grow_16 : decode cX6_grow 16 = .ok (.getfield 32, 3) := by decide +kernel
theorem dX6_grow_19 : decode cX6_grow 19 = .ok (.invokevirtual 35, 3) := by decide +kernel
theorem dX6_grow_22 : decode cX6_grow 22 = .ok (.aload_n 0, 1) := by decide +kernel
theorem dX6_grow_23 : decode cX6_grow 23 = .ok (.dup, 1) := by decide +kernel
theorem dX6_grow_24 : decode cX6_grow 24 = .ok (.getfield 21, 3) := by decide +kernel
theorem dX6_grow_27 : decode cX6_grow 27 = .ok (.iconst 1, 1) := by decide +kernel
theorem dX6_grow_28 : decode cX6_grow 28 = .ok (.iadd, 1) := by decide +kernel
theorem dX6_grow_29 : decode cX6_grow 29 = .ok (.putfield 21, 3) := by decide +kernel
theorem dX6_grow_32 : decode cX6_grow 32 = .ok (.aload_n 0, 1) := by decide +kernel
theorem dX6_grow_33 : decode cX6_grow 33 = .ok (.getfield 21, 3) := by decide +kernel
theorem dX6_grow_36 : decode cX6_grow 36 = .ok (.iconst 1, 1) := by decide +kernel
theorem dX6_grow_37 : decode cX6_grow 37 = .ok (.isub, 1) := by decide +kernel
theorem dX6_grow_38 : decode cX6_grow 38 = .ok (.ireturn, 1) := by decide +kernel
theorem dX6_moveRoot_0 : decode cX6_moveRoot 0 = .ok (.aload_n 0, 1) := by decide +kernel
theorem dX6_moveRoot_1 : decode cX6_moveRoot 1 = .ok (.lload_n 1, 1) := by decide +kernel
theorem dX6_moveRoot_2 : decode cX6_moveRoot 2 = .ok (.putfield 28, 3) := by decide +kernel
theorem dX6_moveRoot_5 : decode cX6_moveRoot 5 = .ok (.aload_n 0, 1) := by decide +kernel
theorem dX6_moveRoot_6 : decode cX6_moveRoot 6 = .ok (.lload_n 3, 1) := by decide +kernel
theorem dX6_moveRoot_7 : decode cX6_moveRoot 7 = .ok (.putfield 32, 3) := by decide +kernel
theorem dX6_moveRoot_10 : decode cX6_moveRoot 10 = .ok (.aload_n 0, 1) := by decide +kernel
theorem dX6_moveRoot_11 : decode cX6_moveRoot 11 = .ok (.invokevirtual 39, 3) := by decide +kernel
theorem dX6_moveRoot_14 : decode cX6_moveRoot 14 = .ok (.return_, 1) := by decide +kernel
theorem dX6_place_0 : decode cX6_place 0 = .ok (.iconst 0, 1) := by decide +kernel
theorem dX6_place_1 : decode cX6_place 1 = .ok (.istore_n 1, 1) := by decide +kernel
theorem dX6_place_2 : decode cX6_place 2 = .ok (.iload_n 1, 1) := by decide +kernel
theorem dX6_place_3 : decode cX6_place 3 = .ok (.aload_n 0, 1) := by decide +kernel
theorem dX6_place_4 : decode cX6_place 4 = .ok (.getfield 21, 3) := by decide +kernel
theorem dX6_place_7 : decode cX6_place 7 = .ok (.if_icmp .ge 26, 3) := by decide +kernel
theorem dX6_place_10 : decode cX6_place 10 = .ok (.aload_n 0, 1) := by decide +kernel
theorem dX6_place_11 : decode cX6_place 11 = .ok (.getfield 11, 3) := by decide +kernel
theorem dX6_place_14 : decode cX6_place 14 = .ok (.iload_n 1, 1) := by decide +kernel
theorem dX6_place_15 : decode cX6_place 15 = .ok (.aaload, 1) := by decide +kernel
theorem dX6_place_16 : decode cX6_place 16 = .ok (.aload_n 0, 1) := by decide +kernel
theorem dX6_place_17 : decode cX6_place 17 = .ok (.getfield 28, 3) := by decide +kernel
theorem dX6_place_20 : decode cX6_place 20 = .ok (.aload_n 0, 1) := by decide +kernel
theorem dX6_place_21 : decode cX6_place 21 = .ok (.getfield 32, 3) := by decide +kernel
theorem dX6_place_24 : decode cX6_place 24 = .ok (.invokevirtual 35, 3) := by decide +kernel
theorem dX6_place_27 : decode cX6_place 27 = .ok (.iinc 1 1, 3) := by decide +kernel
theorem dX6_place_30 : decode cX6_place 30 = .ok (.goto (-28), 3) := by decide +kernel
theorem dX6_place_33 : decode cX6_place 33 = .ok (.return_, 1) := by decide +kernel
theorem dX6_settle_0 : decode cX6_settle 0 = .ok (.aload_n 0, 1) := by decide +kernel
theorem dX6_settle_1 : decode cX6_settle 1 = .ok (.aload_n 0, 1) := by decide +kernel
theorem dX6_settle_2 : decode cX6_settle 2 = .ok (.getfield 17, 3) := by decide +kernel
theorem dX6_settle_5 : decode cX6_settle 5 = .ok (.invokevirtual 41, 3) := by decide +kernel
theorem dX6_settle_8 : decode cX6_settle 8 = .ok (.astore_n 1, 1) := by decide +kernel
theorem dX6_settle_9 : decode cX6_settle 9 = .ok (.aload_n 1, 1) := by decide +kernel
theorem dX6_settle_10 : decode cX6_settle 10 = .ok (.ifnonnull 8, 3) := by decide +kernel
theorem dX6_settle_13 : decode cX6_settle 13 = .ok (.aload_n 0, 1) := by decide +kernel
theorem dX6_settle_14 : decode cX6_settle 14 = .ok (.invokevirtual 39, 3) := by decide +kernel
theorem dX6_settle_17 : decode cX6_settle 17 = .ok (.return_, 1) := by decide +kernel
theorem dX6_settle_18 : decode cX6_settle 18 = .ok (.aload_n 1, 1) := by decide +kernel
theorem dX6_settle_19 : decode cX6_settle 19 = .ok (.getfield 45, 3) := by decide +kernel
theorem dX6_settle_22 : decode cX6_settle 22 = .ok (.lstore_n 2, 1) := by decide +kernel
theorem dX6_settle_23 : decode cX6_settle 23 = .ok (.aload_n 1, 1) := by decide +kernel
theorem dX6_settle_24 : decode cX6_settle 24 = .ok (.getfield 48, 3) := by decide +kernel
theorem dX6_settle_27 : decode cX6_settle 27 = .ok (.lstore 4, 2) := by decide +kernel
theorem dX6_settle_29 : decode cX6_settle 29 = .ok (.aload_n 0, 1) := by decide +kernel
theorem dX6_settle_30 : decode cX6_settle 30 = .ok (.invokevirtual 39, 3) := by decide +kernel
theorem dX6_settle_33 : decode cX6_settle 33 = .ok (.aload_n 0, 1) := by decide +kernel
theorem dX6_settle_34 : decode cX6_settle 34 = .ok (.dup, 1) := by decide +kernel
theorem dX6_settle_35 : decode cX6_settle 35 = .ok (.getfield 28, 3) := by decide +kernel
theorem dX6_settle_38 : decode cX6_settle 38 = .ok (.lload_n 2, 1) := by decide +kernel
theorem dX6_settle_39 : decode cX6_settle 39 = .ok (.aload_n 1, 1) := by decide +kernel
theorem dX6_settle_40 : decode cX6_settle 40 = .ok (.getfield 45, 3) := by decide +kernel
theorem dX6_settle_43 : decode cX6_settle 43 = .ok (.lsub, 1) := by decide +kernel
theorem dX6_settle_44 : decode cX6_settle 44 = .ok (.ladd, 1) := by decide +kernel
theorem dX6_settle_45 : decode cX6_settle 45 = .ok (.putfield 28, 3) := by decide +kernel
theorem dX6_settle_48 : decode cX6_settle 48 = .ok (.aload_n 0, 1) := by decide +kernel
theorem dX6_settle_49 : decode cX6_settle 49 = .ok (.dup, 1) := by decide +kernel
theorem dX6_settle_50 : decode cX6_settle 50 = .ok (.getfield 32, 3) := by decide +kernel
theorem dX6_settle_53 : decode cX6_settle 53 = .ok (.lload 4, 2) := by decide +kernel
theorem dX6_settle_55 : decode cX6_settle 55 = .ok (.aload_n 1, 1) := by decide +kernel
theorem dX6_settle_56 : decode cX6_settle 56 = .ok (.getfield 48, 3) := by decide +kernel
theorem dX6_settle_59 : decode cX6_settle 59 = .ok (.lsub, 1) := by decide +kernel
theorem dX6_settle_60 : decode cX6_settle 60 = .ok (.ladd, 1) := by decide +kernel
theorem dX6_settle_61 : decode cX6_settle 61 = .ok (.putfield 32, 3) := by decide +kernel
theorem dX6_settle_64 : decode cX6_settle 64 = .ok (.aload_n 0, 1) := by decide +kernel
theorem dX6_settle_65 : decode cX6_settle 65 = .ok (.invokevirtual 39, 3) := by decide +kernel
theorem dX6_settle_68 : decode cX6_settle 68 = .ok (.return_, 1) := by decide +kernel
theorem dX6_tellTurns_0 : decode cX6_tellTurns 0 = .ok (.iconst 0, 1) := by decide +kernel
theorem dX6_tellTurns_1 : decode cX6_tellTurns 1 = .ok (.istore_n 2, 1) := by decide +kernel
theorem dX6_tellTurns_2 : decode cX6_tellTurns 2 = .ok (.iload_n 2, 1) := by decide +kernel
theorem dX6_tellTurns_3 : decode cX6_tellTurns 3 = .ok (.aload_n 0, 1) := by decide +kernel
theorem dX6_tellTurns_4 : decode cX6_tellTurns 4 = .ok (.getfield 21, 3) := by decide +kernel
theorem dX6_tellTurns_7 : decode cX6_tellTurns 7 = .ok (.if_icmp .ge 21, 3) := by decide +kernel
theorem dX6_tellTurns_10 : decode cX6_tellTurns 10 = .ok (.aload_n 1, 1) := by decide +kernel
theorem dX6_tellTurns_11 : decode cX6_tellTurns 11 = .ok (.iload_n 2, 1) := by decide +kernel
theorem dX6_tellTurns_12 : decode cX6_tellTurns 12 = .ok (.aload_n 0, 1) := by decide +kernel
theorem dX6_tellTurns_13 : decode cX6_tellTurns 13 = .ok (.getfield 11, 3) := by decide +kernel
theorem dX6_tellTurns_16 : decode cX6_tellTurns 16 = .ok (.iload_n 2, 1) := by decide +kernel
theorem dX6_tellTurns_17 : decode cX6_tellTurns 17 = .ok (.aaload, 1) := by decide +kernel
theorem dX6_tellTurns_18 : decode cX6_tellTurns 18 = .ok (.getfield 51, 3) := by decide +kernel
theorem dX6_tellTurns_21 : decode cX6_tellTurns 21 = .ok (.iastore, 1) := by decide +kernel
theorem dX6_tellTurns_22 : decode cX6_tellTurns 22 = .ok (.iinc 2 1, 3) := by decide +kernel
theorem dX6_tellTurns_25 : decode cX6_tellTurns 25 = .ok (.goto (-23), 3) := by decide +kernel
theorem dX6_tellTurns_28 : decode cX6_tellTurns 28 = .ok (.return_, 1) := by decide +kernel
theorem dX6_takeTurns_0 : decode cX6_takeTurns 0 = .ok (.iconst 0, 1) := by decide +kernel
theorem dX6_takeTurns_1 : decode cX6_takeTurns 1 = .ok (.istore_n 2, 1) := by decide +kernel
theorem dX6_takeTurns_2 : decode cX6_takeTurns 2 = .ok (.iload_n 2, 1) := by decide +kernel
theorem dX6_takeTurns_3 : decode cX6_takeTurns 3 = .ok (.aload_n 0, 1) := by decide +kernel
theorem dX6_takeTurns_4 : decode cX6_takeTurns 4 = .ok (.getfield 21, 3) := by decide +kernel
theorem dX6_takeTurns_7 : decode cX6_takeTurns 7 = .ok (.if_icmp .ge 21, 3) := by decide +kernel
theorem dX6_takeTurns_10 : decode cX6_takeTurns 10 = .ok (.aload_n 0, 1) := by decide +kernel
theorem dX6_takeTurns_11 : decode cX6_takeTurns 11 = .ok (.getfield 11, 3) := by decide +kernel
theorem dX6_takeTurns_14 : decode cX6_takeTurns 14 = .ok (.iload_n 2, 1) := by decide +kernel
theorem dX6_takeTurns_15 : decode cX6_takeTurns 15 = .ok (.aaload, 1) := by decide +kernel
theorem dX6_takeTurns_16 : decode cX6_takeTurns 16 = .ok (.aload_n 1, 1) := by decide +kernel
theorem dX6_takeTurns_17 : decode cX6_takeTurns 17 = .ok (.iload_n 2, 1) := by decide +kernel
theorem dX6_takeTurns_18 : decode cX6_takeTurns 18 = .ok (.iaload, 1) := by decide +kernel
theorem dX6_takeTurns_19 : decode cX6_takeTurns 19 = .ok (.putfield 51, 3) := by decide +kernel
theorem dX6_takeTurns_22 : decode cX6_takeTurns 22 = .ok (.iinc 2 1, 3) := by decide +kernel
theorem dX6_takeTurns_25 : decode cX6_takeTurns 25 = .ok (.goto (-23), 3) := by decide +kernel
theorem dX6_takeTurns_28 : decode cX6_takeTurns 28 = .ok (.aload_n 0, 1) := by decide +kernel
theorem dX6_takeTurns_29 : decode cX6_takeTurns 29 = .ok (.invokevirtual 54, 3) := by decide +kernel
theorem dX6_takeTurns_32 : decode cX6_takeTurns 32 = .ok (.return_, 1) := by decide +kernel
theorem dX6_blendWith_0 : decode cX6_blendWith 0 = .ok (.iconst 0, 1) := by decide +kernel
theorem dX6_blendWith_1 : decode cX6_blendWith 1 = .ok (.istore 4, 2) := by decide +kernel
theorem dX6_blendWith_3 : decode cX6_blendWith 3 = .ok (.iload 4, 2) := by decide +kernel
theorem dX6_blendWith_5 : decode cX6_blendWith 5 = .ok (.aload_n 0, 1) := by decide +kernel
theorem dX6_blendWith_6 : decode cX6_blendWith 6 = .ok (.getfield 21, 3) := by decide +kernel
theorem dX6_blendWith_9 : decode cX6_blendWith 9 = .ok (.if_icmp .ge 54, 3) := by decide +kernel
theorem dX6_blendWith_12 : decode cX6_blendWith 12 = .ok (.iload_n 3, 1) := by decide +kernel
theorem dX6_blendWith_13 : decode cX6_blendWith 13 = .ok (.iload 4, 2) := by decide +kernel
theorem dX6_blendWith_15 : decode cX6_blendWith 15 = .ok (.ishr, 1) := by decide +kernel
theorem dX6_blendWith_16 : decode cX6_blendWith 16 = .ok (.iconst 1, 1) := by decide +kernel
theorem dX6_blendWith_17 : decode cX6_blendWith 17 = .ok (.iand, 1) := by decide +kernel
theorem dX6_blendWith_18 : decode cX6_blendWith 18 = .ok (.iconst 1, 1) := by decide +kernel
theorem dX6_blendWith_19 : decode cX6_blendWith 19 = .ok (.if_icmp .ne 38, 3) := by decide +kernel
theorem dX6_blendWith_22 : decode cX6_blendWith 22 = .ok (.aload_n 0, 1) := by decide +kernel
theorem dX6_blendWith_23 : decode cX6_blendWith 23 = .ok (.getfield 11, 3) := by decide +kernel
theorem dX6_blendWith_26 : decode cX6_blendWith 26 = .ok (.iload 4, 2) := by decide +kernel
theorem dX6_blendWith_28 : decode cX6_blendWith 28 = .ok (.aaload, 1) := by decide +kernel
theorem dX6_blendWith_29 : decode cX6_blendWith 29 = .ok (.aload_n 0, 1) := by decide +kernel
theorem dX6_blendWith_30 : decode cX6_blendWith 30 = .ok (.getfield 11, 3) := by decide +kernel
theorem dX6_blendWith_33 : decode cX6_blendWith 33 = .ok (.iload 4, 2) := by decide +kernel
theorem dX6_blendWith_35 : decode cX6_blendWith 35 = .ok (.aaload, 1) := by decide +kernel
theorem dX6_blendWith_36 : decode cX6_blendWith 36 = .ok (.aload_n 0, 1) := by decide +kernel
theorem dX6_blendWith_37 : decode cX6_blendWith 37 = .ok (.getfield 11, 3) := by decide +kernel
theorem dX6_blendWith_40 : decode cX6_blendWith 40 = .ok (.iload 4, 2) := by decide +kernel
theorem dX6_blendWith_42 : decode cX6_blendWith 42 = .ok (.aaload, 1) := by decide +kernel
theorem dX6_blendWith_43 : decode cX6_blendWith 43 = .ok (.getfield 51, 3) := by decide +kernel
theorem dX6_blendWith_46 : decode cX6_blendWith 46 = .ok (.aload_n 1, 1) := by decide +kernel
theorem dX6_blendWith_47 : decode cX6_blendWith 47 = .ok (.iload 4, 2) := by decide +kernel
theorem dX6_blendWith_49 : decode cX6_blendWith 49 = .ok (.iaload, 1) := by decide +kernel
theorem dX6_blendWith_50 : decode cX6_blendWith 50 = .ok (.iload_n 2, 1) := by decide +kernel
theorem dX6_blendWith_51 : decode cX6_blendWith 51 = .ok (.invokevirtual 57, 3) := by decide +kernel
theorem dX6_blendWith_54 : decode cX6_blendWith 54 = .ok (.putfield 51, 3) := by decide +kernel
theorem dX6_blendWith_57 : decode cX6_blendWith 57 = .ok (.iinc 4 1, 3) := by decide +kernel
theorem dX6_blendWith_60 : decode cX6_blendWith 60 = .ok (.goto (-57), 3) := by decide +kernel
theorem dX6_blendWith_63 : decode cX6_blendWith 63 = .ok (.aload_n 0, 1) := by decide +kernel
theorem dX6_blendWith_64 : decode cX6_blendWith 64 = .ok (.invokevirtual 54, 3) := by decide +kernel
theorem dX6_blendWith_67 : decode cX6_blendWith 67 = .ok (.return_, 1) := by decide +kernel
theorem dX6_addDifference_0 : decode cX6_addDifference 0 = .ok (.iconst 0, 1) := by decide +kernel
theorem dX6_addDifference_1 : decode cX6_addDifference 1 = .ok (.istore_n 3, 1) := by decide +kernel
theorem dX6_addDifference_2 : decode cX6_addDifference 2 = .ok (.iconst 0, 1) := by decide +kernel
theorem dX6_addDifference_3 : decode cX6_addDifference 3 = .ok (.istore 4, 2) := by decide +kernel
theorem dX6_addDifference_5 : decode cX6_addDifference 5 = .ok (.iload 4, 2) := by decide +kernel
theorem dX6_addDifference_7 : decode cX6_addDifference 7 = .ok (.aload_n 0, 1) := by decide +kernel
theorem dX6_addDifference_8 : decode cX6_addDifference 8 = .ok (.getfield 21, 3) := by decide +kernel
theorem dX6_addDifference_11 : decode cX6_addDifference 11 = .ok (.if_icmp .ge 51, 3) := by decide +kernel
theorem dX6_addDifference_14 : decode cX6_addDifference 14 = .ok (.aload_n 2, 1) := by decide +kernel
theorem dX6_addDifference_15 : decode cX6_addDifference 15 = .ok (.iload 4, 2) := by decide +kernel
theorem dX6_addDifference_17 : decode cX6_addDifference 17 = .ok (.iaload, 1) := by decide +kernel
theorem dX6_addDifference_18 : decode cX6_addDifference 18 = .ok (.aload_n 1, 1) := by decide +kernel
theorem dX6_addDifference_19 : decode cX6_addDifference 19 = .ok (.iload 4, 2) := by decide +kernel
theorem dX6_addDifference_21 : decode cX6_addDifference 21 = .ok (.iaload, 1) := by decide +kernel
theorem dX6_addDifference_22 : decode cX6_addDifference 22 = .ok (.invokestatic 61, 3) := by decide +kernel
theorem dX6_addDifference_25 : decode cX6_addDifference 25 = .ok (.istore 5, 2) := by decide +kernel
theorem dX6_addDifference_27 : decode cX6_addDifference 27 = .ok (.iload_n 3, 1) := by decide +kernel
theorem dX6_addDifference_28 : decode cX6_addDifference 28 = .ok (.aload_n 0, 1) := by decide +kernel
theorem dX6_addDifference_29 : decode cX6_addDifference 29 = .ok (.getfield 11, 3) := by decide +kernel
theorem dX6_addDifference_32 : decode cX6_addDifference 32 = .ok (.iload 4, 2) := by decide +kernel
theorem dX6_addDifference_34 : decode cX6_addDifference 34 = .ok (.aaload, 1) := by decide +kernel
theorem dX6_addDifference_35 : decode cX6_addDifference 35 = .ok (.aload_n 0, 1) := by decide +kernel
theorem dX6_addDifference_36 : decode cX6_addDifference 36 = .ok (.getfield 11, 3) := by decide +kernel
theorem dX6_addDifference_39 : decode cX6_addDifference 39 = .ok (.iload 4, 2) := by decide +kernel
theorem dX6_addDifference_41 : decode cX6_addDifference 41 = .ok (.aaload, 1) := by decide +kernel
theorem dX6_addDifference_42 : decode cX6_addDifference 42 = .ok (.getfield 51, 3) := by decide +kernel
theorem dX6_addDifference_45 : decode cX6_addDifference 45 = .ok (.iload 5, 2) := by decide +kernel
theorem dX6_addDifference_47 : decode cX6_addDifference 47 = .ok (.iadd, 1) := by decide +kernel
theorem dX6_addDifference_48 : decode cX6_addDifference 48 = .ok (.invokestatic 67, 3) := by decide +kernel
theorem dX6_addDifference_51 : decode cX6_addDifference 51 = .ok (.invokevirtual 71, 3) := by decide +kernel
theorem dX6_addDifference_54 : decode cX6_addDifference 54 = .ok (.iadd, 1) := by decide +kernel
theorem dX6_addDifference_55 : decode cX6_addDifference 55 = .ok (.istore_n 3, 1) := by decide +kernel
theorem dX6_addDifference_56 : decode cX6_addDifference 56 = .ok (.iinc 4 1, 3) := by decide +kernel
theorem dX6_addDifference_59 : decode cX6_addDifference 59 = .ok (.goto (-54), 3) := by decide +kernel
theorem dX6_addDifference_62 : decode cX6_addDifference 62 = .ok (.aload_n 0, 1) := by decide +kernel
theorem dX6_addDifference_63 : decode cX6_addDifference 63 = .ok (.invokevirtual 54, 3) := by decide +kernel
theorem dX6_addDifference_66 : decode cX6_addDifference 66 = .ok (.iload_n 3, 1) := by decide +kernel
theorem dX6_addDifference_67 : decode cX6_addDifference 67 = .ok (.ireturn, 1) := by decide +kernel
theorem dX6_takeItems_0 : decode cX6_takeItems 0 = .ok (.iconst 0, 1) := by decide +kernel
theorem dX6_takeItems_1 : decode cX6_takeItems 1 = .ok (.istore_n 3, 1) := by decide +kernel
theorem dX6_takeItems_2 : decode cX6_takeItems 2 = .ok (.iconst 0, 1) := by decide +kernel
theorem dX6_takeItems_3 : decode cX6_takeItems 3 = .ok (.istore 4, 2) := by decide +kernel
theorem dX6_takeItems_5 : decode cX6_takeItems 5 = .ok (.iload 4, 2) := by decide +kernel
theorem dX6_takeItems_7 : decode cX6_takeItems 7 = .ok (.aload_n 0, 1) := by decide +kernel
theorem dX6_takeItems_8 : decode cX6_takeItems 8 = .ok (.getfield 21, 3) := by decide +kernel
theorem dX6_takeItems_11 : decode cX6_takeItems 11 = .ok (.if_icmp .ge 31, 3) := by decide +kernel
theorem dX6_takeItems_14 : decode cX6_takeItems 14 = .ok (.iload_n 3, 1) := by decide +kernel
theorem dX6_takeItems_15 : decode cX6_takeItems 15 = .ok (.aload_n 0, 1) := by decide +kernel
theorem dX6_takeItems_16 : decode cX6_takeItems 16 = .ok (.getfield 11, 3) := by decide +kernel
theorem dX6_takeItems_19 : decode cX6_takeItems 19 = .ok (.iload 4, 2) := by decide +kernel
theorem dX6_takeItems_21 : decode cX6_takeItems 21 = .ok (.aaload, 1) := by decide +kernel
theorem dX6_takeItems_22 : decode cX6_takeItems 22 = .ok (.aload_n 1, 1) := by decide +kernel
theorem dX6_takeItems_23 : decode cX6_takeItems 23 = .ok (.iload_n 2, 1) := by decide +kernel
theorem dX6_takeItems_24 : decode cX6_takeItems 24 = .ok (.iload 4, 2) := by decide +kernel
theorem dX6_takeItems_26 : decode cX6_takeItems 26 = .ok (.iadd, 1) := by decide +kernel
theorem dX6_takeItems_27 : decode cX6_takeItems 27 = .ok (.iaload, 1) := by decide +kernel
theorem dX6_takeItems_28 : decode cX6_takeItems 28 = .ok (.invokestatic 67, 3) := by decide +kernel
theorem dX6_takeItems_31 : decode cX6_takeItems 31 = .ok (.invokevirtual 71, 3) := by decide +kernel
theorem dX6_takeItems_34 : decode cX6_takeItems 34 = .ok (.iadd, 1) := by decide +kernel
theorem dX6_takeItems_35 : decode cX6_takeItems 35 = .ok (.istore_n 3, 1) := by decide +kernel
theorem dX6_takeItems_36 : decode cX6_takeItems 36 = .ok (.iinc 4 1, 3) := by decide +kernel
theorem dX6_takeItems_39 : decode cX6_takeItems 39 = .ok (.goto (-34), 3) := by decide +kernel
theorem dX6_takeItems_42 : decode cX6_takeItems 42 = .ok (.aload_n 0, 1) := by decide +kernel
theorem dX6_takeItems_43 : decode cX6_takeItems 43 = .ok (.invokevirtual 54, 3) := by decide +kernel
theorem dX6_takeItems_46 : decode cX6_takeItems 46 = .ok (.iload_n 3, 1) := by decide +kernel
theorem dX6_takeItems_47 : decode cX6_takeItems 47 = .ok (.ireturn, 1) := by decide +kernel
theorem dX6_reachByTwo_0 : decode cX6_reachByTwo 0 = .ok (.aload_n 1, 1) := by decide +kernel
theorem dX6_reachByTwo_1 : decode cX6_reachByTwo 1 = .ok (.getfield 74, 3) := by decide +kernel
theorem dX6_reachByTwo_4 : decode cX6_reachByTwo 4 = .ok (.astore 6, 2) := by decide +kernel
theorem dX6_reachByTwo_6 : decode cX6_reachByTwo 6 = .ok (.aload 6, 2) := by decide +kernel
theorem dX6_reachByTwo_8 : decode cX6_reachByTwo 8 = .ok (.ifnonnull 24, 3) := by decide +kernel
theorem dX6_reachByTwo_11 : decode cX6_reachByTwo 11 = .ok (.aload_n 1, 1) := by decide +kernel
theorem dX6_reachByTwo_12 : decode cX6_reachByTwo 12 = .ok (.aload_n 1, 1) := by decide +kernel
theorem dX6_reachByTwo_13 : decode cX6_reachByTwo 13 = .ok (.aload_n 1, 1) := by decide +kernel
theorem dX6_reachByTwo_14 : decode cX6_reachByTwo 14 = .ok (.lload_n 2, 1) := by decide +kernel
theorem dX6_reachByTwo_15 : decode cX6_reachByTwo 15 = .ok (.lload 4, 2) := by decide +kernel
theorem dX6_reachByTwo_17 : decode cX6_reachByTwo 17 = .ok (.aload_n 1, 1) := by decide +kernel
theorem dX6_reachByTwo_18 : decode cX6_reachByTwo 18 = .ok (.invokevirtual 78, 3) := by decide +kernel
theorem dX6_reachByTwo_21 : decode cX6_reachByTwo 21 = .ok (.invokevirtual 82, 3) := by decide +kernel
theorem dX6_reachByTwo_24 : decode cX6_reachByTwo 24 = .ok (.putfield 51, 3) := by decide +kernel
theorem dX6_reachByTwo_27 : decode cX6_reachByTwo 27 = .ok (.aload_n 0, 1) := by decide +kernel
theorem dX6_reachByTwo_28 : decode cX6_reachByTwo 28 = .ok (.invokevirtual 39, 3) := by decide +kernel
theorem dX6_reachByTwo_31 : decode cX6_reachByTwo 31 = .ok (.return_, 1) := by decide +kernel
theorem dX6_reachByTwo_32 : decode cX6_reachByTwo 32 = .ok (.aload 6, 2) := by decide +kernel
theorem dX6_reachByTwo_34 : decode cX6_reachByTwo 34 = .ok (.getfield 51, 3) := by decide +kernel
theorem dX6_reachByTwo_37 : decode cX6_reachByTwo 37 = .ok (.istore 7, 2) := by decide +kernel
theorem dX6_reachByTwo_39 : decode cX6_reachByTwo 39 = .ok (.aload_n 1, 1) := by decide +kernel
theorem dX6_reachByTwo_40 : decode cX6_reachByTwo 40 = .ok (.getfield 51, 3) := by decide +kernel
theorem dX6_reachByTwo_43 : decode cX6_reachByTwo 43 = .ok (.istore 8, 2) := by decide +kernel
theorem dX6_reachByTwo_45 : decode cX6_reachByTwo 45 = .ok (.ldc2_w 86, 3) := by decide +kernel
theorem dX6_reachByTwo_48 : decode cX6_reachByTwo 48 = .ok (.lstore 9, 2) := by decide +kernel
theorem dX6_reachByTwo_50 : decode cX6_reachByTwo 50 = .ok (.iconst 0, 1) := by decide +kernel
theorem dX6_reachByTwo_51 : decode cX6_reachByTwo 51 = .ok (.istore 11, 2) := by decide +kernel
theorem dX6_reachByTwo_53 : decode cX6_reachByTwo 53 = .ok (.iload 11, 2) := by decide +kernel
theorem dX6_reachByTwo_55 : decode cX6_reachByTwo 55 = .ok (.bipush 36, 2) := by decide +kernel
theorem dX6_reachByTwo_57 : decode cX6_reachByTwo 57 = .ok (.if_icmp .ge 82, 3) := by decide +kernel
theorem dX6_reachByTwo_60 : decode cX6_reachByTwo 60 = .ok (.aload 6, 2) := by decide +kernel
theorem dX6_reachByTwo_62 : decode cX6_reachByTwo 62 = .ok (.iload 11, 2) := by decide +kernel
theorem dX6_reachByTwo_64 : decode cX6_reachByTwo 64 = .ok (.invokevirtual 88, 3) := by decide +kernel
theorem dX6_reachByTwo_67 : decode cX6_reachByTwo 67 = .ok (.ifCond .eq 66, 3) := by decide +kernel
theorem dX6_reachByTwo_70 : decode cX6_reachByTwo 70 = .ok (.aload 6, 2) := by decide +kernel
theorem dX6_reachByTwo_72 : decode cX6_reachByTwo 72 = .ok (.iload 11, 2) := by decide +kernel
theorem dX6_reachByTwo_74 : decode cX6_reachByTwo 74 = .ok (.putfield 51, 3) := by decide +kernel
theorem dX6_reachByTwo_77 : decode cX6_reachByTwo 77 = .ok (.aload_n 0, 1) := by decide +kernel
theorem dX6_reachByTwo_78 : decode cX6_reachByTwo 78 = .ok (.invokevirtual 39, 3) := by decide +kernel
theorem dX6_reachByTwo_81 : decode cX6_reachByTwo 81 = .ok (.aload_n 1, 1) := by decide +kernel
theorem dX6_reachByTwo_82 : decode cX6_reachByTwo 82 = .ok (.aload_n 1, 1) := by decide +kernel
theorem dX6_reachByTwo_83 : decode cX6_reachByTwo 83 = .ok (.aload_n 1, 1) := by decide +kernel
theorem dX6_reachByTwo_84 : decode cX6_reachByTwo 84 = .ok (.lload_n 2, 1) := by decide +kernel
theorem dX6_reachByTwo_85 : decode cX6_reachByTwo 85 = .ok (.lload 4, 2) := by decide +kernel
theorem dX6_reachByTwo_87 : decode cX6_reachByTwo 87 = .ok (.aload_n 1, 1) := by decide +kernel
theorem dX6_reachByTwo_88 : decode cX6_reachByTwo 88 = .ok (.invokevirtual 78, 3) := by decide +kernel
theorem dX6_reachByTwo_91 : decode cX6_reachByTwo 91 = .ok (.invokevirtual 82, 3) := by decide +kernel
theorem dX6_reachByTwo_94 : decode cX6_reachByTwo 94 = .ok (.putfield 51, 3) := by decide +kernel
theorem dX6_reachByTwo_97 : decode cX6_reachByTwo 97 = .ok (.aload_n 0, 1) := by decide +kernel
theorem dX6_reachByTwo_98 : decode cX6_reachByTwo 98 = .ok (.invokevirtual 39, 3) := by decide +kernel
theorem dX6_reachByTwo_101 : decode cX6_reachByTwo 101 = .ok (.aload_n 1, 1) := by decide +kernel
theorem dX6_reachByTwo_102 : decode cX6_reachByTwo 102 = .ok (.lload_n 2, 1) := by decide +kernel
theorem dX6_reachByTwo_103 : decode cX6_reachByTwo 103 = .ok (.lload 4, 2) := by decide +kernel
theorem dX6_reachByTwo_105 : decode cX6_reachByTwo 105 = .ok (.invokevirtual 92, 3) := by decide +kernel
theorem dX6_reachByTwo_108 : decode cX6_reachByTwo 108 = .ok (.lload 9, 2) := by decide +kernel
theorem dX6_reachByTwo_110 : decode cX6_reachByTwo 110 = .ok (.lcmp, 1) := by decide +kernel
theorem dX6_reachByTwo_111 : decode cX6_reachByTwo 111 = .ok (.ifCond .ge 22, 3) := by decide +kernel
theorem dX6_reachByTwo_114 : decode cX6_reachByTwo 114 = .ok (.aload_n 1, 1) := by decide +kernel
theorem dX6_reachByTwo_115 : decode cX6_reachByTwo 115 = .ok (.lload_n 2, 1) := by decide +kernel
theorem dX6_reachByTwo_116 : decode cX6_reachByTwo 116 = .ok (.lload 4, 2) := by decide +kernel
theorem dX6_reachByTwo_118 : decode cX6_reachByTwo 118 = .ok (.invokevirtual 92, 3) := by decide +kernel
theorem dX6_reachByTwo_121 : decode cX6_reachByTwo 121 = .ok (.lstore 9, 2) := by decide +kernel
theorem dX6_reachByTwo_123 : decode cX6_reachByTwo 123 = .ok (.iload 11, 2) := by decide +kernel
theorem dX6_reachByTwo_125 : decode cX6_reachByTwo 125 = .ok (.istore 7, 2) := by decide +kernel
theorem dX6_reachByTwo_127 : decode cX6_reachByTwo 127 = .ok (.aload_n 1, 1) := by decide +kernel
theorem dX6_reachByTwo_128 : decode cX6_reachByTwo 128 = .ok (.getfield 51, 3) := by decide +kernel
theorem dX6_reachByTwo_131 : decode cX6_reachByTwo 131 = .ok (.istore 8, 2) := by decide +kernel
theorem dX6_reachByTwo_133 : decode cX6_reachByTwo 133 = .ok (.iinc 11 1, 3) := by decide +kernel
theorem dX6_reachByTwo_136 : decode cX6_reachByTwo 136 = .ok (.goto (-83), 3) := by decide +kernel
theorem dX6_reachByTwo_139 : decode cX6_reachByTwo 139 = .ok (.aload 6, 2) := by decide +kernel
theorem dX6_reachByTwo_141 : decode cX6_reachByTwo 141 = .ok (.iload 7, 2) := by decide +kernel
theorem dX6_reachByTwo_143 : decode cX6_reachByTwo 143 = .ok (.putfield 51, 3) := by decide +kernel
theorem dX6_reachByTwo_146 : decode cX6_reachByTwo 146 = .ok (.aload_n 1, 1) := by decide +kernel
theorem dX6_reachByTwo_147 : decode cX6_reachByTwo 147 = .ok (.iload 8, 2) := by decide +kernel
theorem dX6_reachByTwo_149 : decode cX6_reachByTwo 149 = .ok (.putfield 51, 3) := by decide +kernel
theorem dX6_reachByTwo_152 : decode cX6_reachByTwo 152 = .ok (.aload_n 0, 1) := by decide +kernel
theorem dX6_reachByTwo_153 : decode cX6_reachByTwo 153 = .ok (.invokevirtual 39, 3) := by decide +kernel
theorem dX6_reachByTwo_156 : decode cX6_reachByTwo 156 = .ok (.return_, 1) := by decide +kernel
theorem dX6_reachByRounds_0 : decode cX6_reachByRounds 0 = .ok (.iconst 1, 1) := by decide +kernel
theorem dX6_reachByRounds_1 : decode cX6_reachByRounds 1 = .ok (.istore 7, 2) := by decide +kernel
theorem dX6_reachByRounds_3 : decode cX6_reachByRounds 3 = .ok (.iconst 0, 1) := by decide +kernel
theorem dX6_reachByRounds_4 : decode cX6_reachByRounds 4 = .ok (.istore 8, 2) := by decide +kernel
theorem dX6_reachByRounds_6 : decode cX6_reachByRounds 6 = .ok (.iload 8, 2) := by decide +kernel
theorem dX6_reachByRounds_8 : decode cX6_reachByRounds 8 = .ok (.iload 6, 2) := by decide +kernel
theorem dX6_reachByRounds_10 : decode cX6_reachByRounds 10 = .ok (.if_icmp .ge 24, 3) := by decide +kernel
theorem dX6_reachByRounds_13 : decode cX6_reachByRounds 13 = .ok (.iload 7, 2) := by decide +kernel
theorem dX6_reachByRounds_15 : decode cX6_reachByRounds 15 = .ok (.ifCond .eq 19, 3) := by decide +kernel
theorem dX6_reachByRounds_18 : decode cX6_reachByRounds 18 = .ok (.aload_n 0, 1) := by decide +kernel
theorem dX6_reachByRounds_19 : decode cX6_reachByRounds 19 = .ok (.aload_n 1, 1) := by decide +kernel
theorem dX6_reachByRounds_20 : decode cX6_reachByRounds 20 = .ok (.lload_n 2, 1) := by decide +kernel
theorem dX6_reachByRounds_21 : decode cX6_reachByRounds 21 = .ok (.lload 4, 2) := by decide +kernel
theorem dX6_reachByRounds_23 : decode cX6_reachByRounds 23 = .ok (.invokevirtual 96, 3) := by decide +kernel
theorem dX6_reachByRounds_26 : decode cX6_reachByRounds 26 = .ok (.istore 7, 2) := by decide +kernel
theorem dX6_reachByRounds_28 : decode cX6_reachByRounds 28 = .ok (.iinc 8 1, 3) := by decide +kernel
theorem dX6_reachByRounds_31 : decode cX6_reachByRounds 31 = .ok (.goto (-25), 3) := by decide +kernel
theorem dX6_reachByRounds_34 : decode cX6_reachByRounds 34 = .ok (.return_, 1) := by decide +kernel
theorem dX6_reachByRound_0 : decode cX6_reachByRound 0 = .ok (.iconst 0, 1) := by decide +kernel
theorem dX6_reachByRound_1 : decode cX6_reachByRound 1 = .ok (.istore 6, 2) := by decide +kernel
theorem dX6_reachByRound_3 : decode cX6_reachByRound 3 = .ok (.aload_n 1, 1) := by decide +kernel
theorem dX6_reachByRound_4 : decode cX6_reachByRound 4 = .ok (.astore 7, 2) := by decide +kernel
theorem dX6_reachByRound_6 : decode cX6_reachByRound 6 = .ok (.aload 7, 2) := by decide +kernel
theorem dX6_reachByRound_8 : decode cX6_reachByRound 8 = .ok (.ifnull 53, 3) := by decide +kernel
theorem dX6_reachByRound_11 : decode cX6_reachByRound 11 = .ok (.aload 7, 2) := by decide +kernel
theorem dX6_reachByRound_13 : decode cX6_reachByRound 13 = .ok (.aload_n 1, 1) := by decide +kernel
theorem dX6_reachByRound_14 : decode cX6_reachByRound 14 = .ok (.lload_n 2, 1) := by decide +kernel
theorem dX6_reachByRound_15 : decode cX6_reachByRound 15 = .ok (.lload 4, 2) := by decide +kernel
theorem dX6_reachByRound_17 : decode cX6_reachByRound 17 = .ok (.aload 7, 2) := by decide +kernel
theorem dX6_reachByRound_19 : decode cX6_reachByRound 19 = .ok (.getfield 51, 3) := by decide +kernel
theorem dX6_reachByRound_22 : decode cX6_reachByRound 22 = .ok (.invokevirtual 82, 3) := by decide +kernel
theorem dX6_reachByRound_25 : decode cX6_reachByRound 25 = .ok (.istore 8, 2) := by decide +kernel
theorem dX6_reachByRound_27 : decode cX6_reachByRound 27 = .ok (.iload 8, 2) := by decide +kernel
theorem dX6_reachByRound_29 : decode cX6_reachByRound 29 = .ok (.aload 7, 2) := by decide +kernel
theorem dX6_reachByRound_31 : decode cX6_reachByRound 31 = .ok (.getfield 51, 3) := by decide +kernel
theorem dX6_reachByRound_34 : decode cX6_reachByRound 34 = .ok (.if_icmp .eq 17, 3) := by decide +kernel
theorem dX6_reachByRound_37 : decode cX6_reachByRound 37 = .ok (.aload 7, 2) := by decide +kernel
theorem dX6_reachByRound_39 : decode cX6_reachByRound 39 = .ok (.iload 8, 2) := by decide +kernel
theorem dX6_reachByRound_41 : decode cX6_reachByRound 41 = .ok (.putfield 51, 3) := by decide +kernel
theorem dX6_reachByRound_44 : decode cX6_reachByRound 44 = .ok (.aload_n 0, 1) := by decide +kernel
theorem dX6_reachByRound_45 : decode cX6_reachByRound 45 = .ok (.invokevirtual 39, 3) := by decide +kernel
theorem dX6_reachByRound_48 : decode cX6_reachByRound 48 = .ok (.iconst 1, 1) := by decide +kernel
theorem dX6_reachByRound_49 : decode cX6_reachByRound 49 = .ok (.istore 6, 2) := by decide +kernel
theorem dX6_reachByRound_51 : decode cX6_reachByRound 51 = .ok (.aload 7, 2) := by decide +kernel
theorem dX6_reachByRound_53 : decode cX6_reachByRound 53 = .ok (.getfield 74, 3) := by decide +kernel
theorem dX6_reachByRound_56 : decode cX6_reachByRound 56 = .ok (.astore 7, 2) := by decide +kernel
theorem dX6_reachByRound_58 : decode cX6_reachByRound 58 = .ok (.goto (-52), 3) := by decide +kernel
theorem dX6_reachByRound_61 : decode cX6_reachByRound 61 = .ok (.iload 6, 2) := by decide +kernel
theorem dX6_reachByRound_63 : decode cX6_reachByRound 63 = .ok (.ireturn, 1) := by decide +kernel
theorem dX6_digestOn_0 : decode cX6_digestOn 0 = .ok (.lload_n 1, 1) := by decide +kernel
theorem dX6_digestOn_1 : decode cX6_digestOn 1 = .ok (.lstore_n 3, 1) := by decide +kernel
theorem dX6_digestOn_2 : decode cX6_digestOn 2 = .ok (.iconst 0, 1) := by decide +kernel
theorem dX6_digestOn_3 : decode cX6_digestOn 3 = .ok (.istore 5, 2) := by decide +kernel
theorem dX6_digestOn_5 : decode cX6_digestOn 5 = .ok (.iload 5, 2) := by decide +kernel
theorem dX6_digestOn_7 : decode cX6_digestOn 7 = .ok (.aload_n 0, 1) := by decide +kernel
theorem dX6_digestOn_8 : decode cX6_digestOn 8 = .ok (.getfield 21, 3) := by decide +kernel
theorem dX6_digestOn_11 : decode cX6_digestOn 11 = .ok (.if_icmp .ge 61, 3) := by decide +kernel
theorem dX6_digestOn_14 : decode cX6_digestOn 14 = .ok (.ldc2_w 100, 3) := by decide +kernel
theorem dX6_digestOn_17 : decode cX6_digestOn 17 = .ok (.lload_n 3, 1) := by decide +kernel
theorem dX6_digestOn_18 : decode cX6_digestOn 18 = .ok (.lmul, 1) := by decide +kernel
theorem dX6_digestOn_19 : decode cX6_digestOn 19 = .ok (.aload_n 0, 1) := by decide +kernel
theorem dX6_digestOn_20 : decode cX6_digestOn 20 = .ok (.getfield 11, 3) := by decide +kernel
theorem dX6_digestOn_23 : decode cX6_digestOn 23 = .ok (.iload 5, 2) := by decide +kernel
theorem dX6_digestOn_25 : decode cX6_digestOn 25 = .ok (.aaload, 1) := by decide +kernel
theorem dX6_digestOn_26 : decode cX6_digestOn 26 = .ok (.getfield 51, 3) := by decide +kernel
theorem dX6_digestOn_29 : decode cX6_digestOn 29 = .ok (.i2l, 1) := by decide +kernel
theorem dX6_digestOn_30 : decode cX6_digestOn 30 = .ok (.ladd, 1) := by decide +kernel
theorem dX6_digestOn_31 : decode cX6_digestOn 31 = .ok (.lstore_n 3, 1) := by decide +kernel
theorem dX6_digestOn_32 : decode cX6_digestOn 32 = .ok (.ldc2_w 100, 3) := by decide +kernel
theorem dX6_digestOn_35 : decode cX6_digestOn 35 = .ok (.lload_n 3, 1) := by decide +kernel
theorem dX6_digestOn_36 : decode cX6_digestOn 36 = .ok (.lmul, 1) := by decide +kernel
theorem dX6_digestOn_37 : decode cX6_digestOn 37 = .ok (.aload_n 0, 1) := by decide +kernel
theorem dX6_digestOn_38 : decode cX6_digestOn 38 = .ok (.getfield 11, 3) := by decide +kernel
theorem dX6_digestOn_41 : decode cX6_digestOn 41 = .ok (.iload 5, 2) := by decide +kernel
theorem dX6_digestOn_43 : decode cX6_digestOn 43 = .ok (.aaload, 1) := by decide +kernel
theorem dX6_digestOn_44 : decode cX6_digestOn 44 = .ok (.getfield 45, 3) := by decide +kernel
theorem dX6_digestOn_47 : decode cX6_digestOn 47 = .ok (.ladd, 1) := by decide +kernel
theorem dX6_digestOn_48 : decode cX6_digestOn 48 = .ok (.lstore_n 3, 1) := by decide +kernel
theorem dX6_digestOn_49 : decode cX6_digestOn 49 = .ok (.ldc2_w 100, 3) := by decide +kernel
theorem dX6_digestOn_52 : decode cX6_digestOn 52 = .ok (.lload_n 3, 1) := by decide +kernel
theorem dX6_digestOn_53 : decode cX6_digestOn 53 = .ok (.lmul, 1) := by decide +kernel
theorem dX6_digestOn_54 : decode cX6_digestOn 54 = .ok (.aload_n 0, 1) := by decide +kernel
theorem dX6_digestOn_55 : decode cX6_digestOn 55 = .ok (.getfield 11, 3) := by decide +kernel
theorem dX6_digestOn_58 : decode cX6_digestOn 58 = .ok (.iload 5, 2) := by decide +kernel
theorem dX6_digestOn_60 : decode cX6_digestOn 60 = .ok (.aaload, 1) := by decide +kernel
theorem dX6_digestOn_61 : decode cX6_digestOn 61 = .ok (.getfield 48, 3) := by decide +kernel
theorem dX6_digestOn_64 : decode cX6_digestOn 64 = .ok (.ladd, 1) := by decide +kernel
theorem dX6_digestOn_65 : decode cX6_digestOn 65 = .ok (.lstore_n 3, 1) := by decide +kernel
theorem dX6_digestOn_66 : decode cX6_digestOn 66 = .ok (.iinc 5 1, 3) := by decide +kernel
theorem dX6_digestOn_69 : decode cX6_digestOn 69 = .ok (.goto (-64), 3) := by decide +kernel
theorem dX6_digestOn_72 : decode cX6_digestOn 72 = .ok (.lload_n 3, 1) := by decide +kernel
theorem dX6_digestOn_73 : decode cX6_digestOn 73 = .ok (.lreturn, 1) := by decide +kernel
theorem dX7_normal_0 : decode cX7_normal 0 = .ok (.iload_n 0, 1) := by decide +kernel
theorem dX7_normal_1 : decode cX7_normal 1 = .ok (.bipush 36, 2) := by decide +kernel
theorem dX7_normal_3 : decode cX7_normal 3 = .ok (.invokestatic 9, 3) := by decide +kernel
theorem dX7_normal_6 : decode cX7_normal 6 = .ok (.ireturn, 1) := by decide +kernel
theorem dX7_cosine_0 : decode cX7_cosine 0 = .ok (.getstatic 15, 3) := by decide +kernel
theorem dX7_cosine_3 : decode cX7_cosine 3 = .ok (.iload_n 0, 1) := by decide +kernel
theorem dX7_cosine_4 : decode cX7_cosine 4 = .ok (.bipush 36, 2) := by decide +kernel
theorem dX7_cosine_6 : decode cX7_cosine 6 = .ok (.invokestatic 9, 3) := by decide +kernel
theorem dX7_cosine_9 : decode cX7_cosine 9 = .ok (.iaload, 1) := by decide +kernel
theorem dX7_cosine_10 : decode cX7_cosine 10 = .ok (.ireturn, 1) := by decide +kernel
theorem dX7_sine_0 : decode cX7_sine 0 = .ok (.getstatic 15, 3) := by decide +kernel
theorem dX7_sine_3 : decode cX7_sine 3 = .ok (.iload_n 0, 1) := by decide +kernel
theorem dX7_sine_4 : decode cX7_sine 4 = .ok (.bipush 9, 2) := by decide +kernel
theorem dX7_sine_6 : decode cX7_sine 6 = .ok (.isub, 1) := by decide +kernel
theorem dX7_sine_7 : decode cX7_sine 7 = .ok (.bipush 36, 2) := by decide +kernel
theorem dX7_sine_9 : decode cX7_sine 9 = .ok (.invokestatic 9, 3) := by decide +kernel
theorem dX7_sine_12 : decode cX7_sine 12 = .ok (.iaload, 1) := by decide +kernel
theorem dX7_sine_13 : decode cX7_sine 13 = .ok (.ireturn, 1) := by decide +kernel
theorem dX7_shortWay_0 : decode cX7_shortWay 0 = .ok (.iload_n 1, 1) := by decide +kernel
theorem dX7_shortWay_1 : decode cX7_shortWay 1 = .ok (.iload_n 0, 1) := by decide +kernel
theorem dX7_shortWay_2 : decode cX7_shortWay 2 = .ok (.isub, 1) := by decide +kernel
theorem dX7_shortWay_3 : decode cX7_shortWay 3 = .ok (.istore_n 2, 1) := by decide +kernel
theorem dX7_shortWay_4 : decode cX7_shortWay 4 = .ok (.iload_n 2, 1) := by decide +kernel
theorem dX7_shortWay_5 : decode cX7_shortWay 5 = .ok (.bipush 18, 2) := by decide +kernel
theorem dX7_shortWay_7 : decode cX7_shortWay 7 = .ok (.if_icmp .le 10, 3) := by decide +kernel
theorem dX7_shortWay_10 : decode cX7_shortWay 10 = .ok (.iload_n 2, 1) := by decide +kernel
theorem dX7_shortWay_11 : decode cX7_shortWay 11 = .ok (.bipush 36, 2) := by decide +kernel
theorem dX7_shortWay_13 : decode cX7_shortWay 13 = .ok (.isub, 1) := by decide +kernel
theorem dX7_shortWay_14 : decode cX7_shortWay 14 = .ok (.goto 17, 3) := by decide +kernel
theorem dX7_shortWay_17 : decode cX7_shortWay 17 = .ok (.iload_n 2, 1) := by decide +kernel
theorem dX7_shortWay_18 : decode cX7_shortWay 18 = .ok (.bipush (-18), 2) := by decide +kernel
theorem dX7_shortWay_20 : decode cX7_shortWay 20 = .ok (.if_icmp .gt 10, 3) := by decide +kernel
theorem dX7_shortWay_23 : decode cX7_shortWay 23 = .ok (.iload_n 2, 1) := by decide +kernel
theorem dX7_shortWay_24 : decode cX7_shortWay 24 = .ok (.bipush 36, 2) := by decide +kernel
theorem dX7_shortWay_26 : decode cX7_shortWay 26 = .ok (.iadd, 1) := by decide +kernel
theorem dX7_shortWay_27 : decode cX7_shortWay 27 = .ok (.goto 4, 3) := by decide +kernel
theorem dX7_shortWay_30 : decode cX7_shortWay 30 = .ok (.iload_n 2, 1) := by decide +kernel
theorem dX7_shortWay_31 : decode cX7_shortWay 31 = .ok (.ireturn, 1) := by decide +kernel
theorem dX7_distance_0 : decode cX7_distance 0 = .ok (.iload_n 0, 1) := by decide +kernel
theorem dX7_distance_1 : decode cX7_distance 1 = .ok (.iload_n 1, 1) := by decide +kernel
theorem dX7_distance_2 : decode cX7_distance 2 = .ok (.if_icmp .ge 9, 3) := by decide +kernel
theorem dX7_distance_5 : decode cX7_distance 5 = .ok (.iload_n 1, 1) := by decide +kernel
theorem dX7_distance_6 : decode cX7_distance 6 = .ok (.iload_n 0, 1) := by decide +kernel
theorem dX7_distance_7 : decode cX7_distance 7 = .ok (.isub, 1) := by decide +kernel
theorem dX7_distance_8 : decode cX7_distance 8 = .ok (.goto 6, 3) := by decide +kernel
theorem dX7_distance_11 : decode cX7_distance 11 = .ok (.iload_n 0, 1) := by decide +kernel
theorem dX7_distance_12 : decode cX7_distance 12 = .ok (.iload_n 1, 1) := by decide +kernel
theorem dX7_distance_13 : decode cX7_distance 13 = .ok (.isub, 1) := by decide +kernel
theorem dX7_distance_14 : decode cX7_distance 14 = .ok (.istore_n 2, 1) := by decide +kernel
theorem dX7_distance_15 : decode cX7_distance 15 = .ok (.iload_n 2, 1) := by decide +kernel
theorem dX7_distance_16 : decode cX7_distance 16 = .ok (.bipush 18, 2) := by decide +kernel
theorem dX7_distance_18 : decode cX7_distance 18 = .ok (.if_icmp .le 10, 3) := by decide +kernel
theorem dX7_distance_21 : decode cX7_distance 21 = .ok (.bipush 36, 2) := by decide +kernel
theorem dX7_distance_23 : decode cX7_distance 23 = .ok (.iload_n 2, 1) := by decide +kernel
theorem dX7_distance_24 : decode cX7_distance 24 = .ok (.isub, 1) := by decide +kernel
theorem dX7_distance_25 : decode cX7_distance 25 = .ok (.goto 4, 3) := by decide +kernel
theorem dX7_distance_28 : decode cX7_distance 28 = .ok (.iload_n 2, 1) := by decide +kernel
theorem dX7_distance_29 : decode cX7_distance 29 = .ok (.ireturn, 1) := by decide +kernel
theorem dX8_init_0 : decode cX8_init 0 = .ok (.aload_n 0, 1) := by decide +kernel
theorem dX8_init_1 : decode cX8_init 1 = .ok (.invokespecial 3, 3) := by decide +kernel
theorem dX8_init_4 : decode cX8_init 4 = .ok (.aload_n 0, 1) := by decide +kernel
theorem dX8_init_5 : decode cX8_init 5 = .ok (.new 9, 3) := by decide +kernel
theorem dX8_init_8 : decode cX8_init 8 = .ok (.dup, 1) := by decide +kernel
theorem dX8_init_9 : decode cX8_init 9 = .ok (.invokespecial 11, 3) := by decide +kernel
theorem dX8_init_12 : decode cX8_init 12 = .ok (.putfield 12, 3) := by decide +kernel
theorem dX8_init_15 : decode cX8_init 15 = .ok (.aload_n 0, 1) := by decide +kernel
theorem dX8_init_16 : decode cX8_init 16 = .ok (.new 16, 3) := by decide +kernel
theorem dX8_init_19 : decode cX8_init 19 = .ok (.dup, 1) := by decide +kernel
theorem dX8_init_20 : decode cX8_init 20 = .ok (.invokespecial 18, 3) := by decide +kernel
theorem dX8_init_23 : decode cX8_init 23 = .ok (.putfield 19, 3) := by decide +kernel
theorem dX8_init_26 : decode cX8_init 26 = .ok (.aload_n 0, 1) := by decide +kernel
theorem dX8_init_27 : decode cX8_init 27 = .ok (.new 23, 3) := by decide +kernel
theorem dX8_init_30 : decode cX8_init 30 = .ok (.dup, 1) := by decide +kernel
theorem dX8_init_31 : decode cX8_init 31 = .ok (.invokespecial 25, 3) := by decide +kernel
theorem dX8_init_34 : decode cX8_init 34 = .ok (.putfield 26, 3) := by decide +kernel
theorem dX8_init_37 : decode cX8_init 37 = .ok (.aload_n 0, 1) := by decide +kernel
theorem dX8_init_38 : decode cX8_init 38 = .ok (.new 30, 3) := by decide +kernel
theorem dX8_init_41 : decode cX8_init 41 = .ok (.dup, 1) := by decide +kernel
theorem dX8_init_42 : decode cX8_init 42 = .ok (.invokespecial 32, 3) := by decide +kernel
theorem dX8_init_45 : decode cX8_init 45 = .ok (.putfield 33, 3) := by decide +kernel
theorem dX8_init_48 : decode cX8_init 48 = .ok (.aload_n 0, 1) := by decide +kernel
theorem dX8_init_49 : decode cX8_init 49 = .ok (.iconst 4, 1) := by decide +kernel
theorem dX8_init_50 : decode cX8_init 50 = .ok (.anewarray 37, 3) := by decide +kernel
theorem dX8_init_53 : decode cX8_init 53 = .ok (.putfield 39, 3) := by decide +kernel
theorem dX8_init_56 : decode cX8_init 56 = .ok (.aload_n 0, 1) := by decide +kernel
theorem dX8_init_57 : decode cX8_init 57 = .ok (.iconst 0, 1) := by decide +kernel
theorem dX8_init_58 : decode cX8_init 58 = .ok (.putfield 43, 3) := by decide +kernel
theorem dX8_init_61 : decode cX8_init 61 = .ok (.iconst 0, 1) := by decide +kernel
theorem dX8_init_62 : decode cX8_init 62 = .ok (.istore_n 1, 1) := by decide +kernel
theorem dX8_init_63 : decode cX8_init 63 = .ok (.iload_n 1, 1) := by decide +kernel
theorem dX8_init_64 : decode cX8_init 64 = .ok (.iconst 4, 1) := by decide +kernel
theorem dX8_init_65 : decode cX8_init 65 = .ok (.if_icmp .ge 22, 3) := by decide +kernel
theorem dX8_init_68 : decode cX8_init 68 = .ok (.aload_n 0, 1) := by decide +kernel
theorem dX8_init_69 : decode cX8_init 69 = .ok (.getfield 39, 3) := by decide +kernel
theorem dX8_init_72 : decode cX8_init 72 = .ok (.iload_n 1, 1) := by decide +kernel
theorem dX8_init_73 : decode cX8_init 73 = .ok (.new 37, 3) := by decide +kernel
theorem dX8_init_76 : decode cX8_init 76 = .ok (.dup, 1) := by decide +kernel
theorem dX8_init_77 : decode cX8_init 77 = .ok (.invokespecial 47, 3) := by decide +kernel
theorem dX8_init_80 : decode cX8_init 80 = .ok (.aastore, 1) := by decide +kernel
theorem dX8_init_81 : decode cX8_init 81 = .ok (.iinc 1 1, 3) := by decide +kernel
theorem dX8_init_84 : decode cX8_init 84 = .ok (.goto (-21), 3) := by decide +kernel
theorem dX8_init_87 : decode cX8_init 87 = .ok (.return_, 1) := by decide +kernel
theorem dX8_bone_0 : decode cX8_bone 0 = .ok (.aload_n 0, 1) := by decide +kernel
theorem dX8_bone_1 : decode cX8_bone 1 = .ok (.getfield 12, 3) := by decide +kernel
theorem dX8_bone_4 : decode cX8_bone 4 = .ok (.iload_n 1, 1) := by decide +kernel
theorem dX8_bone_5 : decode cX8_bone 5 = .ok (.invokevirtual 48, 3) := by decide +kernel
theorem dX8_bone_8 : decode cX8_bone 8 = .ok (.astore 5, 2) := by decide +kernel
theorem dX8_bone_10 : decode cX8_bone 10 = .ok (.aload 5, 2) := by decide +kernel
theorem dX8_bone_12 : decode cX8_bone 12 = .ok (.ifnonnull 11, 3) := by decide +kernel
theorem dX8_bone_15 : decode cX8_bone 15 = .ok (.iload_n 1, 1) := by decide +kernel
theorem dX8_bone_16 : decode cX8_bone 16 = .ok (.iconst (-1), 1) := by decide +kernel
theorem dX8_bone_17 : decode cX8_bone 17 = .ok (.if_icmp .eq 6, 3) := by decide +kernel
theorem dX8_bone_20 : decode cX8_bone 20 = .ok (.bipush (-2), 2) := by decide +kernel
theorem dX8_bone_22 : decode cX8_bone 22 = .ok (.ireturn, 1) := by decide +kernel
theorem dX8_bone_23 : decode cX8_bone 23 = .ok (.iload_n 2, 1) := by decide +kernel
theorem dX8_bone_24 : decode cX8_bone 24 = .ok (.i2l, 1) := by decide +kernel
theorem dX8_bone_25 : decode cX8_bone 25 = .ok (.lconst 1, 1) := by decide +kernel
theorem dX8_bone_26 : decode cX8_bone 26 = .ok (.ldc2_w 52, 3) := by decide +kernel
theorem dX8_bone_29 : decode cX8_bone 29 = .ok (.invokestatic 54, 3) := by decide +kernel
theorem dX8_bone_32 : decode cX8_bone 32 = .ok (.ifCond .eq 18, 3) := by decide +kernel
theorem dX8_bone_35 : decode cX8_bone 35 = .ok (.iload_n 3, 1) := by decide +kernel
theorem dX8_bone_36 : decode cX8_bone 36 = .ok (.invokestatic 58, 3) := by decide +kernel
theorem dX8_bone_39 : decode cX8_bone 39 = .ok (.ifCond .eq 11, 3) := by decide +kernel
theorem dX8_bone_42 : decode cX8_bone 42 = .ok (.iload 4, 2) := by decide +kernel
theorem dX8_bone_44 : decode cX8_bone 44 = .ok (.invokestatic 58, 3) := by decide +kernel
theorem dX8_bone_47 : decode cX8_bone 47 = .ok (.ifCond .ne 6, 3) := by decide +kernel
theorem dX8_bone_50 : decode cX8_bone 50 = .ok (.bipush (-2), 2) := by decide +kernel
theorem dX8_bone_52 : decode cX8_bone 52 = .ok (.ireturn, 1) := by decide +kernel
theorem dX8_bone_53 : decode cX8_bone 53 = .ok (.aload 5, 2) := by decide +kernel
theorem dX8_bone_55 : decode cX8_bone 55 = .ok (.ifnull 15, 3) := by decide +kernel
theorem dX8_bone_58 : decode cX8_bone 58 = .ok (.aload 5, 2) := by decide +kernel
theorem dX8_bone_60 : decode cX8_bone 60 = .ok (.getfield 62, 3) := by decide +kernel
theorem dX8_bone_63 : decode cX8_bone 63 = .ok (.iconst 5, 1) := by decide +kernel
theorem dX8_bone_64 : decode cX8_bone 64 = .ok (.if_icmp .lt 6, 3) := by decide +kernel
theorem dX8_bone_67 : decode cX8_bone 67 = .ok (.bipush (-2), 2) := by decide +kernel
theorem dX8_bone_69 : decode cX8_bone 69 = .ok (.ireturn, 1) := by decide +kernel
theorem dX8_bone_70 : decode cX8_bone 70 = .ok (.aload_n 0, 1) := by decide +kernel
theorem dX8_bone_71 : decode cX8_bone 71 = .ok (.getfield 19, 3) := by decide +kernel
theorem dX8_bone_74 : decode cX8_bone 74 = .ok (.invokevirtual 67, 3) := by decide +kernel
theorem dX8_bone_77 : decode cX8_bone 77 = .ok (.ifCond .le 6, 3) := by decide +kernel
theorem dX8_bone_80 : decode cX8_bone 80 = .ok (.bipush (-3), 2) := by decide +kernel
theorem dX8_bone_82 : decode cX8_bone 82 = .ok (.ireturn, 1) := by decide +kernel
theorem dX8_bone_83 : decode cX8_bone 83 = .ok (.aload_n 0, 1) := by decide +kernel
theorem dX8_bone_84 : decode cX8_bone 84 = .ok (.getfield 12, 3) := by decide +kernel
theorem dX8_bone_87 : decode cX8_bone 87 = .ok (.getfield 71, 3) := by decide +kernel
theorem dX8_bone_90 : decode cX8_bone 90 = .ok (.bipush 10, 2) := by decide +kernel
theorem dX8_bone_92 : decode cX8_bone 92 = .ok (.if_icmp .lt 6, 3) := by decide +kernel
theorem dX8_bone_95 : decode cX8_bone 95 = .ok (.bipush (-4), 2) := by decide +kernel
theorem dX8_bone_97 : decode cX8_bone 97 = .ok (.ireturn, 1) := by decide +kernel
theorem dX8_bone_98 : decode cX8_bone 98 = .ok (.aload_n 0, 1) := by decide +kernel
theorem dX8_bone_99 : decode cX8_bone 99 = .ok (.getfield 12, 3) := by decide +kernel
theorem dX8_bone_102 : decode cX8_bone 102 = .ok (.new 63, 3) := by decide +kernel
theorem dX8_bone_105 : decode cX8_bone 105 = .ok (.dup, 1) := by decide +kernel
theorem dX8_bone_106 : decode cX8_bone 106 = .ok (.aload 5, 2) := by decide +kernel
theorem dX8_bone_108 : decode cX8_bone 108 = .ok (.iload_n 1, 1) := by decide +kernel
theorem dX8_bone_109 : decode cX8_bone 109 = .ok (.iload_n 2, 1) := by decide +kernel
theorem dX8_bone_110 : decode cX8_bone 110 = .ok (.iload_n 3, 1) := by decide +kernel
theorem dX8_bone_111 : decode cX8_bone 111 = .ok (.iload 4, 2) := by decide +kernel
theorem dX8_bone_113 : decode cX8_bone 113 = .ok (.invokespecial 74, 3) := by decide +kernel
theorem dX8_bone_116 : decode cX8_bone 116 = .ok (.invokevirtual 77, 3) := by decide +kernel
theorem dX8_bone_119 : decode cX8_bone 119 = .ok (.ireturn, 1) := by decide +kernel
theorem dX8_about_0 : decode cX8_about 0 = .ok (.aload_n 0, 1) := by decide +kernel
theorem dX8_about_1 : decode cX8_about 1 = .ok (.getfield 12, 3) := by decide +kernel
theorem dX8_about_4 : decode cX8_about 4 = .ok (.iload_n 1, 1) := by decide +kernel
theorem dX8_about_5 : decode cX8_about 5 = .ok (.invokevirtual 48, 3) := by decide +kernel
theorem dX8_about_8 : decode cX8_about 8 = .ok (.astore_n 3, 1) := by decide +kernel
theorem dX8_about_9 : decode cX8_about 9 = .ok (.aload_n 3, 1) := by decide +kernel
theorem dX8_about_10 : decode cX8_about 10 = .ok (.ifnonnull 6, 3) := by decide +kernel
theorem dX8_about_13 : decode cX8_about 13 = .ok (.bipush (-2), 2) := by decide +kernel
theorem dX8_about_15 : decode cX8_about 15 = .ok (.ireturn, 1) := by decide +kernel
theorem dX8_about_16 : decode cX8_about 16 = .ok (.iload_n 2, 1) := by decide +kernel
theorem dX8_about_17 : decode cX8_about 17 = .ok (.tableswitch 60 0 4 #[35, 40, 45, 50, 55], 35) := by decide +kernel
theorem dX8_about_52 : decode cX8_about 52 = .ok (.aload_n 3, 1) := by decide +kernel
theorem dX8_about_53 : decode cX8_about 53 = .ok (.getfield 81, 3) := by decide +kernel
theorem dX8_about_56 : decode cX8_about 56 = .ok (.ireturn, 1) := by decide +kernel
theorem dX8_about_57 : decode cX8_about 57 = .ok (.aload_n 3, 1) := by decide +kernel
theorem dX8_about_58 : decode cX8_about 58 = .ok (.getfield 84, 3) := by decide +kernel
theorem dX8_about_61 : decode cX8_about 61 = .ok (.ireturn, 1) := by decide +kernel
theorem dX8_about_62 : decode cX8_about 62 = .ok (.aload_n 3, 1) := by decide +kernel
theorem dX8_about_63 : decode cX8_about 63 = .ok (.getfield 87, 3) := by decide +kernel
theorem dX8_about_66 : decode cX8_about 66 = .ok (.ireturn, 1) := by decide +kernel
theorem dX8_about_67 : decode cX8_about 67 = .ok (.aload_n 3, 1) := by decide +kernel
theorem dX8_about_68 : decode cX8_about 68 = .ok (.getfield 90, 3) := by decide +kernel
theorem dX8_about_71 : decode cX8_about 71 = .ok (.ireturn, 1) := by decide +kernel
theorem dX8_about_72 : decode cX8_about 72 = .ok (.aload_n 3, 1) := by decide +kernel
theorem dX8_about_73 : decode cX8_about 73 = .ok (.getfield 93, 3) := by decide +kernel
theorem dX8_about_76 : decode cX8_about 76 = .ok (.ireturn, 1) := by decide +kernel
theorem dX8_about_77 : decode cX8_about 77 = .ok (.bipush (-2), 2) := by decide +kernel
theorem dX8_about_79 : decode cX8_about 79 = .ok (.ireturn, 1) := by decide +kernel
theorem dX8_turn_0 : decode cX8_turn 0 = .ok (.aload_n 0, 1) := by decide +kernel
theorem dX8_turn_1 : decode cX8_turn 1 = .ok (.getfield 12, 3) := by decide +kernel
theorem dX8_turn_4 : decode cX8_turn 4 = .ok (.iload_n 1, 1) := by decide +kernel
theorem dX8_turn_5 : decode cX8_turn 5 = .ok (.invokevirtual 48, 3) := by decide +kernel
theorem dX8_turn_8 : decode cX8_turn 8 = .ok (.astore_n 3, 1) := by decide +kernel
theorem dX8_turn_9 : decode cX8_turn 9 = .ok (.aload_n 3, 1) := by decide +kernel
theorem dX8_turn_10 : decode cX8_turn 10 = .ok (.ifnull 10, 3) := by decide +kernel
theorem dX8_turn_13 : decode cX8_turn 13 = .ok (.iload_n 2, 1) := by decide +kernel
theorem dX8_turn_14 : decode cX8_turn 14 = .ok (.invokestatic 58, 3) := by decide +kernel
theorem dX8_turn_17 : decode cX8_turn 17 = .ok (.ifCond .ne 6, 3) := by decide +kernel
theorem dX8_turn_20 : decode cX8_turn 20 = .ok (.bipush (-2), 2) := by decide +kernel
theorem dX8_turn_22 : decode cX8_turn 22 = .ok (.ireturn, 1) := by decide +kernel
theorem dX8_turn_23 : decode cX8_turn 23 = .ok (.aload_n 3, 1) := by decide +kernel
theorem dX8_turn_24 : decode cX8_turn 24 = .ok (.iload_n 2, 1) := by decide +kernel
theorem dX8_turn_25 : decode cX8_turn 25 = .ok (.invokevirtual 96, 3) := by decide +kernel
theorem dX8_turn_28 : decode cX8_turn 28 = .ok (.ifCond .ne 6, 3) := by decide +kernel
theorem dX8_turn_31 : decode cX8_turn 31 = .ok (.bipush (-3), 2) := by decide +kernel
theorem dX8_turn_33 : decode cX8_turn 33 = .ok (.ireturn, 1) := by decide +kernel
theorem dX8_turn_34 : decode cX8_turn 34 = .ok (.aload_n 3, 1) := by decide +kernel
theorem dX8_turn_35 : decode cX8_turn 35 = .ok (.getfield 93, 3) := by decide +kernel
theorem dX8_turn_38 : decode cX8_turn 38 = .ok (.istore 4, 2) := by decide +kernel
theorem dX8_turn_40 : decode cX8_turn 40 = .ok (.aload_n 3, 1) := by decide +kernel
theorem dX8_turn_41 : decode cX8_turn 41 = .ok (.iload_n 2, 1) := by decide +kernel
theorem dX8_turn_42 : decode cX8_turn 42 = .ok (.putfield 93, 3) := by decide +kernel
theorem dX8_turn_45 : decode cX8_turn 45 = .ok (.aload_n 0, 1) := by decide +kernel
theorem dX8_turn_46 : decode cX8_turn 46 = .ok (.getfield 12, 3) := by decide +kernel
theorem dX8_turn_49 : decode cX8_turn 49 = .ok (.invokevirtual 99, 3) := by decide +kernel
theorem dX8_turn_52 : decode cX8_turn 52 = .ok (.iload 4, 2) := by decide +kernel
theorem dX8_turn_54 : decode cX8_turn 54 = .ok (.ireturn, 1) := by decide +kernel
theorem dX8_root_0 : decode cX8_root 0 = .ok (.lload_n 1, 1) := by decide +kernel
theorem dX8_root_1 : decode cX8_root 1 = .ok (.lload_n 3, 1) := by decide +kernel
theorem dX8_root_2 : decode cX8_root 2 = .ok (.invokestatic 102, 3) := by decide +kernel
theorem dX8_root_5 : decode cX8_root 5 = .ok (.ifCond .ne 6, 3) := by decide +kernel
theorem dX8_root_8 : decode cX8_root 8 = .ok (.bipush (-2), 2) := by decide +kernel
theorem dX8_root_10 : decode cX8_root 10 = .ok (.ireturn, 1) := by decide +kernel
theorem dX8_root_11 : decode cX8_root 11 = .ok (.aload_n 0, 1) := by decide +kernel
theorem dX8_root_12 : decode cX8_root 12 = .ok (.getfield 12, 3) := by decide +kernel
theorem dX8_root_15 : decode cX8_root 15 = .ok (.getfield 106, 3) := by decide +kernel
theorem dX8_root_18 : decode cX8_root 18 = .ok (.iconst (-1), 1) := by decide +kernel
theorem dX8_root_19 : decode cX8_root 19 = .ok (.if_icmp .eq 6, 3) := by decide +kernel
theorem dX8_root_22 : decode cX8_root 22 = .ok (.bipush (-3), 2) := by decide +kernel
theorem dX8_root_24 : decode cX8_root 24 = .ok (.ireturn, 1) := by decide +kernel
theorem dX8_root_25 : decode cX8_root 25 = .ok (.aload_n 0, 1) := by decide +kernel
theorem dX8_root_26 : decode cX8_root 26 = .ok (.getfield 12, 3) := by decide +kernel
theorem dX8_root_29 : decode cX8_root 29 = .ok (.lload_n 1, 1) := by decide +kernel
theorem dX8_root_30 : decode cX8_root 30 = .ok (.lload_n 3, 1) := by decide +kernel
theorem dX8_root_31 : decode cX8_root 31 = .ok (.invokevirtual 109, 3) := by decide +kernel
theorem dX8_root_34 : decode cX8_root 34 = .ok (.iconst 1, 1) := by decide +kernel
theorem dX8_root_35 : decode cX8_root 35 = .ok (.ireturn, 1) := by decide +kernel
theorem dX8_end_0 : decode cX8_end 0 = .ok (.aload_n 0, 1) := by decide +kernel
theorem dX8_end_1 : decode cX8_end 1 = .ok (.getfield 12, 3) := by decide +kernel
theorem dX8_end_4 : decode cX8_end 4 = .ok (.iload_n 1, 1) := by decide +kernel
theorem dX8_end_5 : decode cX8_end 5 = .ok (.invokevirtual 48, 3) := by decide +kernel
theorem dX8_end_8 : decode cX8_end 8 = .ok (.astore_n 3, 1) := by decide +kernel
theorem dX8_end_9 : decode cX8_end 9 = .ok (.aload_n 3, 1) := by decide +kernel
theorem dX8_end_10 : decode cX8_end 10 = .ok (.ifnonnull 8, 3) := by decide +kernel
theorem dX8_end_13 : decode cX8_end 13 = .ok (.iload_n 1, 1) := by decide +kernel
theorem dX8_end_14 : decode cX8_end 14 = .ok (.iconst (-1), 1) := by decide +kernel
theorem dX8_end_15 : decode cX8_end 15 = .ok (.if_icmp .ne 13, 3) := by decide +kernel
theorem dX8_end_18 : decode cX8_end 18 = .ok (.iload_n 2, 1) := by decide +kernel
theorem dX8_end_19 : decode cX8_end 19 = .ok (.i2l, 1) := by decide +kernel
theorem dX8_end_20 : decode cX8_end 20 = .ok (.lconst 0, 1) := by decide +kernel
theorem dX8_end_21 : decode cX8_end 21 = .ok (.lconst 1, 1) := by decide +kernel
theorem dX8_end_22 : decode cX8_end 22 = .ok (.invokestatic 54, 3) := by decide +kernel
theorem dX8_end_25 : decode cX8_end 25 = .ok (.ifCond .ne 9, 3) := by decide +kernel
theorem dX8_end_28 : decode cX8_end 28 = .ok (.bipush (-2), 2) := by decide +kernel
theorem dX8_end_30 : decode cX8_end 30 = .ok (.invokestatic 113, 3) := by decide +kernel
theorem dX8_end_33 : decode cX8_end 33 = .ok (.lreturn, 1) := by decide +kernel
theorem dX8_end_34 : decode cX8_end 34 = .ok (.aload_n 3, 1) := by decide +kernel
theorem dX8_end_35 : decode cX8_end 35 = .ok (.ifnonnull 25, 3) := by decide +kernel
theorem dX8_end_38 : decode cX8_end 38 = .ok (.iload_n 2, 1) := by decide +kernel
theorem dX8_end_39 : decode cX8_end 39 = .ok (.ifCond .ne 13, 3) := by decide +kernel
theorem dX8_end_42 : decode cX8_end 42 = .ok (.aload_n 0, 1) := by decide +kernel
theorem dX8_end_43 : decode cX8_end 43 = .ok (.getfield 12, 3) := by decide +kernel
theorem dX8_end_46 : decode cX8_end 46 = .ok (.getfield 117, 3) := by decide +kernel
theorem dX8_end_49 : decode cX8_end 49 = .ok (.goto 10, 3) := by decide +kernel
theorem dX8_end_52 : decode cX8_end 52 = .ok (.aload_n 0, 1) := by decide +kernel
theorem dX8_end_53 : decode cX8_end 53 = .ok (.getfield 12, 3) := by decide +kernel
theorem dX8_end_56 : decode cX8_end 56 = .ok (.getfield 121, 3) := by decide +kernel
theorem dX8_end_59 : decode cX8_end 59 = .ok (.lreturn, 1) := by decide +kernel
theorem dX8_end_60 : decode cX8_end 60 = .ok (.iload_n 2, 1) := by decide +kernel
theorem dX8_end_61 : decode cX8_end 61 = .ok (.ifCond .ne 10, 3) := by decide +kernel
theorem dX8_end_64 : decode cX8_end 64 = .ok (.aload_n 3, 1) := by decide +kernel
theorem dX8_end_65 : decode cX8_end 65 = .ok (.getfield 124, 3) := by decide +kernel
theorem dX8_end_68 : decode cX8_end 68 = .ok (.goto 7, 3) := by decide +kernel
theorem dX8_end_71 : decode cX8_end 71 = .ok (.aload_n 3, 1) := by decide +kernel
theorem dX8_end_72 : decode cX8_end 72 = .ok (.getfield 127, 3) := by decide +kernel
theorem dX8_end_75 : decode cX8_end 75 = .ok (.lreturn, 1) := by decide +kernel
theorem dX8_far_0 : decode cX8_far 0 = .ok (.aload_n 0, 1) := by decide +kernel
theorem dX8_far_1 : decode cX8_far 1 = .ok (.getfield 12, 3) := by decide +kernel
theorem dX8_far_4 : decode cX8_far 4 = .ok (.iload_n 1, 1) := by decide +kernel
theorem dX8_far_5 : decode cX8_far 5 = .ok (.invokevirtual 48, 3) := by decide +kernel
theorem dX8_far_8 : decode cX8_far 8 = .ok (.astore 6, 2) := by decide +kernel
theorem dX8_far_10 : decode cX8_far 10 = .ok (.aload 6, 2) := by decide +kernel
theorem dX8_far_12 : decode cX8_far 12 = .ok (.ifnull 12, 3) := by decide +kernel
theorem dX8_far_15 : decode cX8_far 15 = .ok (.lload_n 2, 1) := by decide +kernel
theorem dX8_far_16 : decode cX8_far 16 = .ok (.lload 4, 2) := by decide +kernel
theorem dX8_far_18 : decode cX8_far 18 = .ok (.invokestatic 102, 3) := by decide +kernel
theorem dX8_far_21 : decode cX8_far 21 = .ok (.ifCond .ne 9, 3) := by decide +kernel
theorem dX8_far_24 : decode cX8_far 24 = .ok (.bipush (-2), 2) := by decide +kernel
theorem dX8_far_26 : decode cX8_far 26 = .ok (.invokestatic 113, 3) := by decide +kernel
theorem dX8_far_29 : decode cX8_far 29 = .ok (.lreturn, 1) := by decide +kernel
theorem dX8_far_30 : decode cX8_far 30 = .ok (.aload 6, 2) := by decide +kernel
theorem dX8_far_32 : decode cX8_far 32 = .ok (.lload_n 2, 1) := by decide +kernel
theorem dX8_far_33 : decode cX8_far 33 = .ok (.lload 4, 2) := by decide +kernel
theorem dX8_far_35 : decode cX8_far 35 = .ok (.invokevirtual 130, 3) := by decide +kernel
theorem dX8_far_38 : decode cX8_far 38 = .ok (.lreturn, 1) := by decide +kernel
theorem dX8_lock_0 : decode cX8_lock 0 = .ok (.iload_n 1, 1) := by decide +kernel
theorem dX8_lock_1 : decode cX8_lock 1 = .ok (.iconst (-1), 1) := by decide +kernel
theorem dX8_lock_2 : decode cX8_lock 2 = .ok (.if_icmp .eq 17, 3) := by decide +kernel
theorem dX8_lock_5 : decode cX8_lock 5 = .ok (.aload_n 0, 1) := by decide +kernel
theorem dX8_lock_6 : decode cX8_lock 6 = .ok (.getfield 12, 3) := by decide +kernel
theorem dX8_lock_9 : decode cX8_lock 9 = .ok (.iload_n 1, 1) := by decide +kernel
theorem dX8_lock_10 : decode cX8_lock 10 = .ok (.invokevirtual 48, 3) := by decide +kernel
theorem dX8_lock_13 : decode cX8_lock 13 = .ok (.ifnonnull 6, 3) := by decide +kernel
theorem dX8_lock_16 : decode cX8_lock 16 = .ok (.bipush (-2), 2) := by decide +kernel
theorem dX8_lock_18 : decode cX8_lock 18 = .ok (.ireturn, 1) := by decide +kernel
theorem dX8_lock_19 : decode cX8_lock 19 = .ok (.aload_n 0, 1) := by decide +kernel
theorem dX8_lock_20 : decode cX8_lock 20 = .ok (.getfield 12, 3) := by decide +kernel
theorem dX8_lock_23 : decode cX8_lock 23 = .ok (.getfield 106, 3) := by decide +kernel
theorem dX8_lock_26 : decode cX8_lock 26 = .ok (.istore_n 2, 1) := by decide +kernel
theorem dX8_lock_27 : decode cX8_lock 27 = .ok (.aload_n 0, 1) := by decide +kernel
theorem dX8_lock_28 : decode cX8_lock 28 = .ok (.getfield 12, 3) := by decide +kernel
theorem dX8_lock_31 : decode cX8_lock 31 = .ok (.iload_n 1, 1) := by decide +kernel
theorem dX8_lock_32 : decode cX8_lock 32 = .ok (.putfield 106, 3) := by decide +kernel
theorem dX8_lock_35 : decode cX8_lock 35 = .ok (.iload_n 2, 1) := by decide +kernel
theorem dX8_lock_36 : decode cX8_lock 36 = .ok (.ireturn, 1) := by decide +kernel
theorem dX8_two_0 : decode cX8_two 0 = .ok (.aload_n 0, 1) := by decide +kernel
theorem dX8_two_1 : decode cX8_two 1 = .ok (.getfield 12, 3) := by decide +kernel
theorem dX8_two_4 : decode cX8_two 4 = .ok (.iload_n 1, 1) := by decide +kernel
theorem dX8_two_5 : decode cX8_two 5 = .ok (.invokevirtual 48, 3) := by decide +kernel
theorem dX8_two_8 : decode cX8_two 8 = .ok (.astore 6, 2) := by decide +kernel
theorem dX8_two_10 : decode cX8_two 10 = .ok (.aload 6, 2) := by decide +kernel
theorem dX8_two_12 : decode cX8_two 12 = .ok (.ifnull 12, 3) := by decide +kernel
theorem dX8_two_15 : decode cX8_two 15 = .ok (.lload_n 2, 1) := by decide +kernel
theorem dX8_two_16 : decode cX8_two 16 = .ok (.lload 4, 2) := by decide +kernel
theorem dX8_two_18 : decode cX8_two 18 = .ok (.invokestatic 102, 3) := by decide +kernel
theorem dX8_two_21 : decode cX8_two 21 = .ok (.ifCond .ne 9, 3) := by decide +kernel
theorem dX8_two_24 : decode cX8_two 24 = .ok (.bipush (-2), 2) := by decide +kernel
theorem dX8_two_26 : decode cX8_two 26 = .ok (.invokestatic 113, 3) := by decide +kernel
theorem dX8_two_29 : decode cX8_two 29 = .ok (.lreturn, 1) := by decide +kernel
theorem dX8_two_30 : decode cX8_two 30 = .ok (.aload_n 0, 1) := by decide +kernel
theorem dX8_two_31 : decode cX8_two 31 = .ok (.getfield 12, 3) := by decide +kernel
theorem dX8_two_34 : decode cX8_two 34 = .ok (.getfield 106, 3) := by decide +kernel
theorem dX8_two_37 : decode cX8_two 37 = .ok (.iconst (-1), 1) := by decide +kernel
theorem dX8_two_38 : decode cX8_two 38 = .ok (.if_icmp .eq 9, 3) := by decide +kernel
theorem dX8_two_41 : decode cX8_two 41 = .ok (.bipush (-3), 2) := by decide +kernel
theorem dX8_two_43 : decode cX8_two 43 = .ok (.invokestatic 113, 3) := by decide +kernel
theorem dX8_two_46 : decode cX8_two 46 = .ok (.lreturn, 1) := by decide +kernel
theorem dX8_two_47 : decode cX8_two 47 = .ok (.aload_n 0, 1) := by decide +kernel
theorem dX8_two_48 : decode cX8_two 48 = .ok (.getfield 12, 3) := by decide +kernel
theorem dX8_two_51 : decode cX8_two 51 = .ok (.aload 6, 2) := by decide +kernel
theorem dX8_two_53 : decode cX8_two 53 = .ok (.lload_n 2, 1) := by decide +kernel
theorem dX8_two_54 : decode cX8_two 54 = .ok (.lload 4, 2) := by decide +kernel
theorem dX8_two_56 : decode cX8_two 56 = .ok (.invokevirtual 134, 3) := by decide +kernel
theorem dX8_two_59 : decode cX8_two 59 = .ok (.aload 6, 2) := by decide +kernel
theorem dX8_two_61 : decode cX8_two 61 = .ok (.lload_n 2, 1) := by decide +kernel
theorem dX8_two_62 : decode cX8_two 62 = .ok (.lload 4, 2) := by decide +kernel
theorem dX8_two_64 : decode cX8_two 64 = .ok (.invokevirtual 130, 3) := by decide +kernel
theorem dX8_two_67 : decode cX8_two 67 = .ok (.lreturn, 1) := by decide +kernel
theorem dX8_rounds_0 : decode cX8_rounds 0 = .ok (.aload_n 0, 1) := by decide +kernel
theorem dX8_rounds_1 : decode cX8_rounds 1 = .ok (.getfield 12, 3) := by decide +kernel
theorem dX8_rounds_4 : decode cX8_rounds 4 = .ok (.iload_n 1, 1) := by decide +kernel
theorem dX8_rounds_5 : decode cX8_rounds 5 = .ok (.invokevirtual 48, 3) := by decide +kernel
theorem dX8_rounds_8 : decode cX8_rounds 8 = .ok (.astore 7, 2) := by decide +kernel
theorem dX8_rounds_10 : decode cX8_rounds 10 = .ok (.aload 7, 2) := by decide +kernel
theorem dX8_rounds_12 : decode cX8_rounds 12 = .ok (.ifnull 25, 3) := by decide +kernel
theorem dX8_rounds_15 : decode cX8_rounds 15 = .ok (.lload_n 2, 1) := by decide +kernel
theorem dX8_rounds_16 : decode cX8_rounds 16 = .ok (.lload 4, 2) := by decide +kernel
theorem dX8_rounds_18 : decode cX8_rounds 18 = .ok (.invokestatic 102, 3) := by decide +kernel
theorem dX8_rounds_21 : decode cX8_rounds 21 = .ok (.ifCond .eq 16, 3) := by decide +kernel
theorem dX8_rounds_24 : decode cX8_rounds 24 = .ok (.iload 6, 2) := by decide +kernel
theorem dX8_rounds_26 : decode cX8_rounds 26 = .ok (.i2l, 1) := by decide +kernel
theorem dX8_rounds_27 : decode cX8_rounds 27 = .ok (.lconst 1, 1) := by decide +kernel
theorem dX8_rounds_28 : decode cX8_rounds 28 = .ok (.ldc2_w 138, 3) := by decide +kernel
theorem dX8_rounds_31 : decode cX8_rounds 31 = .ok (.invokestatic 54, 3) := by decide +kernel
theorem dX8_rounds_34 : decode cX8_rounds 34 = .ok (.ifCond .ne 9, 3) := by decide +kernel
theorem dX8_rounds_37 : decode cX8_rounds 37 = .ok (.bipush (-2), 2) := by decide +kernel
theorem dX8_rounds_39 : decode cX8_rounds 39 = .ok (.invokestatic 113, 3) := by decide +kernel
theorem dX8_rounds_42 : decode cX8_rounds 42 = .ok (.lreturn, 1) := by decide +kernel
theorem dX8_rounds_43 : decode cX8_rounds 43 = .ok (.aload_n 0, 1) := by decide +kernel
theorem dX8_rounds_44 : decode cX8_rounds 44 = .ok (.getfield 12, 3) := by decide +kernel
theorem dX8_rounds_47 : decode cX8_rounds 47 = .ok (.getfield 106, 3) := by decide +kernel
theorem dX8_rounds_50 : decode cX8_rounds 50 = .ok (.iconst (-1), 1) := by decide +kernel
theorem dX8_rounds_51 : decode cX8_rounds 51 = .ok (.if_icmp .eq 9, 3) := by decide +kernel
theorem dX8_rounds_54 : decode cX8_rounds 54 = .ok (.bipush (-3), 2) := by decide +kernel
theorem dX8_rounds_56 : decode cX8_rounds 56 = .ok (.invokestatic 113, 3) := by decide +kernel
theorem dX8_rounds_59 : decode cX8_rounds 59 = .ok (.lreturn, 1) := by decide +kernel
theorem dX8_rounds_60 : decode cX8_rounds 60 = .ok (.aload_n 0, 1) := by decide +kernel
theorem dX8_rounds_61 : decode cX8_rounds 61 = .ok (.getfield 12, 3) := by decide +kernel
theorem dX8_rounds_64 : decode cX8_rounds 64 = .ok (.aload 7, 2) := by decide +kernel
theorem dX8_rounds_66 : decode cX8_rounds 66 = .ok (.lload_n 2, 1) := by decide +kernel
theorem dX8_rounds_67 : decode cX8_rounds 67 = .ok (.lload 4, 2) := by decide +kernel
theorem dX8_rounds_69 : decode cX8_rounds 69 = .ok (.iload 6, 2) := by decide +kernel
theorem dX8_rounds_71 : decode cX8_rounds 71 = .ok (.invokevirtual 140, 3) := by decide +kernel
theorem dX8_rounds_74 : decode cX8_rounds 74 = .ok (.aload 7, 2) := by decide +kernel
theorem dX8_rounds_76 : decode cX8_rounds 76 = .ok (.lload_n 2, 1) := by decide +kernel
theorem dX8_rounds_77 : decode cX8_rounds 77 = .ok (.lload 4, 2) := by decide +kernel
theorem dX8_rounds_79 : decode cX8_rounds 79 = .ok (.invokevirtual 130, 3) := by decide +kernel
theorem dX8_rounds_82 : decode cX8_rounds 82 = .ok (.lreturn, 1) := by decide +kernel
theorem dX8_frame_0 : decode cX8_frame 0 = .ok (.aload_n 0, 1) := by decide +kernel
theorem dX8_frame_1 : decode cX8_frame 1 = .ok (.getfield 19, 3) := by decide +kernel
theorem dX8_frame_4 : decode cX8_frame 4 = .ok (.iload_n 1, 1) := by decide +kernel
theorem dX8_frame_5 : decode cX8_frame 5 = .ok (.invokevirtual 144, 3) := by decide +kernel
theorem dX8_frame_8 : decode cX8_frame 8 = .ok (.astore_n 2, 1) := by decide +kernel
theorem dX8_frame_9 : decode cX8_frame 9 = .ok (.aload_n 2, 1) := by decide +kernel
theorem dX8_frame_10 : decode cX8_frame 10 = .ok (.ifnonnull 6, 3) := by decide +kernel
theorem dX8_frame_13 : decode cX8_frame 13 = .ok (.bipush (-2), 2) := by decide +kernel
theorem dX8_frame_15 : decode cX8_frame 15 = .ok (.ireturn, 1) := by decide +kernel
theorem dX8_frame_16 : decode cX8_frame 16 = .ok (.aload_n 0, 1) := by decide +kernel
theorem dX8_frame_17 : decode cX8_frame 17 = .ok (.getfield 12, 3) := by decide +kernel
theorem dX8_frame_20 : decode cX8_frame 20 = .ok (.getfield 71, 3) := by decide +kernel
theorem dX8_frame_23 : decode cX8_frame 23 = .ok (.ifCond .ne 6, 3) := by decide +kernel
theorem dX8_frame_26 : decode cX8_frame 26 = .ok (.bipush (-3), 2) := by decide +kernel
theorem dX8_frame_28 : decode cX8_frame 28 = .ok (.ireturn, 1) := by decide +kernel
theorem dX8_frame_29 : decode cX8_frame 29 = .ok (.aload_n 2, 1) := by decide +kernel
theorem dX8_frame_30 : decode cX8_frame 30 = .ok (.getfield 147, 3) := by decide +kernel
theorem dX8_frame_33 : decode cX8_frame 33 = .ok (.bipush 30, 2) := by decide +kernel
theorem dX8_frame_35 : decode cX8_frame 35 = .ok (.if_icmp .lt 6, 3) := by decide +kernel
theorem dX8_frame_38 : decode cX8_frame 38 = .ok (.bipush (-4), 2) := by decide +kernel
theorem dX8_frame_40 : decode cX8_frame 40 = .ok (.ireturn, 1) := by decide +kernel
theorem dX8_frame_41 : decode cX8_frame 41 = .ok (.aload_n 0, 1) := by decide +kernel
theorem dX8_frame_42 : decode cX8_frame 42 = .ok (.getfield 12, 3) := by decide +kernel
theorem dX8_frame_45 : decode cX8_frame 45 = .ok (.aload_n 2, 1) := by decide +kernel
theorem dX8_frame_46 : decode cX8_frame 46 = .ok (.getfield 150, 3) := by decide +kernel
theorem dX8_frame_49 : decode cX8_frame 49 = .ok (.aload_n 2, 1) := by decide +kernel
theorem dX8_frame_50 : decode cX8_frame 50 = .ok (.getfield 147, 3) := by decide +kernel
theorem dX8_frame_53 : decode cX8_frame 53 = .ok (.aaload, 1) := by decide +kernel
theorem dX8_frame_54 : decode cX8_frame 54 = .ok (.invokevirtual 154, 3) := by decide +kernel
theorem dX8_frame_57 : decode cX8_frame 57 = .ok (.aload_n 2, 1) := by decide +kernel
theorem dX8_frame_58 : decode cX8_frame 58 = .ok (.dup, 1) := by decide +kernel
theorem dX8_frame_59 : decode cX8_frame 59 = .ok (.getfield 147, 3) := by decide +kernel
theorem dX8_frame_62 : decode cX8_frame 62 = .ok (.iconst 1, 1) := by decide +kernel
theorem dX8_frame_63 : decode cX8_frame 63 = .ok (.iadd, 1) := by decide +kernel
theorem dX8_frame_64 : decode cX8_frame 64 = .ok (.putfield 147, 3) := by decide +kernel
theorem dX8_frame_67 : decode cX8_frame 67 = .ok (.aload_n 0, 1) := by decide +kernel
theorem dX8_frame_68 : decode cX8_frame 68 = .ok (.getfield 19, 3) := by decide +kernel
theorem dX8_frame_71 : decode cX8_frame 71 = .ok (.aload_n 0, 1) := by decide +kernel
theorem dX8_frame_72 : decode cX8_frame 72 = .ok (.getfield 12, 3) := by decide +kernel
theorem dX8_frame_75 : decode cX8_frame 75 = .ok (.getfield 71, 3) := by decide +kernel
theorem dX8_frame_78 : decode cX8_frame 78 = .ok (.putfield 158, 3) := by decide +kernel
theorem dX8_frame_81 : decode cX8_frame 81 = .ok (.aload_n 2, 1) := by decide +kernel
theorem dX8_frame_82 : decode cX8_frame 82 = .ok (.getfield 147, 3) := by decide +kernel
theorem dX8_frame_85 : decode cX8_frame 85 = .ok (.ireturn, 1) := by decide +kernel
theorem dX8_clear_0 : decode cX8_clear 0 = .ok (.aload_n 0, 1) := by decide +kernel
theorem dX8_clear_1 : decode cX8_clear 1 = .ok (.getfield 19, 3) := by decide +kernel
theorem dX8_clear_4 : decode cX8_clear 4 = .ok (.iload_n 1, 1) := by decide +kernel
theorem dX8_clear_5 : decode cX8_clear 5 = .ok (.invokevirtual 144, 3) := by decide +kernel
theorem dX8_clear_8 : decode cX8_clear 8 = .ok (.astore_n 2, 1) := by decide +kernel
theorem dX8_clear_9 : decode cX8_clear 9 = .ok (.aload_n 2, 1) := by decide +kernel
theorem dX8_clear_10 : decode cX8_clear 10 = .ok (.ifnonnull 6, 3) := by decide +kernel
theorem dX8_clear_13 : decode cX8_clear 13 = .ok (.bipush (-2), 2) := by decide +kernel
theorem dX8_clear_15 : decode cX8_clear 15 = .ok (.ireturn, 1) := by decide +kernel
theorem dX8_clear_16 : decode cX8_clear 16 = .ok (.aload_n 2, 1) := by decide +kernel
theorem dX8_clear_17 : decode cX8_clear 17 = .ok (.getfield 147, 3) := by decide +kernel
theorem dX8_clear_20 : decode cX8_clear 20 = .ok (.istore_n 3, 1) := by decide +kernel
theorem dX8_clear_21 : decode cX8_clear 21 = .ok (.aload_n 2, 1) := by decide +kernel
theorem dX8_clear_22 : decode cX8_clear 22 = .ok (.iconst 0, 1) := by decide +kernel
theorem dX8_clear_23 : decode cX8_clear 23 = .ok (.putfield 147, 3) := by decide +kernel
theorem dX8_clear_26 : decode cX8_clear 26 = .ok (.iload_n 3, 1) := by decide +kernel
theorem dX8_clear_27 : decode cX8_clear 27 = .ok (.ireturn, 1) := by decide +kernel
theorem dX8_show_0 : decode cX8_show 0 = .ok (.aload_n 0, 1) := by decide +kernel
theorem dX8_show_1 : decode cX8_show 1 = .ok (.getfield 19, 3) := by decide +kernel
theorem dX8_show_4 : decode cX8_show 4 = .ok (.iload_n 1, 1) := by decide +kernel
theorem dX8_show_5 : decode cX8_show 5 = .ok (.iload_n 2, 1) := by decide +kernel
theorem dX8_show_6 : decode cX8_show 6 = .ok (.invokevirtual 161, 3) := by decide +kernel
theorem dX8_show_9 : decode cX8_show 9 = .ok (.astore_n 3, 1) := by decide +kernel
theorem dX8_show_10 : decode cX8_show 10 = .ok (.aload_n 3, 1) := by decide +kernel
theorem dX8_show_11 : decode cX8_show 11 = .ok (.ifnonnull 6, 3) := by decide +kernel
theorem dX8_show_14 : decode cX8_show 14 = .ok (.bipush (-2), 2) := by decide +kernel
theorem dX8_show_16 : decode cX8_show 16 = .ok (.ireturn, 1) := by decide +kernel
theorem dX8_show_17 : decode cX8_show 17 = .ok (.aload_n 0, 1) := by decide +kernel
theorem dX8_show_18 : decode cX8_show 18 = .ok (.getfield 12, 3) := by decide +kernel
theorem dX8_show_21 : decode cX8_show 21 = .ok (.aload_n 3, 1) := by decide +kernel
theorem dX8_show_22 : decode cX8_show 22 = .ok (.invokevirtual 165, 3) := by decide +kernel
theorem dX8_show_25 : decode cX8_show 25 = .ok (.iconst 1, 1) := by decide +kernel
theorem dX8_show_26 : decode cX8_show 26 = .ok (.ireturn, 1) := by decide +kernel
theorem dX8_at_0 : decode cX8_at 0 = .ok (.aload_n 0, 1) := by decide +kernel
theorem dX8_at_1 : decode cX8_at 1 = .ok (.getfield 19, 3) := by decide +kernel
theorem dX8_at_4 : decode cX8_at 4 = .ok (.iload_n 1, 1) := by decide +kernel
theorem dX8_at_5 : decode cX8_at 5 = .ok (.iload_n 2, 1) := by decide +kernel
theorem dX8_at_6 : decode cX8_at 6 = .ok (.invokevirtual 161, 3) := by decide +kernel
theorem dX8_at_9 : decode cX8_at 9 = .ok (.astore 4, 2) := by decide +kernel
theorem dX8_at_11 : decode cX8_at 11 = .ok (.aload 4, 2) := by decide +kernel
theorem dX8_at_13 : decode cX8_at 13 = .ok (.ifnull 22, 3) := by decide +kernel
theorem dX8_at_16 : decode cX8_at 16 = .ok (.iload_n 3, 1) := by decide +kernel
theorem dX8_at_17 : decode cX8_at 17 = .ok (.i2l, 1) := by decide +kernel
theorem dX8_at_18 : decode cX8_at 18 = .ok (.lconst 0, 1) := by decide +kernel
theorem dX8_at_19 : decode cX8_at 19 = .ok (.aload_n 0, 1) := by decide +kernel
theorem dX8_at_20 : decode cX8_at 20 = .ok (.getfield 12, 3) := by decide +kernel
theorem dX8_at_23 : decode cX8_at 23 = .ok (.getfield 71, 3) := by decide +kernel
theorem dX8_at_26 : decode cX8_at 26 = .ok (.iconst 1, 1) := by decide +kernel
theorem dX8_at_27 : decode cX8_at 27 = .ok (.isub, 1) := by decide +kernel
theorem dX8_at_28 : decode cX8_at 28 = .ok (.i2l, 1) := by decide +kernel
theorem dX8_at_29 : decode cX8_at 29 = .ok (.invokestatic 54, 3) := by decide +kernel
theorem dX8_at_32 : decode cX8_at 32 = .ok (.ifCond .ne 6, 3) := by decide +kernel
theorem dX8_at_35 : decode cX8_at 35 = .ok (.bipush (-2), 2) := by decide +kernel
theorem dX8_at_37 : decode cX8_at 37 = .ok (.ireturn, 1) := by decide +kernel
theorem dX8_at_38 : decode cX8_at 38 = .ok (.aload 4, 2) := by decide +kernel
theorem dX8_at_40 : decode cX8_at 40 = .ok (.iload_n 3, 1) := by decide +kernel
theorem dX8_at_41 : decode cX8_at 41 = .ok (.iaload, 1) := by decide +kernel
theorem dX8_at_42 : decode cX8_at 42 = .ok (.ireturn, 1) := by decide +kernel
theorem dX8_blend_0 : decode cX8_blend 0 = .ok (.aload_n 0, 1) := by decide +kernel
theorem dX8_blend_1 : decode cX8_blend 1 = .ok (.getfield 19, 3) := by decide +kernel
theorem dX8_blend_4 : decode cX8_blend 4 = .ok (.iload_n 1, 1) := by decide +kernel
theorem dX8_blend_5 : decode cX8_blend 5 = .ok (.iload_n 2, 1) := by decide +kernel
theorem dX8_blend_6 : decode cX8_blend 6 = .ok (.invokevirtual 161, 3) := by decide +kernel
theorem dX8_blend_9 : decode cX8_blend 9 = .ok (.astore 5, 2) := by decide +kernel
theorem dX8_blend_11 : decode cX8_blend 11 = .ok (.aload 5, 2) := by decide +kernel
theorem dX8_blend_13 : decode cX8_blend 13 = .ok (.ifnull 28, 3) := by decide +kernel
theorem dX8_blend_16 : decode cX8_blend 16 = .ok (.iload_n 3, 1) := by decide +kernel
theorem dX8_blend_17 : decode cX8_blend 17 = .ok (.i2l, 1) := by decide +kernel
theorem dX8_blend_18 : decode cX8_blend 18 = .ok (.lconst 0, 1) := by decide +kernel
theorem dX8_blend_19 : decode cX8_blend 19 = .ok (.ldc2_w 52, 3) := by decide +kernel
theorem dX8_blend_22 : decode cX8_blend 22 = .ok (.invokestatic 54, 3) := by decide +kernel
theorem dX8_blend_25 : decode cX8_blend 25 = .ok (.ifCond .eq 16, 3) := by decide +kernel
theorem dX8_blend_28 : decode cX8_blend 28 = .ok (.iload 4, 2) := by decide +kernel
theorem dX8_blend_30 : decode cX8_blend 30 = .ok (.i2l, 1) := by decide +kernel
theorem dX8_blend_31 : decode cX8_blend 31 = .ok (.lconst 0, 1) := by decide +kernel
theorem dX8_blend_32 : decode cX8_blend 32 = .ok (.ldc2_w 168, 3) := by decide +kernel
theorem dX8_blend_35 : decode cX8_blend 35 = .ok (.invokestatic 54, 3) := by decide +kernel
theorem dX8_blend_38 : decode cX8_blend 38 = .ok (.ifCond .ne 6, 3) := by decide +kernel
theorem dX8_blend_41 : decode cX8_blend 41 = .ok (.bipush (-2), 2) := by decide +kernel
theorem dX8_blend_43 : decode cX8_blend 43 = .ok (.ireturn, 1) := by decide +kernel
theorem dX8_blend_44 : decode cX8_blend 44 = .ok (.aload_n 0, 1) := by decide +kernel
theorem dX8_blend_45 : decode cX8_blend 45 = .ok (.getfield 12, 3) := by decide +kernel
theorem dX8_blend_48 : decode cX8_blend 48 = .ok (.aload 5, 2) := by decide +kernel
theorem dX8_blend_50 : decode cX8_blend 50 = .ok (.iload_n 3, 1) := by decide +kernel
theorem dX8_blend_51 : decode cX8_blend 51 = .ok (.iload 4, 2) := by decide +kernel
theorem dX8_blend_53 : decode cX8_blend 53 = .ok (.invokevirtual 170, 3) := by decide +kernel
theorem dX8_blend_56 : decode cX8_blend 56 = .ok (.iconst 1, 1) := by decide +kernel
theorem dX8_blend_57 : decode cX8_blend 57 = .ok (.ireturn, 1) := by decide +kernel
theorem dX8_add_0 : decode cX8_add 0 = .ok (.aload_n 0, 1) := by decide +kernel
theorem dX8_add_1 : decode cX8_add 1 = .ok (.getfield 19, 3) := by decide +kernel
theorem dX8_add_4 : decode cX8_add 4 = .ok (.iload_n 1, 1) := by decide +kernel
theorem dX8_add_5 : decode cX8_add 5 = .ok (.iload_n 2, 1) := by decide +kernel
theorem dX8_add_6 : decode cX8_add 6 = .ok (.invokevirtual 161, 3) := by decide +kernel
theorem dX8_add_9 : decode cX8_add 9 = .ok (.astore 4, 2) := by decide +kernel
theorem dX8_add_11 : decode cX8_add 11 = .ok (.aload_n 0, 1) := by decide +kernel
theorem dX8_add_12 : decode cX8_add 12 = .ok (.getfield 19, 3) := by decide +kernel
theorem dX8_add_15 : decode cX8_add 15 = .ok (.iload_n 1, 1) := by decide +kernel
theorem dX8_add_16 : decode cX8_add 16 = .ok (.iload_n 3, 1) := by decide +kernel
theorem dX8_add_17 : decode cX8_add 17 = .ok (.invokevirtual 161, 3) := by decide +kernel
theorem dX8_add_20 : decode cX8_add 20 = .ok (.astore 5, 2) := by decide +kernel
theorem dX8_add_22 : decode cX8_add 22 = .ok (.aload 4, 2) := by decide +kernel
theorem dX8_add_24 : decode cX8_add 24 = .ok (.ifnull 8, 3) := by decide +kernel
theorem dX8_add_27 : decode cX8_add 27 = .ok (.aload 5, 2) := by decide +kernel
theorem dX8_add_29 : decode cX8_add 29 = .ok (.ifnonnull 6, 3) := by decide +kernel
theorem dX8_add_32 : decode cX8_add 32 = .ok (.bipush (-2), 2) := by decide +kernel
theorem dX8_add_34 : decode cX8_add 34 = .ok (.ireturn, 1) := by decide +kernel
theorem dX8_add_35 : decode cX8_add 35 = .ok (.aload_n 0, 1) := by decide +kernel
theorem dX8_add_36 : decode cX8_add 36 = .ok (.getfield 12, 3) := by decide +kernel
theorem dX8_add_39 : decode cX8_add 39 = .ok (.aload 4, 2) := by decide +kernel
theorem dX8_add_41 : decode cX8_add 41 = .ok (.aload 5, 2) := by decide +kernel
theorem dX8_add_43 : decode cX8_add 43 = .ok (.invokevirtual 174, 3) := by decide +kernel
theorem dX8_add_46 : decode cX8_add 46 = .ok (.ireturn, 1) := by decide +kernel
theorem dX8_like_0 : decode cX8_like 0 = .ok (.aload_n 0, 1) := by decide +kernel
theorem dX8_like_1 : decode cX8_like 1 = .ok (.getfield 19, 3) := by decide +kernel
theorem dX8_like_4 : decode cX8_like 4 = .ok (.iload_n 1, 1) := by decide +kernel
theorem dX8_like_5 : decode cX8_like 5 = .ok (.iload_n 2, 1) := by decide +kernel
theorem dX8_like_6 : decode cX8_like 6 = .ok (.invokevirtual 161, 3) := by decide +kernel
theorem dX8_like_9 : decode cX8_like 9 = .ok (.astore 5, 2) := by decide +kernel
theorem dX8_like_11 : decode cX8_like 11 = .ok (.aload_n 0, 1) := by decide +kernel
theorem dX8_like_12 : decode cX8_like 12 = .ok (.getfield 19, 3) := by decide +kernel
theorem dX8_like_15 : decode cX8_like 15 = .ok (.iload_n 3, 1) := by decide +kernel
theorem dX8_like_16 : decode cX8_like 16 = .ok (.iload 4, 2) := by decide +kernel
theorem dX8_like_18 : decode cX8_like 18 = .ok (.invokevirtual 161, 3) := by decide +kernel
theorem dX8_like_21 : decode cX8_like 21 = .ok (.astore 6, 2) := by decide +kernel
theorem dX8_like_23 : decode cX8_like 23 = .ok (.aload 5, 2) := by decide +kernel
theorem dX8_like_25 : decode cX8_like 25 = .ok (.ifnull 8, 3) := by decide +kernel
theorem dX8_like_28 : decode cX8_like 28 = .ok (.aload 6, 2) := by decide +kernel
theorem dX8_like_30 : decode cX8_like 30 = .ok (.ifnonnull 6, 3) := by decide +kernel
theorem dX8_like_33 : decode cX8_like 33 = .ok (.bipush (-2), 2) := by decide +kernel
theorem dX8_like_35 : decode cX8_like 35 = .ok (.ireturn, 1) := by decide +kernel
theorem dX8_like_36 : decode cX8_like 36 = .ok (.aload_n 0, 1) := by decide +kernel
theorem dX8_like_37 : decode cX8_like 37 = .ok (.getfield 19, 3) := by decide +kernel
theorem dX8_like_40 : decode cX8_like 40 = .ok (.aload 5, 2) := by decide +kernel
theorem dX8_like_42 : decode cX8_like 42 = .ok (.aload 6, 2) := by decide +kernel
theorem dX8_like_44 : decode cX8_like 44 = .ok (.ldc 178, 2) := by decide +kernel
theorem dX8_like_46 : decode cX8_like 46 = .ok (.invokevirtual 179, 3) := by decide +kernel
theorem dX8_like_49 : decode cX8_like 49 = .ok (.ireturn, 1) := by decide +kernel
theorem dX8_pack_0 : decode cX8_pack 0 = .ok (.aload_n 0, 1) := by decide +kernel
theorem dX8_pack_1 : decode cX8_pack 1 = .ok (.getfield 19, 3) := by decide +kernel
theorem dX8_pack_4 : decode cX8_pack 4 = .ok (.iload_n 1, 1) := by decide +kernel
theorem dX8_pack_5 : decode cX8_pack 5 = .ok (.invokevirtual 144, 3) := by decide +kernel
theorem dX8_pack_8 : decode cX8_pack 8 = .ok (.astore_n 3, 1) := by decide +kernel
theorem dX8_pack_9 : decode cX8_pack 9 = .ok (.aload_n 3, 1) := by decide +kernel
theorem dX8_pack_10 : decode cX8_pack 10 = .ok (.ifnull 15, 3) := by decide +kernel
theorem dX8_pack_13 : decode cX8_pack 13 = .ok (.iload_n 2, 1) := by decide +kernel
theorem dX8_pack_14 : decode cX8_pack 14 = .ok (.i2l, 1) := by decide +kernel
theorem dX8_pack_15 : decode cX8_pack 15 = .ok (.lconst 0, 1) := by decide +kernel
theorem dX8_pack_16 : decode cX8_pack 16 = .ok (.ldc2_w 183, 3) := by decide +kernel
theorem dX8_pack_19 : decode cX8_pack 19 = .ok (.invokestatic 54, 3) := by decide +kernel
theorem dX8_pack_22 : decode cX8_pack 22 = .ok (.ifCond .ne 6, 3) := by decide +kernel
theorem dX8_pack_25 : decode cX8_pack 25 = .ok (.bipush (-2), 2) := by decide +kernel
theorem dX8_pack_27 : decode cX8_pack 27 = .ok (.ireturn, 1) := by decide +kernel
theorem dX8_pack_28 : decode cX8_pack 28 = .ok (.aload_n 0, 1) := by decide +kernel
theorem dX8_pack_29 : decode cX8_pack 29 = .ok (.getfield 26, 3) := by decide +kernel
theorem dX8_pack_32 : decode cX8_pack 32 = .ok (.aload_n 0, 1) := by decide +kernel
theorem dX8_pack_33 : decode cX8_pack 33 = .ok (.getfield 12, 3) := by decide +kernel
theorem dX8_pack_36 : decode cX8_pack 36 = .ok (.aload_n 3, 1) := by decide +kernel
theorem dX8_pack_37 : decode cX8_pack 37 = .ok (.iload_n 2, 1) := by decide +kernel
theorem dX8_pack_38 : decode cX8_pack 38 = .ok (.invokevirtual 185, 3) := by decide +kernel
theorem dX8_pack_41 : decode cX8_pack 41 = .ok (.aload_n 0, 1) := by decide +kernel
theorem dX8_pack_42 : decode cX8_pack 42 = .ok (.getfield 26, 3) := by decide +kernel
theorem dX8_pack_45 : decode cX8_pack 45 = .ok (.getfield 189, 3) := by decide +kernel
theorem dX8_pack_48 : decode cX8_pack 48 = .ok (.ireturn, 1) := by decide +kernel
theorem dX8_key_0 : decode cX8_key 0 = .ok (.iload_n 1, 1) := by decide +kernel
theorem dX8_key_1 : decode cX8_key 1 = .ok (.i2l, 1) := by decide +kernel
theorem dX8_key_2 : decode cX8_key 2 = .ok (.lconst 0, 1) := by decide +kernel
theorem dX8_key_3 : decode cX8_key 3 = .ok (.aload_n 0, 1) := by decide +kernel
theorem dX8_key_4 : decode cX8_key 4 = .ok (.getfield 26, 3) := by decide +kernel
theorem dX8_key_7 : decode cX8_key 7 = .ok (.getfield 189, 3) := by decide +kernel
theorem dX8_key_10 : decode cX8_key 10 = .ok (.iconst 1, 1) := by decide +kernel
theorem dX8_key_11 : decode cX8_key 11 = .ok (.isub, 1) := by decide +kernel
theorem dX8_key_12 : decode cX8_key 12 = .ok (.i2l, 1) := by decide +kernel
theorem dX8_key_13 : decode cX8_key 13 = .ok (.invokestatic 54, 3) := by decide +kernel
theorem dX8_key_16 : decode cX8_key 16 = .ok (.ifCond .eq 15, 3) := by decide +kernel
theorem dX8_key_19 : decode cX8_key 19 = .ok (.aload_n 0, 1) := by decide +kernel
theorem dX8_key_20 : decode cX8_key 20 = .ok (.getfield 26, 3) := by decide +kernel
theorem dX8_key_23 : decode cX8_key 23 = .ok (.getfield 190, 3) := by decide +kernel
theorem dX8_key_26 : decode cX8_key 26 = .ok (.iload_n 1, 1) := by decide +kernel
theorem dX8_key_27 : decode cX8_key 27 = .ok (.iaload, 1) := by decide +kernel
theorem dX8_key_28 : decode cX8_key 28 = .ok (.goto 5, 3) := by decide +kernel
theorem dX8_key_31 : decode cX8_key 31 = .ok (.bipush (-2), 2) := by decide +kernel
theorem dX8_key_33 : decode cX8_key 33 = .ok (.ireturn, 1) := by decide +kernel
theorem dX8_thin_0 : decode cX8_thin 0 = .ok (.aload_n 0, 1) := by decide +kernel
theorem dX8_thin_1 : decode cX8_thin 1 = .ok (.getfield 19, 3) := by decide +kernel
theorem dX8_thin_4 : decode cX8_thin 4 = .ok (.iload_n 1, 1) := by decide +kernel
theorem dX8_thin_5 : decode cX8_thin 5 = .ok (.invokevirtual 144, 3) := by decide +kernel
theorem dX8_thin_8 : decode cX8_thin 8 = .ok (.astore_n 3, 1) := by decide +kernel
theorem dX8_thin_9 : decode cX8_thin 9 = .ok (.aload_n 3, 1) := by decide +kernel
theorem dX8_thin_10 : decode cX8_thin 10 = .ok (.ifnull 15, 3) := by decide +kernel
theorem dX8_thin_13 : decode cX8_thin 13 = .ok (.iload_n 2, 1) := by decide +kernel
theorem dX8_thin_14 : decode cX8_thin 14 = .ok (.i2l, 1) := by decide +kernel
theorem dX8_thin_15 : decode cX8_thin 15 = .ok (.lconst 0, 1) := by decide +kernel
theorem dX8_thin_16 : decode cX8_thin 16 = .ok (.ldc2_w 183, 3) := by decide +kernel
theorem dX8_thin_19 : decode cX8_thin 19 = .ok (.invokestatic 54, 3) := by decide +kernel
theorem dX8_thin_22 : decode cX8_thin 22 = .ok (.ifCond .ne 6, 3) := by decide +kernel
theorem dX8_thin_25 : decode cX8_thin 25 = .ok (.bipush (-2), 2) := by decide +kernel
theorem dX8_thin_27 : decode cX8_thin 27 = .ok (.ireturn, 1) := by decide +kernel
