theorem dX9_isNode_9 : decode cX9_isNode 9 = .ok (.bipush 30, 2) := by decide +kernel
theorem dX9_isNode_11 : decode cX9_isNode 11 = .ok (.idiv, 1) := by decide +kernel
theorem dX9_isNode_12 : decode cX9_isNode 12 = .ok (.iaload, 1) := by decide +kernel
theorem dX9_isNode_13 : decode cX9_isNode 13 = .ok (.if_icmp .ge 7, 3) := by decide +kernel
theorem dX9_isNode_16 : decode cX9_isNode 16 = .ok (.iconst 1, 1) := by decide +kernel
theorem dX9_isNode_17 : decode cX9_isNode 17 = .ok (.goto 4, 3) := by decide +kernel
theorem dX9_isNode_20 : decode cX9_isNode 20 = .ok (.iconst 0, 1) := by decide +kernel
theorem dX9_isNode_21 : decode cX9_isNode 21 = .ok (.ireturn, 1) := by decide +kernel
theorem dX9_findCosts_0 : decode cX9_findCosts 0 = .ok (.iconst 0, 1) := by decide +kernel
theorem dX9_findCosts_1 : decode cX9_findCosts 1 = .ok (.istore_n 1, 1) := by decide +kernel
theorem dX9_findCosts_2 : decode cX9_findCosts 2 = .ok (.iload_n 1, 1) := by decide +kernel
theorem dX9_findCosts_3 : decode cX9_findCosts 3 = .ok (.sipush 180, 3) := by decide +kernel
theorem dX9_findCosts_6 : decode cX9_findCosts 6 = .ok (.if_icmp .ge 112, 3) := by decide +kernel
theorem dX9_findCosts_9 : decode cX9_findCosts 9 = .ok (.iconst 0, 1) := by decide +kernel
theorem dX9_findCosts_10 : decode cX9_findCosts 10 = .ok (.istore_n 2, 1) := by decide +kernel
theorem dX9_findCosts_11 : decode cX9_findCosts 11 = .ok (.iload_n 2, 1) := by decide +kernel
theorem dX9_findCosts_12 : decode cX9_findCosts 12 = .ok (.sipush 180, 3) := by decide +kernel
theorem dX9_findCosts_15 : decode cX9_findCosts 15 = .ok (.if_icmp .ge 97, 3) := by decide +kernel
theorem dX9_findCosts_18 : decode cX9_findCosts 18 = .ok (.iconst (-1), 1) := by decide +kernel
theorem dX9_findCosts_19 : decode cX9_findCosts 19 = .ok (.istore_n 3, 1) := by decide +kernel
theorem dX9_findCosts_20 : decode cX9_findCosts 20 = .ok (.aload_n 0, 1) := by decide +kernel
theorem dX9_findCosts_21 : decode cX9_findCosts 21 = .ok (.iload_n 1, 1) := by decide +kernel
theorem dX9_findCosts_22 : decode cX9_findCosts 22 = .ok (.invokevirtual 212, 3) := by decide +kernel
theorem dX9_findCosts_25 : decode cX9_findCosts 25 = .ok (.ifCond .eq 68, 3) := by decide +kernel
theorem dX9_findCosts_28 : decode cX9_findCosts 28 = .ok (.aload_n 0, 1) := by decide +kernel
theorem dX9_findCosts_29 : decode cX9_findCosts 29 = .ok (.iload_n 2, 1) := by decide +kernel
theorem dX9_findCosts_30 : decode cX9_findCosts 30 = .ok (.invokevirtual 212, 3) := by decide +kernel
theorem dX9_findCosts_33 : decode cX9_findCosts 33 = .ok (.ifCond .eq 60, 3) := by decide +kernel
theorem dX9_findCosts_36 : decode cX9_findCosts 36 = .ok (.iload_n 1, 1) := by decide +kernel
theorem dX9_findCosts_37 : decode cX9_findCosts 37 = .ok (.iload_n 2, 1) := by decide +kernel
theorem dX9_findCosts_38 : decode cX9_findCosts 38 = .ok (.if_icmp .eq 55, 3) := by decide +kernel
theorem dX9_findCosts_41 : decode cX9_findCosts 41 = .ok (.aload_n 0, 1) := by decide +kernel
theorem dX9_findCosts_42 : decode cX9_findCosts 42 = .ok (.bipush 10, 2) := by decide +kernel
theorem dX9_findCosts_44 : decode cX9_findCosts 44 = .ok (.iload_n 1, 1) := by decide +kernel
theorem dX9_findCosts_45 : decode cX9_findCosts 45 = .ok (.imul, 1) := by decide +kernel
theorem dX9_findCosts_46 : decode cX9_findCosts 46 = .ok (.bipush 10, 2) := by decide +kernel
theorem dX9_findCosts_48 : decode cX9_findCosts 48 = .ok (.iload_n 2, 1) := by decide +kernel
theorem dX9_findCosts_49 : decode cX9_findCosts 49 = .ok (.imul, 1) := by decide +kernel
theorem dX9_findCosts_50 : decode cX9_findCosts 50 = .ok (.invokevirtual 196, 3) := by decide +kernel
theorem dX9_findCosts_53 : decode cX9_findCosts 53 = .ok (.istore 4, 2) := by decide +kernel
theorem dX9_findCosts_55 : decode cX9_findCosts 55 = .ok (.iload 4, 2) := by decide +kernel
theorem dX9_findCosts_57 : decode cX9_findCosts 57 = .ok (.aload_n 0, 1) := by decide +kernel
theorem dX9_findCosts_58 : decode cX9_findCosts 58 = .ok (.getfield 60, 3) := by decide +kernel
theorem dX9_findCosts_61 : decode cX9_findCosts 61 = .ok (.if_icmp .gt 10, 3) := by decide +kernel
theorem dX9_findCosts_64 : decode cX9_findCosts 64 = .ok (.iconst 2, 1) := by decide +kernel
theorem dX9_findCosts_65 : decode cX9_findCosts 65 = .ok (.iload 4, 2) := by decide +kernel
theorem dX9_findCosts_67 : decode cX9_findCosts 67 = .ok (.iadd, 1) := by decide +kernel
theorem dX9_findCosts_68 : decode cX9_findCosts 68 = .ok (.goto 4, 3) := by decide +kernel
theorem dX9_findCosts_71 : decode cX9_findCosts 71 = .ok (.iconst (-1), 1) := by decide +kernel
theorem dX9_findCosts_72 : decode cX9_findCosts 72 = .ok (.istore_n 3, 1) := by decide +kernel
theorem dX9_findCosts_73 : decode cX9_findCosts 73 = .ok (.iload_n 2, 1) := by decide +kernel
theorem dX9_findCosts_74 : decode cX9_findCosts 74 = .ok (.iload_n 1, 1) := by decide +kernel
theorem dX9_findCosts_75 : decode cX9_findCosts 75 = .ok (.iconst 1, 1) := by decide +kernel
theorem dX9_findCosts_76 : decode cX9_findCosts 76 = .ok (.iadd, 1) := by decide +kernel
theorem dX9_findCosts_77 : decode cX9_findCosts 77 = .ok (.if_icmp .ne 14, 3) := by decide +kernel
theorem dX9_findCosts_80 : decode cX9_findCosts 80 = .ok (.iload_n 2, 1) := by decide +kernel
theorem dX9_findCosts_81 : decode cX9_findCosts 81 = .ok (.bipush 30, 2) := by decide +kernel
theorem dX9_findCosts_83 : decode cX9_findCosts 83 = .ok (.irem, 1) := by decide +kernel
theorem dX9_findCosts_84 : decode cX9_findCosts 84 = .ok (.ifCond .eq 7, 3) := by decide +kernel
theorem dX9_findCosts_87 : decode cX9_findCosts 87 = .ok (.iconst 1, 1) := by decide +kernel
theorem dX9_findCosts_88 : decode cX9_findCosts 88 = .ok (.goto 4, 3) := by decide +kernel
theorem dX9_findCosts_91 : decode cX9_findCosts 91 = .ok (.iload_n 3, 1) := by decide +kernel
theorem dX9_findCosts_92 : decode cX9_findCosts 92 = .ok (.istore_n 3, 1) := by decide +kernel
theorem dX9_findCosts_93 : decode cX9_findCosts 93 = .ok (.aload_n 0, 1) := by decide +kernel
theorem dX9_findCosts_94 : decode cX9_findCosts 94 = .ok (.getfield 63, 3) := by decide +kernel
theorem dX9_findCosts_97 : decode cX9_findCosts 97 = .ok (.sipush 180, 3) := by decide +kernel
theorem dX9_findCosts_100 : decode cX9_findCosts 100 = .ok (.iload_n 1, 1) := by decide +kernel
theorem dX9_findCosts_101 : decode cX9_findCosts 101 = .ok (.imul, 1) := by decide +kernel
theorem dX9_findCosts_102 : decode cX9_findCosts 102 = .ok (.iload_n 2, 1) := by decide +kernel
theorem dX9_findCosts_103 : decode cX9_findCosts 103 = .ok (.iadd, 1) := by decide +kernel
theorem dX9_findCosts_104 : decode cX9_findCosts 104 = .ok (.iload_n 3, 1) := by decide +kernel
theorem dX9_findCosts_105 : decode cX9_findCosts 105 = .ok (.iastore, 1) := by decide +kernel
theorem dX9_findCosts_106 : decode cX9_findCosts 106 = .ok (.iinc 2 1, 3) := by decide +kernel
theorem dX9_findCosts_109 : decode cX9_findCosts 109 = .ok (.goto (-98), 3) := by decide +kernel
theorem dX9_findCosts_112 : decode cX9_findCosts 112 = .ok (.iinc 1 1, 3) := by decide +kernel
theorem dX9_findCosts_115 : decode cX9_findCosts 115 = .ok (.goto (-113), 3) := by decide +kernel
theorem dX9_findCosts_118 : decode cX9_findCosts 118 = .ok (.return_, 1) := by decide +kernel
theorem dX9_findLive_0 : decode cX9_findLive 0 = .ok (.aload_n 0, 1) := by decide +kernel
theorem dX9_findLive_1 : decode cX9_findLive 1 = .ok (.invokevirtual 215, 3) := by decide +kernel
theorem dX9_findLive_4 : decode cX9_findLive 4 = .ok (.iconst 0, 1) := by decide +kernel
theorem dX9_findLive_5 : decode cX9_findLive 5 = .ok (.istore_n 1, 1) := by decide +kernel
theorem dX9_findLive_6 : decode cX9_findLive 6 = .ok (.iconst 0, 1) := by decide +kernel
theorem dX9_findLive_7 : decode cX9_findLive 7 = .ok (.istore_n 2, 1) := by decide +kernel
theorem dX9_findLive_8 : decode cX9_findLive 8 = .ok (.iload_n 2, 1) := by decide +kernel
theorem dX9_findLive_9 : decode cX9_findLive 9 = .ok (.sipush 180, 3) := by decide +kernel
theorem dX9_findLive_12 : decode cX9_findLive 12 = .ok (.if_icmp .ge 37, 3) := by decide +kernel
theorem dX9_findLive_15 : decode cX9_findLive 15 = .ok (.aload_n 0, 1) := by decide +kernel
theorem dX9_findLive_16 : decode cX9_findLive 16 = .ok (.getfield 66, 3) := by decide +kernel
theorem dX9_findLive_19 : decode cX9_findLive 19 = .ok (.iload_n 2, 1) := by decide +kernel
theorem dX9_findLive_20 : decode cX9_findLive 20 = .ok (.aload_n 0, 1) := by decide +kernel
theorem dX9_findLive_21 : decode cX9_findLive 21 = .ok (.iload_n 2, 1) := by decide +kernel
theorem dX9_findLive_22 : decode cX9_findLive 22 = .ok (.invokevirtual 212, 3) := by decide +kernel
theorem dX9_findLive_25 : decode cX9_findLive 25 = .ok (.bastore, 1) := by decide +kernel
theorem dX9_findLive_26 : decode cX9_findLive 26 = .ok (.iload_n 1, 1) := by decide +kernel
theorem dX9_findLive_27 : decode cX9_findLive 27 = .ok (.aload_n 0, 1) := by decide +kernel
theorem dX9_findLive_28 : decode cX9_findLive 28 = .ok (.getfield 66, 3) := by decide +kernel
theorem dX9_findLive_31 : decode cX9_findLive 31 = .ok (.iload_n 2, 1) := by decide +kernel
theorem dX9_findLive_32 : decode cX9_findLive 32 = .ok (.baload, 1) := by decide +kernel
theorem dX9_findLive_33 : decode cX9_findLive 33 = .ok (.ifCond .eq 7, 3) := by decide +kernel
theorem dX9_findLive_36 : decode cX9_findLive 36 = .ok (.iconst 1, 1) := by decide +kernel
theorem dX9_findLive_37 : decode cX9_findLive 37 = .ok (.goto 4, 3) := by decide +kernel
theorem dX9_findLive_40 : decode cX9_findLive 40 = .ok (.iconst 0, 1) := by decide +kernel
theorem dX9_findLive_41 : decode cX9_findLive 41 = .ok (.iadd, 1) := by decide +kernel
theorem dX9_findLive_42 : decode cX9_findLive 42 = .ok (.istore_n 1, 1) := by decide +kernel
theorem dX9_findLive_43 : decode cX9_findLive 43 = .ok (.iinc 2 1, 3) := by decide +kernel
theorem dX9_findLive_46 : decode cX9_findLive 46 = .ok (.goto (-38), 3) := by decide +kernel
theorem dX9_findLive_49 : decode cX9_findLive 49 = .ok (.iconst 1, 1) := by decide +kernel
theorem dX9_findLive_50 : decode cX9_findLive 50 = .ok (.istore_n 2, 1) := by decide +kernel
theorem dX9_findLive_51 : decode cX9_findLive 51 = .ok (.iload_n 2, 1) := by decide +kernel
theorem dX9_findLive_52 : decode cX9_findLive 52 = .ok (.ifCond .eq 108, 3) := by decide +kernel
theorem dX9_findLive_55 : decode cX9_findLive 55 = .ok (.iconst 0, 1) := by decide +kernel
theorem dX9_findLive_56 : decode cX9_findLive 56 = .ok (.istore_n 2, 1) := by decide +kernel
theorem dX9_findLive_57 : decode cX9_findLive 57 = .ok (.iconst 0, 1) := by decide +kernel
theorem dX9_findLive_58 : decode cX9_findLive 58 = .ok (.istore_n 3, 1) := by decide +kernel
theorem dX9_findLive_59 : decode cX9_findLive 59 = .ok (.iload_n 3, 1) := by decide +kernel
theorem dX9_findLive_60 : decode cX9_findLive 60 = .ok (.sipush 180, 3) := by decide +kernel
theorem dX9_findLive_63 : decode cX9_findLive 63 = .ok (.if_icmp .ge 94, 3) := by decide +kernel
theorem dX9_findLive_66 : decode cX9_findLive 66 = .ok (.aload_n 0, 1) := by decide +kernel
theorem dX9_findLive_67 : decode cX9_findLive 67 = .ok (.getfield 66, 3) := by decide +kernel
theorem dX9_findLive_70 : decode cX9_findLive 70 = .ok (.iload_n 3, 1) := by decide +kernel
theorem dX9_findLive_71 : decode cX9_findLive 71 = .ok (.baload, 1) := by decide +kernel
theorem dX9_findLive_72 : decode cX9_findLive 72 = .ok (.ifCond .eq 79, 3) := by decide +kernel
theorem dX9_findLive_75 : decode cX9_findLive 75 = .ok (.iconst 0, 1) := by decide +kernel
theorem dX9_findLive_76 : decode cX9_findLive 76 = .ok (.istore 4, 2) := by decide +kernel
theorem dX9_findLive_78 : decode cX9_findLive 78 = .ok (.iconst 0, 1) := by decide +kernel
theorem dX9_findLive_79 : decode cX9_findLive 79 = .ok (.istore 5, 2) := by decide +kernel
theorem dX9_findLive_81 : decode cX9_findLive 81 = .ok (.iload 5, 2) := by decide +kernel
theorem dX9_findLive_83 : decode cX9_findLive 83 = .ok (.sipush 180, 3) := by decide +kernel
theorem dX9_findLive_86 : decode cX9_findLive 86 = .ok (.if_icmp .ge 48, 3) := by decide +kernel
theorem dX9_findLive_89 : decode cX9_findLive 89 = .ok (.iload 4, 2) := by decide +kernel
theorem dX9_findLive_91 : decode cX9_findLive 91 = .ok (.ifCond .ne 43, 3) := by decide +kernel
theorem dX9_findLive_94 : decode cX9_findLive 94 = .ok (.aload_n 0, 1) := by decide +kernel
theorem dX9_findLive_95 : decode cX9_findLive 95 = .ok (.getfield 66, 3) := by decide +kernel
theorem dX9_findLive_98 : decode cX9_findLive 98 = .ok (.iload 5, 2) := by decide +kernel
theorem dX9_findLive_100 : decode cX9_findLive 100 = .ok (.baload, 1) := by decide +kernel
theorem dX9_findLive_101 : decode cX9_findLive 101 = .ok (.ifCond .eq 24, 3) := by decide +kernel
theorem dX9_findLive_104 : decode cX9_findLive 104 = .ok (.aload_n 0, 1) := by decide +kernel
theorem dX9_findLive_105 : decode cX9_findLive 105 = .ok (.getfield 63, 3) := by decide +kernel
theorem dX9_findLive_108 : decode cX9_findLive 108 = .ok (.sipush 180, 3) := by decide +kernel
theorem dX9_findLive_111 : decode cX9_findLive 111 = .ok (.iload_n 3, 1) := by decide +kernel
theorem dX9_findLive_112 : decode cX9_findLive 112 = .ok (.imul, 1) := by decide +kernel
theorem dX9_findLive_113 : decode cX9_findLive 113 = .ok (.iload 5, 2) := by decide +kernel
theorem dX9_findLive_115 : decode cX9_findLive 115 = .ok (.iadd, 1) := by decide +kernel
theorem dX9_findLive_116 : decode cX9_findLive 116 = .ok (.iaload, 1) := by decide +kernel
theorem dX9_findLive_117 : decode cX9_findLive 117 = .ok (.iconst (-1), 1) := by decide +kernel
theorem dX9_findLive_118 : decode cX9_findLive 118 = .ok (.if_icmp .eq 7, 3) := by decide +kernel
theorem dX9_findLive_121 : decode cX9_findLive 121 = .ok (.iconst 1, 1) := by decide +kernel
theorem dX9_findLive_122 : decode cX9_findLive 122 = .ok (.goto 4, 3) := by decide +kernel
theorem dX9_findLive_125 : decode cX9_findLive 125 = .ok (.iconst 0, 1) := by decide +kernel
theorem dX9_findLive_126 : decode cX9_findLive 126 = .ok (.istore 4, 2) := by decide +kernel
theorem dX9_findLive_128 : decode cX9_findLive 128 = .ok (.iinc 5 1, 3) := by decide +kernel
theorem dX9_findLive_131 : decode cX9_findLive 131 = .ok (.goto (-50), 3) := by decide +kernel
theorem dX9_findLive_134 : decode cX9_findLive 134 = .ok (.iload 4, 2) := by decide +kernel
theorem dX9_findLive_136 : decode cX9_findLive 136 = .ok (.ifCond .ne 15, 3) := by decide +kernel
theorem dX9_findLive_139 : decode cX9_findLive 139 = .ok (.aload_n 0, 1) := by decide +kernel
theorem dX9_findLive_140 : decode cX9_findLive 140 = .ok (.getfield 66, 3) := by decide +kernel
theorem dX9_findLive_143 : decode cX9_findLive 143 = .ok (.iload_n 3, 1) := by decide +kernel
theorem dX9_findLive_144 : decode cX9_findLive 144 = .ok (.iconst 0, 1) := by decide +kernel
theorem dX9_findLive_145 : decode cX9_findLive 145 = .ok (.bastore, 1) := by decide +kernel
theorem dX9_findLive_146 : decode cX9_findLive 146 = .ok (.iinc 1 (-1), 3) := by decide +kernel
theorem dX9_findLive_149 : decode cX9_findLive 149 = .ok (.iconst 1, 1) := by decide +kernel
theorem dX9_findLive_150 : decode cX9_findLive 150 = .ok (.istore_n 2, 1) := by decide +kernel
theorem dX9_findLive_151 : decode cX9_findLive 151 = .ok (.iinc 3 1, 3) := by decide +kernel
theorem dX9_findLive_154 : decode cX9_findLive 154 = .ok (.goto (-95), 3) := by decide +kernel
theorem dX9_findLive_157 : decode cX9_findLive 157 = .ok (.goto (-106), 3) := by decide +kernel
theorem dX9_findLive_160 : decode cX9_findLive 160 = .ok (.iload_n 1, 1) := by decide +kernel
theorem dX9_findLive_161 : decode cX9_findLive 161 = .ok (.ireturn, 1) := by decide +kernel
theorem dX9_live_0 : decode cX9_live 0 = .ok (.aload_n 0, 1) := by decide +kernel
theorem dX9_live_1 : decode cX9_live 1 = .ok (.invokevirtual 218, 3) := by decide +kernel
theorem dX9_live_4 : decode cX9_live 4 = .ok (.ireturn, 1) := by decide +kernel
theorem dX9_isLive_0 : decode cX9_isLive 0 = .ok (.aload_n 0, 1) := by decide +kernel
theorem dX9_isLive_1 : decode cX9_isLive 1 = .ok (.iload_n 1, 1) := by decide +kernel
theorem dX9_isLive_2 : decode cX9_isLive 2 = .ok (.iload_n 2, 1) := by decide +kernel
theorem dX9_isLive_3 : decode cX9_isLive 3 = .ok (.invokevirtual 184, 3) := by decide +kernel
theorem dX9_isLive_6 : decode cX9_isLive 6 = .ok (.ifCond .ne 6, 3) := by decide +kernel
theorem dX9_isLive_9 : decode cX9_isLive 9 = .ok (.bipush (-2), 2) := by decide +kernel
theorem dX9_isLive_11 : decode cX9_isLive 11 = .ok (.ireturn, 1) := by decide +kernel
theorem dX9_isLive_12 : decode cX9_isLive 12 = .ok (.aload_n 0, 1) := by decide +kernel
theorem dX9_isLive_13 : decode cX9_isLive 13 = .ok (.invokevirtual 218, 3) := by decide +kernel
theorem dX9_isLive_16 : decode cX9_isLive 16 = .ok (.istore_n 3, 1) := by decide +kernel
theorem dX9_isLive_17 : decode cX9_isLive 17 = .ok (.aload_n 0, 1) := by decide +kernel
theorem dX9_isLive_18 : decode cX9_isLive 18 = .ok (.getfield 66, 3) := by decide +kernel
theorem dX9_isLive_21 : decode cX9_isLive 21 = .ok (.bipush 30, 2) := by decide +kernel
theorem dX9_isLive_23 : decode cX9_isLive 23 = .ok (.iload_n 1, 1) := by decide +kernel
theorem dX9_isLive_24 : decode cX9_isLive 24 = .ok (.imul, 1) := by decide +kernel
theorem dX9_isLive_25 : decode cX9_isLive 25 = .ok (.iload_n 2, 1) := by decide +kernel
theorem dX9_isLive_26 : decode cX9_isLive 26 = .ok (.iadd, 1) := by decide +kernel
theorem dX9_isLive_27 : decode cX9_isLive 27 = .ok (.baload, 1) := by decide +kernel
theorem dX9_isLive_28 : decode cX9_isLive 28 = .ok (.ifCond .eq 7, 3) := by decide +kernel
theorem dX9_isLive_31 : decode cX9_isLive 31 = .ok (.iconst 1, 1) := by decide +kernel
theorem dX9_isLive_32 : decode cX9_isLive 32 = .ok (.goto 4, 3) := by decide +kernel
theorem dX9_isLive_35 : decode cX9_isLive 35 = .ok (.iconst 0, 1) := by decide +kernel
theorem dX9_isLive_36 : decode cX9_isLive 36 = .ok (.ireturn, 1) := by decide +kernel
theorem dX9_findDistances_0 : decode cX9_findDistances 0 = .ok (.aload_n 0, 1) := by decide +kernel
theorem dX9_findDistances_1 : decode cX9_findDistances 1 = .ok (.invokevirtual 215, 3) := by decide +kernel
theorem dX9_findDistances_4 : decode cX9_findDistances 4 = .ok (.iconst 0, 1) := by decide +kernel
theorem dX9_findDistances_5 : decode cX9_findDistances 5 = .ok (.istore_n 2, 1) := by decide +kernel
theorem dX9_findDistances_6 : decode cX9_findDistances 6 = .ok (.iload_n 2, 1) := by decide +kernel
theorem dX9_findDistances_7 : decode cX9_findDistances 7 = .ok (.sipush 180, 3) := by decide +kernel
theorem dX9_findDistances_10 : decode cX9_findDistances 10 = .ok (.if_icmp .ge 23, 3) := by decide +kernel
theorem dX9_findDistances_13 : decode cX9_findDistances 13 = .ok (.aload_n 0, 1) := by decide +kernel
theorem dX9_findDistances_14 : decode cX9_findDistances 14 = .ok (.getfield 70, 3) := by decide +kernel
theorem dX9_findDistances_17 : decode cX9_findDistances 17 = .ok (.iload_n 2, 1) := by decide +kernel
theorem dX9_findDistances_18 : decode cX9_findDistances 18 = .ok (.iconst (-1), 1) := by decide +kernel
theorem dX9_findDistances_19 : decode cX9_findDistances 19 = .ok (.iastore, 1) := by decide +kernel
theorem dX9_findDistances_20 : decode cX9_findDistances 20 = .ok (.aload_n 0, 1) := by decide +kernel
theorem dX9_findDistances_21 : decode cX9_findDistances 21 = .ok (.getfield 73, 3) := by decide +kernel
theorem dX9_findDistances_24 : decode cX9_findDistances 24 = .ok (.iload_n 2, 1) := by decide +kernel
theorem dX9_findDistances_25 : decode cX9_findDistances 25 = .ok (.iconst 0, 1) := by decide +kernel
theorem dX9_findDistances_26 : decode cX9_findDistances 26 = .ok (.bastore, 1) := by decide +kernel
theorem dX9_findDistances_27 : decode cX9_findDistances 27 = .ok (.iinc 2 1, 3) := by decide +kernel
theorem dX9_findDistances_30 : decode cX9_findDistances 30 = .ok (.goto (-24), 3) := by decide +kernel
theorem dX9_findDistances_33 : decode cX9_findDistances 33 = .ok (.aload_n 0, 1) := by decide +kernel
theorem dX9_findDistances_34 : decode cX9_findDistances 34 = .ok (.getfield 70, 3) := by decide +kernel
theorem dX9_findDistances_37 : decode cX9_findDistances 37 = .ok (.iload_n 1, 1) := by decide +kernel
theorem dX9_findDistances_38 : decode cX9_findDistances 38 = .ok (.iconst 0, 1) := by decide +kernel
theorem dX9_findDistances_39 : decode cX9_findDistances 39 = .ok (.iastore, 1) := by decide +kernel
theorem dX9_findDistances_40 : decode cX9_findDistances 40 = .ok (.iload_n 1, 1) := by decide +kernel
theorem dX9_findDistances_41 : decode cX9_findDistances 41 = .ok (.istore_n 2, 1) := by decide +kernel
theorem dX9_findDistances_42 : decode cX9_findDistances 42 = .ok (.iload_n 2, 1) := by decide +kernel
theorem dX9_findDistances_43 : decode cX9_findDistances 43 = .ok (.iconst (-1), 1) := by decide +kernel
theorem dX9_findDistances_44 : decode cX9_findDistances 44 = .ok (.if_icmp .eq 157, 3) := by decide +kernel
theorem dX9_findDistances_47 : decode cX9_findDistances 47 = .ok (.aload_n 0, 1) := by decide +kernel
theorem dX9_findDistances_48 : decode cX9_findDistances 48 = .ok (.getfield 73, 3) := by decide +kernel
theorem dX9_findDistances_51 : decode cX9_findDistances 51 = .ok (.iload_n 2, 1) := by decide +kernel
theorem dX9_findDistances_52 : decode cX9_findDistances 52 = .ok (.iconst 1, 1) := by decide +kernel
theorem dX9_findDistances_53 : decode cX9_findDistances 53 = .ok (.bastore, 1) := by decide +kernel
theorem dX9_findDistances_54 : decode cX9_findDistances 54 = .ok (.iconst 0, 1) := by decide +kernel
theorem dX9_findDistances_55 : decode cX9_findDistances 55 = .ok (.istore_n 3, 1) := by decide +kernel
theorem dX9_findDistances_56 : decode cX9_findDistances 56 = .ok (.iload_n 3, 1) := by decide +kernel
theorem dX9_findDistances_57 : decode cX9_findDistances 57 = .ok (.sipush 180, 3) := by decide +kernel
theorem dX9_findDistances_60 : decode cX9_findDistances 60 = .ok (.if_icmp .ge 72, 3) := by decide +kernel
theorem dX9_findDistances_63 : decode cX9_findDistances 63 = .ok (.aload_n 0, 1) := by decide +kernel
theorem dX9_findDistances_64 : decode cX9_findDistances 64 = .ok (.getfield 63, 3) := by decide +kernel
theorem dX9_findDistances_67 : decode cX9_findDistances 67 = .ok (.sipush 180, 3) := by decide +kernel
theorem dX9_findDistances_70 : decode cX9_findDistances 70 = .ok (.iload_n 3, 1) := by decide +kernel
theorem dX9_findDistances_71 : decode cX9_findDistances 71 = .ok (.imul, 1) := by decide +kernel
theorem dX9_findDistances_72 : decode cX9_findDistances 72 = .ok (.iload_n 2, 1) := by decide +kernel
theorem dX9_findDistances_73 : decode cX9_findDistances 73 = .ok (.iadd, 1) := by decide +kernel
theorem dX9_findDistances_74 : decode cX9_findDistances 74 = .ok (.iaload, 1) := by decide +kernel
theorem dX9_findDistances_75 : decode cX9_findDistances 75 = .ok (.istore 4, 2) := by decide +kernel
theorem dX9_findDistances_77 : decode cX9_findDistances 77 = .ok (.iload 4, 2) := by decide +kernel
theorem dX9_findDistances_79 : decode cX9_findDistances 79 = .ok (.iconst (-1), 1) := by decide +kernel
theorem dX9_findDistances_80 : decode cX9_findDistances 80 = .ok (.if_icmp .eq 46, 3) := by decide +kernel
theorem dX9_findDistances_83 : decode cX9_findDistances 83 = .ok (.aload_n 0, 1) := by decide +kernel
theorem dX9_findDistances_84 : decode cX9_findDistances 84 = .ok (.getfield 70, 3) := by decide +kernel
theorem dX9_findDistances_87 : decode cX9_findDistances 87 = .ok (.iload_n 3, 1) := by decide +kernel
theorem dX9_findDistances_88 : decode cX9_findDistances 88 = .ok (.iaload, 1) := by decide +kernel
theorem dX9_findDistances_89 : decode cX9_findDistances 89 = .ok (.iconst (-1), 1) := by decide +kernel
theorem dX9_findDistances_90 : decode cX9_findDistances 90 = .ok (.if_icmp .eq 21, 3) := by decide +kernel
theorem dX9_findDistances_93 : decode cX9_findDistances 93 = .ok (.aload_n 0, 1) := by decide +kernel
theorem dX9_findDistances_94 : decode cX9_findDistances 94 = .ok (.getfield 70, 3) := by decide +kernel
theorem dX9_findDistances_97 : decode cX9_findDistances 97 = .ok (.iload_n 2, 1) := by decide +kernel
theorem dX9_findDistances_98 : decode cX9_findDistances 98 = .ok (.iaload, 1) := by decide +kernel
theorem dX9_findDistances_99 : decode cX9_findDistances 99 = .ok (.iload 4, 2) := by decide +kernel
theorem dX9_findDistances_101 : decode cX9_findDistances 101 = .ok (.iadd, 1) := by decide +kernel
theorem dX9_findDistances_102 : decode cX9_findDistances 102 = .ok (.aload_n 0, 1) := by decide +kernel
theorem dX9_findDistances_103 : decode cX9_findDistances 103 = .ok (.getfield 70, 3) := by decide +kernel
theorem dX9_findDistances_106 : decode cX9_findDistances 106 = .ok (.iload_n 3, 1) := by decide +kernel
theorem dX9_findDistances_107 : decode cX9_findDistances 107 = .ok (.iaload, 1) := by decide +kernel
theorem dX9_findDistances_108 : decode cX9_findDistances 108 = .ok (.if_icmp .ge 18, 3) := by decide +kernel
theorem dX9_findDistances_111 : decode cX9_findDistances 111 = .ok (.aload_n 0, 1) := by decide +kernel
theorem dX9_findDistances_112 : decode cX9_findDistances 112 = .ok (.getfield 70, 3) := by decide +kernel
theorem dX9_findDistances_115 : decode cX9_findDistances 115 = .ok (.iload_n 3, 1) := by decide +kernel
theorem dX9_findDistances_116 : decode cX9_findDistances 116 = .ok (.aload_n 0, 1) := by decide +kernel
theorem dX9_findDistances_117 : decode cX9_findDistances 117 = .ok (.getfield 70, 3) := by decide +kernel
theorem dX9_findDistances_120 : decode cX9_findDistances 120 = .ok (.iload_n 2, 1) := by decide +kernel
theorem dX9_findDistances_121 : decode cX9_findDistances 121 = .ok (.iaload, 1) := by decide +kernel
theorem dX9_findDistances_122 : decode cX9_findDistances 122 = .ok (.iload 4, 2) := by decide +kernel
theorem dX9_findDistances_124 : decode cX9_findDistances 124 = .ok (.iadd, 1) := by decide +kernel
theorem dX9_findDistances_125 : decode cX9_findDistances 125 = .ok (.iastore, 1) := by decide +kernel
theorem dX9_findDistances_126 : decode cX9_findDistances 126 = .ok (.iinc 3 1, 3) := by decide +kernel
theorem dX9_findDistances_129 : decode cX9_findDistances 129 = .ok (.goto (-73), 3) := by decide +kernel
theorem dX9_findDistances_132 : decode cX9_findDistances 132 = .ok (.iconst (-1), 1) := by decide +kernel
theorem dX9_findDistances_133 : decode cX9_findDistances 133 = .ok (.istore_n 3, 1) := by decide +kernel
theorem dX9_findDistances_134 : decode cX9_findDistances 134 = .ok (.iconst 0, 1) := by decide +kernel
theorem dX9_findDistances_135 : decode cX9_findDistances 135 = .ok (.istore 4, 2) := by decide +kernel
theorem dX9_findDistances_137 : decode cX9_findDistances 137 = .ok (.iload 4, 2) := by decide +kernel
theorem dX9_findDistances_139 : decode cX9_findDistances 139 = .ok (.sipush 180, 3) := by decide +kernel
theorem dX9_findDistances_142 : decode cX9_findDistances 142 = .ok (.if_icmp .ge 54, 3) := by decide +kernel
theorem dX9_findDistances_145 : decode cX9_findDistances 145 = .ok (.aload_n 0, 1) := by decide +kernel
theorem dX9_findDistances_146 : decode cX9_findDistances 146 = .ok (.getfield 73, 3) := by decide +kernel
theorem dX9_findDistances_149 : decode cX9_findDistances 149 = .ok (.iload 4, 2) := by decide +kernel
theorem dX9_findDistances_151 : decode cX9_findDistances 151 = .ok (.baload, 1) := by decide +kernel
theorem dX9_findDistances_152 : decode cX9_findDistances 152 = .ok (.ifCond .ne 38, 3) := by decide +kernel
theorem dX9_findDistances_155 : decode cX9_findDistances 155 = .ok (.aload_n 0, 1) := by decide +kernel
theorem dX9_findDistances_156 : decode cX9_findDistances 156 = .ok (.getfield 70, 3) := by decide +kernel
theorem dX9_findDistances_159 : decode cX9_findDistances 159 = .ok (.iload 4, 2) := by decide +kernel
theorem dX9_findDistances_161 : decode cX9_findDistances 161 = .ok (.iaload, 1) := by decide +kernel
theorem dX9_findDistances_162 : decode cX9_findDistances 162 = .ok (.iconst (-1), 1) := by decide +kernel
theorem dX9_findDistances_163 : decode cX9_findDistances 163 = .ok (.if_icmp .eq 27, 3) := by decide +kernel
theorem dX9_findDistances_166 : decode cX9_findDistances 166 = .ok (.iload_n 3, 1) := by decide +kernel
theorem dX9_findDistances_167 : decode cX9_findDistances 167 = .ok (.iconst (-1), 1) := by decide +kernel
theorem dX9_findDistances_168 : decode cX9_findDistances 168 = .ok (.if_icmp .eq 19, 3) := by decide +kernel
theorem dX9_findDistances_171 : decode cX9_findDistances 171 = .ok (.aload_n 0, 1) := by decide +kernel
theorem dX9_findDistances_172 : decode cX9_findDistances 172 = .ok (.getfield 70, 3) := by decide +kernel
theorem dX9_findDistances_175 : decode cX9_findDistances 175 = .ok (.iload 4, 2) := by decide +kernel
theorem dX9_findDistances_177 : decode cX9_findDistances 177 = .ok (.iaload, 1) := by decide +kernel
theorem dX9_findDistances_178 : decode cX9_findDistances 178 = .ok (.aload_n 0, 1) := by decide +kernel
theorem dX9_findDistances_179 : decode cX9_findDistances 179 = .ok (.getfield 70, 3) := by decide +kernel
theorem dX9_findDistances_182 : decode cX9_findDistances 182 = .ok (.iload_n 3, 1) := by decide +kernel
theorem dX9_findDistances_183 : decode cX9_findDistances 183 = .ok (.iaload, 1) := by decide +kernel
theorem dX9_findDistances_184 : decode cX9_findDistances 184 = .ok (.if_icmp .ge 6, 3) := by decide +kernel
theorem dX9_findDistances_187 : decode cX9_findDistances 187 = .ok (.iload 4, 2) := by decide +kernel
theorem dX9_findDistances_189 : decode cX9_findDistances 189 = .ok (.istore_n 3, 1) := by decide +kernel
theorem dX9_findDistances_190 : decode cX9_findDistances 190 = .ok (.iinc 4 1, 3) := by decide +kernel
theorem dX9_findDistances_193 : decode cX9_findDistances 193 = .ok (.goto (-56), 3) := by decide +kernel
theorem dX9_findDistances_196 : decode cX9_findDistances 196 = .ok (.iload_n 3, 1) := by decide +kernel
theorem dX9_findDistances_197 : decode cX9_findDistances 197 = .ok (.istore_n 2, 1) := by decide +kernel
theorem dX9_findDistances_198 : decode cX9_findDistances 198 = .ok (.goto (-156), 3) := by decide +kernel
theorem dX9_findDistances_201 : decode cX9_findDistances 201 = .ok (.return_, 1) := by decide +kernel
theorem dX9_walk_0 : decode cX9_walk 0 = .ok (.aload_n 0, 1) := by decide +kernel
theorem dX9_walk_1 : decode cX9_walk 1 = .ok (.iload_n 1, 1) := by decide +kernel
theorem dX9_walk_2 : decode cX9_walk 2 = .ok (.iload_n 2, 1) := by decide +kernel
theorem dX9_walk_3 : decode cX9_walk 3 = .ok (.invokevirtual 184, 3) := by decide +kernel
theorem dX9_walk_6 : decode cX9_walk 6 = .ok (.ifCond .eq 13, 3) := by decide +kernel
theorem dX9_walk_9 : decode cX9_walk 9 = .ok (.aload_n 0, 1) := by decide +kernel
theorem dX9_walk_10 : decode cX9_walk 10 = .ok (.iload_n 3, 1) := by decide +kernel
theorem dX9_walk_11 : decode cX9_walk 11 = .ok (.iload 4, 2) := by decide +kernel
theorem dX9_walk_13 : decode cX9_walk 13 = .ok (.invokevirtual 184, 3) := by decide +kernel
theorem dX9_walk_16 : decode cX9_walk 16 = .ok (.ifCond .ne 6, 3) := by decide +kernel
theorem dX9_walk_19 : decode cX9_walk 19 = .ok (.bipush (-2), 2) := by decide +kernel
theorem dX9_walk_21 : decode cX9_walk 21 = .ok (.ireturn, 1) := by decide +kernel
theorem dX9_walk_22 : decode cX9_walk 22 = .ok (.bipush 30, 2) := by decide +kernel
theorem dX9_walk_24 : decode cX9_walk 24 = .ok (.iload_n 1, 1) := by decide +kernel
theorem dX9_walk_25 : decode cX9_walk 25 = .ok (.imul, 1) := by decide +kernel
theorem dX9_walk_26 : decode cX9_walk 26 = .ok (.iload_n 2, 1) := by decide +kernel
theorem dX9_walk_27 : decode cX9_walk 27 = .ok (.iadd, 1) := by decide +kernel
theorem dX9_walk_28 : decode cX9_walk 28 = .ok (.istore 5, 2) := by decide +kernel
theorem dX9_walk_30 : decode cX9_walk 30 = .ok (.bipush 30, 2) := by decide +kernel
theorem dX9_walk_32 : decode cX9_walk 32 = .ok (.iload_n 3, 1) := by decide +kernel
theorem dX9_walk_33 : decode cX9_walk 33 = .ok (.imul, 1) := by decide +kernel
theorem dX9_walk_34 : decode cX9_walk 34 = .ok (.iload 4, 2) := by decide +kernel
theorem dX9_walk_36 : decode cX9_walk 36 = .ok (.iadd, 1) := by decide +kernel
theorem dX9_walk_37 : decode cX9_walk 37 = .ok (.istore 6, 2) := by decide +kernel
theorem dX9_walk_39 : decode cX9_walk 39 = .ok (.aload_n 0, 1) := by decide +kernel
theorem dX9_walk_40 : decode cX9_walk 40 = .ok (.iload 6, 2) := by decide +kernel
theorem dX9_walk_42 : decode cX9_walk 42 = .ok (.invokevirtual 221, 3) := by decide +kernel
theorem dX9_walk_45 : decode cX9_walk 45 = .ok (.aload_n 0, 1) := by decide +kernel
theorem dX9_walk_46 : decode cX9_walk 46 = .ok (.aload_n 0, 1) := by decide +kernel
theorem dX9_walk_47 : decode cX9_walk 47 = .ok (.getfield 70, 3) := by decide +kernel
theorem dX9_walk_50 : decode cX9_walk 50 = .ok (.iload 5, 2) := by decide +kernel
theorem dX9_walk_52 : decode cX9_walk 52 = .ok (.iaload, 1) := by decide +kernel
theorem dX9_walk_53 : decode cX9_walk 53 = .ok (.putfield 76, 3) := by decide +kernel
theorem dX9_walk_56 : decode cX9_walk 56 = .ok (.aload_n 0, 1) := by decide +kernel
theorem dX9_walk_57 : decode cX9_walk 57 = .ok (.iconst 0, 1) := by decide +kernel
theorem dX9_walk_58 : decode cX9_walk 58 = .ok (.putfield 225, 3) := by decide +kernel
theorem dX9_walk_61 : decode cX9_walk 61 = .ok (.aload_n 0, 1) := by decide +kernel
theorem dX9_walk_62 : decode cX9_walk 62 = .ok (.getfield 76, 3) := by decide +kernel
theorem dX9_walk_65 : decode cX9_walk 65 = .ok (.iconst (-1), 1) := by decide +kernel
theorem dX9_walk_66 : decode cX9_walk 66 = .ok (.if_icmp .ne 5, 3) := by decide +kernel
theorem dX9_walk_69 : decode cX9_walk 69 = .ok (.iconst (-1), 1) := by decide +kernel
theorem dX9_walk_70 : decode cX9_walk 70 = .ok (.ireturn, 1) := by decide +kernel
theorem dX9_walk_71 : decode cX9_walk 71 = .ok (.aload_n 0, 1) := by decide +kernel
theorem dX9_walk_72 : decode cX9_walk 72 = .ok (.getfield 79, 3) := by decide +kernel
theorem dX9_walk_75 : decode cX9_walk 75 = .ok (.iconst 0, 1) := by decide +kernel
theorem dX9_walk_76 : decode cX9_walk 76 = .ok (.iload 5, 2) := by decide +kernel
theorem dX9_walk_78 : decode cX9_walk 78 = .ok (.iastore, 1) := by decide +kernel
theorem dX9_walk_79 : decode cX9_walk 79 = .ok (.aload_n 0, 1) := by decide +kernel
theorem dX9_walk_80 : decode cX9_walk 80 = .ok (.iconst 1, 1) := by decide +kernel
theorem dX9_walk_81 : decode cX9_walk 81 = .ok (.putfield 225, 3) := by decide +kernel
theorem dX9_walk_84 : decode cX9_walk 84 = .ok (.iload 5, 2) := by decide +kernel
theorem dX9_walk_86 : decode cX9_walk 86 = .ok (.iload 6, 2) := by decide +kernel
theorem dX9_walk_88 : decode cX9_walk 88 = .ok (.if_icmp .eq 101, 3) := by decide +kernel
theorem dX9_walk_91 : decode cX9_walk 91 = .ok (.iconst 0, 1) := by decide +kernel
theorem dX9_walk_92 : decode cX9_walk 92 = .ok (.istore 7, 2) := by decide +kernel
theorem dX9_walk_94 : decode cX9_walk 94 = .ok (.aload_n 0, 1) := by decide +kernel
theorem dX9_walk_95 : decode cX9_walk 95 = .ok (.getfield 63, 3) := by decide +kernel
theorem dX9_walk_98 : decode cX9_walk 98 = .ok (.sipush 180, 3) := by decide +kernel
theorem dX9_walk_101 : decode cX9_walk 101 = .ok (.iload 5, 2) := by decide +kernel
theorem dX9_walk_103 : decode cX9_walk 103 = .ok (.imul, 1) := by decide +kernel
theorem dX9_walk_104 : decode cX9_walk 104 = .ok (.iload 7, 2) := by decide +kernel
theorem dX9_walk_106 : decode cX9_walk 106 = .ok (.iadd, 1) := by decide +kernel
theorem dX9_walk_107 : decode cX9_walk 107 = .ok (.iaload, 1) := by decide +kernel
theorem dX9_walk_108 : decode cX9_walk 108 = .ok (.iconst (-1), 1) := by decide +kernel
theorem dX9_walk_109 : decode cX9_walk 109 = .ok (.if_icmp .eq 46, 3) := by decide +kernel
theorem dX9_walk_112 : decode cX9_walk 112 = .ok (.aload_n 0, 1) := by decide +kernel
theorem dX9_walk_113 : decode cX9_walk 113 = .ok (.getfield 70, 3) := by decide +kernel
theorem dX9_walk_116 : decode cX9_walk 116 = .ok (.iload 7, 2) := by decide +kernel
theorem dX9_walk_118 : decode cX9_walk 118 = .ok (.iaload, 1) := by decide +kernel
theorem dX9_walk_119 : decode cX9_walk 119 = .ok (.iconst (-1), 1) := by decide +kernel
theorem dX9_walk_120 : decode cX9_walk 120 = .ok (.if_icmp .eq 35, 3) := by decide +kernel
theorem dX9_walk_123 : decode cX9_walk 123 = .ok (.aload_n 0, 1) := by decide +kernel
theorem dX9_walk_124 : decode cX9_walk 124 = .ok (.getfield 63, 3) := by decide +kernel
theorem dX9_walk_127 : decode cX9_walk 127 = .ok (.sipush 180, 3) := by decide +kernel
theorem dX9_walk_130 : decode cX9_walk 130 = .ok (.iload 5, 2) := by decide +kernel
theorem dX9_walk_132 : decode cX9_walk 132 = .ok (.imul, 1) := by decide +kernel
theorem dX9_walk_133 : decode cX9_walk 133 = .ok (.iload 7, 2) := by decide +kernel
theorem dX9_walk_135 : decode cX9_walk 135 = .ok (.iadd, 1) := by decide +kernel
theorem dX9_walk_136 : decode cX9_walk 136 = .ok (.iaload, 1) := by decide +kernel
theorem dX9_walk_137 : decode cX9_walk 137 = .ok (.aload_n 0, 1) := by decide +kernel
theorem dX9_walk_138 : decode cX9_walk 138 = .ok (.getfield 70, 3) := by decide +kernel
theorem dX9_walk_141 : decode cX9_walk 141 = .ok (.iload 7, 2) := by decide +kernel
theorem dX9_walk_143 : decode cX9_walk 143 = .ok (.iaload, 1) := by decide +kernel
theorem dX9_walk_144 : decode cX9_walk 144 = .ok (.iadd, 1) := by decide +kernel
theorem dX9_walk_145 : decode cX9_walk 145 = .ok (.aload_n 0, 1) := by decide +kernel
theorem dX9_walk_146 : decode cX9_walk 146 = .ok (.getfield 70, 3) := by decide +kernel
theorem dX9_walk_149 : decode cX9_walk 149 = .ok (.iload 5, 2) := by decide +kernel
theorem dX9_walk_151 : decode cX9_walk 151 = .ok (.iaload, 1) := by decide +kernel
theorem dX9_walk_152 : decode cX9_walk 152 = .ok (.if_icmp .eq 9, 3) := by decide +kernel
theorem dX9_walk_155 : decode cX9_walk 155 = .ok (.iinc 7 1, 3) := by decide +kernel
theorem dX9_walk_158 : decode cX9_walk 158 = .ok (.goto (-64), 3) := by decide +kernel
theorem dX9_walk_161 : decode cX9_walk 161 = .ok (.iload 7, 2) := by decide +kernel
theorem dX9_walk_163 : decode cX9_walk 163 = .ok (.istore 5, 2) := by decide +kernel
theorem dX9_walk_165 : decode cX9_walk 165 = .ok (.aload_n 0, 1) := by decide +kernel
theorem dX9_walk_166 : decode cX9_walk 166 = .ok (.getfield 79, 3) := by decide +kernel
theorem dX9_walk_169 : decode cX9_walk 169 = .ok (.aload_n 0, 1) := by decide +kernel
theorem dX9_walk_170 : decode cX9_walk 170 = .ok (.getfield 225, 3) := by decide +kernel
theorem dX9_walk_173 : decode cX9_walk 173 = .ok (.iload 7, 2) := by decide +kernel
theorem dX9_walk_175 : decode cX9_walk 175 = .ok (.iastore, 1) := by decide +kernel
theorem dX9_walk_176 : decode cX9_walk 176 = .ok (.aload_n 0, 1) := by decide +kernel
theorem dX9_walk_177 : decode cX9_walk 177 = .ok (.dup, 1) := by decide +kernel
theorem dX9_walk_178 : decode cX9_walk 178 = .ok (.getfield 225, 3) := by decide +kernel
theorem dX9_walk_181 : decode cX9_walk 181 = .ok (.iconst 1, 1) := by decide +kernel
theorem dX9_walk_182 : decode cX9_walk 182 = .ok (.iadd, 1) := by decide +kernel
theorem dX9_walk_183 : decode cX9_walk 183 = .ok (.putfield 225, 3) := by decide +kernel
theorem dX9_walk_186 : decode cX9_walk 186 = .ok (.goto (-102), 3) := by decide +kernel
theorem dX9_walk_189 : decode cX9_walk 189 = .ok (.aload_n 0, 1) := by decide +kernel
theorem dX9_walk_190 : decode cX9_walk 190 = .ok (.getfield 76, 3) := by decide +kernel
theorem dX9_walk_193 : decode cX9_walk 193 = .ok (.ireturn, 1) := by decide +kernel
theorem dX9_step_0 : decode cX9_step 0 = .ok (.iload_n 1, 1) := by decide +kernel
theorem dX9_step_1 : decode cX9_step 1 = .ok (.i2l, 1) := by decide +kernel
theorem dX9_step_2 : decode cX9_step 2 = .ok (.lconst 0, 1) := by decide +kernel
theorem dX9_step_3 : decode cX9_step 3 = .ok (.aload_n 0, 1) := by decide +kernel
theorem dX9_step_4 : decode cX9_step 4 = .ok (.getfield 225, 3) := by decide +kernel
theorem dX9_step_7 : decode cX9_step 7 = .ok (.iconst 1, 1) := by decide +kernel
theorem dX9_step_8 : decode cX9_step 8 = .ok (.isub, 1) := by decide +kernel
theorem dX9_step_9 : decode cX9_step 9 = .ok (.i2l, 1) := by decide +kernel
theorem dX9_step_10 : decode cX9_step 10 = .ok (.invokestatic 114, 3) := by decide +kernel
theorem dX9_step_13 : decode cX9_step 13 = .ok (.ifCond .eq 12, 3) := by decide +kernel
theorem dX9_step_16 : decode cX9_step 16 = .ok (.aload_n 0, 1) := by decide +kernel
theorem dX9_step_17 : decode cX9_step 17 = .ok (.getfield 79, 3) := by decide +kernel
theorem dX9_step_20 : decode cX9_step 20 = .ok (.iload_n 1, 1) := by decide +kernel
theorem dX9_step_21 : decode cX9_step 21 = .ok (.iaload, 1) := by decide +kernel
theorem dX9_step_22 : decode cX9_step 22 = .ok (.goto 5, 3) := by decide +kernel
theorem dX9_step_25 : decode cX9_step 25 = .ok (.bipush (-2), 2) := by decide +kernel
theorem dX9_step_27 : decode cX9_step 27 = .ok (.ireturn, 1) := by decide +kernel
theorem dX9_met_0 : decode cX9_met 0 = .ok (.aload_n 0, 1) := by decide +kernel
theorem dX9_met_1 : decode cX9_met 1 = .ok (.iload_n 1, 1) := by decide +kernel
theorem dX9_met_2 : decode cX9_met 2 = .ok (.putfield 228, 3) := by decide +kernel
theorem dX9_met_5 : decode cX9_met 5 = .ok (.bipush (-10), 2) := by decide +kernel
theorem dX9_met_7 : decode cX9_met 7 = .ok (.iload_n 1, 1) := by decide +kernel
theorem dX9_met_8 : decode cX9_met 8 = .ok (.isub, 1) := by decide +kernel
theorem dX9_met_9 : decode cX9_met 9 = .ok (.ireturn, 1) := by decide +kernel
theorem dX9_isSheet_0 : decode cX9_isSheet 0 = .ok (.iload_n 0, 1) := by decide +kernel
theorem dX9_isSheet_1 : decode cX9_isSheet 1 = .ok (.i2l, 1) := by decide +kernel
theorem dX9_isSheet_2 : decode cX9_isSheet 2 = .ok (.lconst 0, 1) := by decide +kernel
theorem dX9_isSheet_3 : decode cX9_isSheet 3 = .ok (.ldc2_w 231, 3) := by decide +kernel
theorem dX9_isSheet_6 : decode cX9_isSheet 6 = .ok (.invokestatic 114, 3) := by decide +kernel
theorem dX9_isSheet_9 : decode cX9_isSheet 9 = .ok (.ireturn, 1) := by decide +kernel
theorem dX9_sheet_0 : decode cX9_sheet 0 = .ok (.iload_n 1, 1) := by decide +kernel
theorem dX9_sheet_1 : decode cX9_sheet 1 = .ok (.invokestatic 233, 3) := by decide +kernel
theorem dX9_sheet_4 : decode cX9_sheet 4 = .ok (.ifCond .eq 21, 3) := by decide +kernel
theorem dX9_sheet_7 : decode cX9_sheet 7 = .ok (.iload_n 2, 1) := by decide +kernel
theorem dX9_sheet_8 : decode cX9_sheet 8 = .ok (.i2l, 1) := by decide +kernel
theorem dX9_sheet_9 : decode cX9_sheet 9 = .ok (.lconst 0, 1) := by decide +kernel
theorem dX9_sheet_10 : decode cX9_sheet 10 = .ok (.ldc2_w 236, 3) := by decide +kernel
theorem dX9_sheet_13 : decode cX9_sheet 13 = .ok (.invokestatic 114, 3) := by decide +kernel
theorem dX9_sheet_16 : decode cX9_sheet 16 = .ok (.ifCond .eq 9, 3) := by decide +kernel
theorem dX9_sheet_19 : decode cX9_sheet 19 = .ok (.iload_n 3, 1) := by decide +kernel
theorem dX9_sheet_20 : decode cX9_sheet 20 = .ok (.bipush 60, 2) := by decide +kernel
theorem dX9_sheet_22 : decode cX9_sheet 22 = .ok (.if_icmp .le 6, 3) := by decide +kernel
theorem dX9_sheet_25 : decode cX9_sheet 25 = .ok (.bipush (-2), 2) := by decide +kernel
theorem dX9_sheet_27 : decode cX9_sheet 27 = .ok (.ireturn, 1) := by decide +kernel
theorem dX9_sheet_28 : decode cX9_sheet 28 = .ok (.iload_n 3, 1) := by decide +kernel
theorem dX9_sheet_29 : decode cX9_sheet 29 = .ok (.ifCond .ge 9, 3) := by decide +kernel
theorem dX9_sheet_32 : decode cX9_sheet 32 = .ok (.aload_n 0, 1) := by decide +kernel
theorem dX9_sheet_33 : decode cX9_sheet 33 = .ok (.iconst 5, 1) := by decide +kernel
theorem dX9_sheet_34 : decode cX9_sheet 34 = .ok (.invokevirtual 238, 3) := by decide +kernel
theorem dX9_sheet_37 : decode cX9_sheet 37 = .ok (.ireturn, 1) := by decide +kernel
theorem dX9_sheet_38 : decode cX9_sheet 38 = .ok (.aload_n 0, 1) := by decide +kernel
theorem dX9_sheet_39 : decode cX9_sheet 39 = .ok (.getfield 82, 3) := by decide +kernel
theorem dX9_sheet_42 : decode cX9_sheet 42 = .ok (.iload_n 1, 1) := by decide +kernel
theorem dX9_sheet_43 : decode cX9_sheet 43 = .ok (.iload_n 2, 1) := by decide +kernel
theorem dX9_sheet_44 : decode cX9_sheet 44 = .ok (.iastore, 1) := by decide +kernel
theorem dX9_sheet_45 : decode cX9_sheet 45 = .ok (.aload_n 0, 1) := by decide +kernel
theorem dX9_sheet_46 : decode cX9_sheet 46 = .ok (.getfield 85, 3) := by decide +kernel
theorem dX9_sheet_49 : decode cX9_sheet 49 = .ok (.iload_n 1, 1) := by decide +kernel
theorem dX9_sheet_50 : decode cX9_sheet 50 = .ok (.iload_n 3, 1) := by decide +kernel
theorem dX9_sheet_51 : decode cX9_sheet 51 = .ok (.iastore, 1) := by decide +kernel
theorem dX9_sheet_52 : decode cX9_sheet 52 = .ok (.iconst 0, 1) := by decide +kernel
theorem dX9_sheet_53 : decode cX9_sheet 53 = .ok (.istore 4, 2) := by decide +kernel
theorem dX9_sheet_55 : decode cX9_sheet 55 = .ok (.iload 4, 2) := by decide +kernel
theorem dX9_sheet_57 : decode cX9_sheet 57 = .ok (.iload_n 3, 1) := by decide +kernel
theorem dX9_sheet_58 : decode cX9_sheet 58 = .ok (.if_icmp .ge 22, 3) := by decide +kernel
theorem dX9_sheet_61 : decode cX9_sheet 61 = .ok (.aload_n 0, 1) := by decide +kernel
theorem dX9_sheet_62 : decode cX9_sheet 62 = .ok (.getfield 88, 3) := by decide +kernel
theorem dX9_sheet_65 : decode cX9_sheet 65 = .ok (.bipush 60, 2) := by decide +kernel
theorem dX9_sheet_67 : decode cX9_sheet 67 = .ok (.iload_n 1, 1) := by decide +kernel
theorem dX9_sheet_68 : decode cX9_sheet 68 = .ok (.imul, 1) := by decide +kernel
theorem dX9_sheet_69 : decode cX9_sheet 69 = .ok (.iload 4, 2) := by decide +kernel
theorem dX9_sheet_71 : decode cX9_sheet 71 = .ok (.iadd, 1) := by decide +kernel
theorem dX9_sheet_72 : decode cX9_sheet 72 = .ok (.iconst 0, 1) := by decide +kernel
theorem dX9_sheet_73 : decode cX9_sheet 73 = .ok (.iastore, 1) := by decide +kernel
theorem dX9_sheet_74 : decode cX9_sheet 74 = .ok (.iinc 4 1, 3) := by decide +kernel
theorem dX9_sheet_77 : decode cX9_sheet 77 = .ok (.goto (-22), 3) := by decide +kernel
theorem dX9_sheet_80 : decode cX9_sheet 80 = .ok (.iload_n 3, 1) := by decide +kernel
theorem dX9_sheet_81 : decode cX9_sheet 81 = .ok (.ireturn, 1) := by decide +kernel
theorem dX9_lose_0 : decode cX9_lose 0 = .ok (.iload_n 1, 1) := by decide +kernel
theorem dX9_lose_1 : decode cX9_lose 1 = .ok (.invokestatic 233, 3) := by decide +kernel
theorem dX9_lose_4 : decode cX9_lose 4 = .ok (.ifCond .ne 6, 3) := by decide +kernel
theorem dX9_lose_7 : decode cX9_lose 7 = .ok (.bipush (-2), 2) := by decide +kernel
theorem dX9_lose_9 : decode cX9_lose 9 = .ok (.ireturn, 1) := by decide +kernel
theorem dX9_lose_10 : decode cX9_lose 10 = .ok (.aload_n 0, 1) := by decide +kernel
theorem dX9_lose_11 : decode cX9_lose 11 = .ok (.getfield 82, 3) := by decide +kernel
theorem dX9_lose_14 : decode cX9_lose 14 = .ok (.iload_n 1, 1) := by decide +kernel
theorem dX9_lose_15 : decode cX9_lose 15 = .ok (.iaload, 1) := by decide +kernel
theorem dX9_lose_16 : decode cX9_lose 16 = .ok (.ifCond .ge 9, 3) := by decide +kernel
theorem dX9_lose_19 : decode cX9_lose 19 = .ok (.aload_n 0, 1) := by decide +kernel
theorem dX9_lose_20 : decode cX9_lose 20 = .ok (.iconst 1, 1) := by decide +kernel
theorem dX9_lose_21 : decode cX9_lose 21 = .ok (.invokevirtual 238, 3) := by decide +kernel
theorem dX9_lose_24 : decode cX9_lose 24 = .ok (.ireturn, 1) := by decide +kernel
theorem dX9_lose_25 : decode cX9_lose 25 = .ok (.aload_n 0, 1) := by decide +kernel
theorem dX9_lose_26 : decode cX9_lose 26 = .ok (.getfield 82, 3) := by decide +kernel
theorem dX9_lose_29 : decode cX9_lose 29 = .ok (.iload_n 1, 1) := by decide +kernel
theorem dX9_lose_30 : decode cX9_lose 30 = .ok (.iconst (-1), 1) := by decide +kernel
theorem dX9_lose_31 : decode cX9_lose 31 = .ok (.iastore, 1) := by decide +kernel
theorem dX9_lose_32 : decode cX9_lose 32 = .ok (.aload_n 0, 1) := by decide +kernel
theorem dX9_lose_33 : decode cX9_lose 33 = .ok (.getfield 85, 3) := by decide +kernel
theorem dX9_lose_36 : decode cX9_lose 36 = .ok (.iload_n 1, 1) := by decide +kernel
theorem dX9_lose_37 : decode cX9_lose 37 = .ok (.iaload, 1) := by decide +kernel
theorem dX9_lose_38 : decode cX9_lose 38 = .ok (.ireturn, 1) := by decide +kernel
theorem dX9_lacks_0 : decode cX9_lacks 0 = .ok (.aload_n 0, 1) := by decide +kernel
theorem dX9_lacks_1 : decode cX9_lacks 1 = .ok (.getfield 82, 3) := by decide +kernel
theorem dX9_lacks_4 : decode cX9_lacks 4 = .ok (.iload_n 1, 1) := by decide +kernel
theorem dX9_lacks_5 : decode cX9_lacks 5 = .ok (.iaload, 1) := by decide +kernel
theorem dX9_lacks_6 : decode cX9_lacks 6 = .ok (.ifCond .ge 9, 3) := by decide +kernel
theorem dX9_lacks_9 : decode cX9_lacks 9 = .ok (.aload_n 0, 1) := by decide +kernel
theorem dX9_lacks_10 : decode cX9_lacks 10 = .ok (.iconst 1, 1) := by decide +kernel
theorem dX9_lacks_11 : decode cX9_lacks 11 = .ok (.invokevirtual 238, 3) := by decide +kernel
theorem dX9_lacks_14 : decode cX9_lacks 14 = .ok (.ireturn, 1) := by decide +kernel
theorem dX9_lacks_15 : decode cX9_lacks 15 = .ok (.aload_n 0, 1) := by decide +kernel
theorem dX9_lacks_16 : decode cX9_lacks 16 = .ok (.getfield 82, 3) := by decide +kernel
theorem dX9_lacks_19 : decode cX9_lacks 19 = .ok (.iload_n 1, 1) := by decide +kernel
theorem dX9_lacks_20 : decode cX9_lacks 20 = .ok (.iaload, 1) := by decide +kernel
theorem dX9_lacks_21 : decode cX9_lacks 21 = .ok (.iload_n 2, 1) := by decide +kernel
theorem dX9_lacks_22 : decode cX9_lacks 22 = .ok (.if_icmp .eq 9, 3) := by decide +kernel
theorem dX9_lacks_25 : decode cX9_lacks 25 = .ok (.aload_n 0, 1) := by decide +kernel
theorem dX9_lacks_26 : decode cX9_lacks 26 = .ok (.iconst 3, 1) := by decide +kernel
theorem dX9_lacks_27 : decode cX9_lacks 27 = .ok (.invokevirtual 238, 3) := by decide +kernel
theorem dX9_lacks_30 : decode cX9_lacks 30 = .ok (.ireturn, 1) := by decide +kernel
theorem dX9_lacks_31 : decode cX9_lacks 31 = .ok (.iload_n 3, 1) := by decide +kernel
theorem dX9_lacks_32 : decode cX9_lacks 32 = .ok (.i2l, 1) := by decide +kernel
theorem dX9_lacks_33 : decode cX9_lacks 33 = .ok (.lconst 0, 1) := by decide +kernel
theorem dX9_lacks_34 : decode cX9_lacks 34 = .ok (.aload_n 0, 1) := by decide +kernel
theorem dX9_lacks_35 : decode cX9_lacks 35 = .ok (.getfield 85, 3) := by decide +kernel
theorem dX9_lacks_38 : decode cX9_lacks 38 = .ok (.iload_n 1, 1) := by decide +kernel
theorem dX9_lacks_39 : decode cX9_lacks 39 = .ok (.iaload, 1) := by decide +kernel
theorem dX9_lacks_40 : decode cX9_lacks 40 = .ok (.iconst 1, 1) := by decide +kernel
theorem dX9_lacks_41 : decode cX9_lacks 41 = .ok (.isub, 1) := by decide +kernel
theorem dX9_lacks_42 : decode cX9_lacks 42 = .ok (.i2l, 1) := by decide +kernel
theorem dX9_lacks_43 : decode cX9_lacks 43 = .ok (.invokestatic 114, 3) := by decide +kernel
theorem dX9_lacks_46 : decode cX9_lacks 46 = .ok (.ifCond .eq 7, 3) := by decide +kernel
theorem dX9_lacks_49 : decode cX9_lacks 49 = .ok (.iconst 0, 1) := by decide +kernel
theorem dX9_lacks_50 : decode cX9_lacks 50 = .ok (.goto 8, 3) := by decide +kernel
theorem dX9_lacks_53 : decode cX9_lacks 53 = .ok (.aload_n 0, 1) := by decide +kernel
theorem dX9_lacks_54 : decode cX9_lacks 54 = .ok (.iconst 2, 1) := by decide +kernel
theorem dX9_lacks_55 : decode cX9_lacks 55 = .ok (.invokevirtual 238, 3) := by decide +kernel
theorem dX9_lacks_58 : decode cX9_lacks 58 = .ok (.ireturn, 1) := by decide +kernel
theorem dX9_put_0 : decode cX9_put 0 = .ok (.iload_n 1, 1) := by decide +kernel
theorem dX9_put_1 : decode cX9_put 1 = .ok (.invokestatic 233, 3) := by decide +kernel
theorem dX9_put_4 : decode cX9_put 4 = .ok (.ifCond .eq 15, 3) := by decide +kernel
theorem dX9_put_7 : decode cX9_put 7 = .ok (.iload_n 2, 1) := by decide +kernel
theorem dX9_put_8 : decode cX9_put 8 = .ok (.i2l, 1) := by decide +kernel
theorem dX9_put_9 : decode cX9_put 9 = .ok (.lconst 0, 1) := by decide +kernel
theorem dX9_put_10 : decode cX9_put 10 = .ok (.ldc2_w 236, 3) := by decide +kernel
theorem dX9_put_13 : decode cX9_put 13 = .ok (.invokestatic 114, 3) := by decide +kernel
theorem dX9_put_16 : decode cX9_put 16 = .ok (.ifCond .ne 6, 3) := by decide +kernel
theorem dX9_put_19 : decode cX9_put 19 = .ok (.bipush (-2), 2) := by decide +kernel
theorem dX9_put_21 : decode cX9_put 21 = .ok (.ireturn, 1) := by decide +kernel
theorem dX9_put_22 : decode cX9_put 22 = .ok (.aload_n 0, 1) := by decide +kernel
theorem dX9_put_23 : decode cX9_put 23 = .ok (.iload_n 1, 1) := by decide +kernel
theorem dX9_put_24 : decode cX9_put 24 = .ok (.iload_n 2, 1) := by decide +kernel
theorem dX9_put_25 : decode cX9_put 25 = .ok (.iload_n 3, 1) := by decide +kernel
theorem dX9_put_26 : decode cX9_put 26 = .ok (.invokevirtual 241, 3) := by decide +kernel
theorem dX9_put_29 : decode cX9_put 29 = .ok (.istore 5, 2) := by decide +kernel
theorem dX9_put_31 : decode cX9_put 31 = .ok (.iload 5, 2) := by decide +kernel
theorem dX9_put_33 : decode cX9_put 33 = .ok (.ifCond .eq 6, 3) := by decide +kernel
theorem dX9_put_36 : decode cX9_put 36 = .ok (.iload 5, 2) := by decide +kernel
theorem dX9_put_38 : decode cX9_put 38 = .ok (.ireturn, 1) := by decide +kernel
theorem dX9_put_39 : decode cX9_put 39 = .ok (.aload_n 0, 1) := by decide +kernel
theorem dX9_put_40 : decode cX9_put 40 = .ok (.getfield 88, 3) := by decide +kernel
theorem dX9_put_43 : decode cX9_put 43 = .ok (.bipush 60, 2) := by decide +kernel
theorem dX9_put_45 : decode cX9_put 45 = .ok (.iload_n 1, 1) := by decide +kernel
theorem dX9_put_46 : decode cX9_put 46 = .ok (.imul, 1) := by decide +kernel
theorem dX9_put_47 : decode cX9_put 47 = .ok (.iload_n 3, 1) := by decide +kernel
theorem dX9_put_48 : decode cX9_put 48 = .ok (.iadd, 1) := by decide +kernel
theorem dX9_put_49 : decode cX9_put 49 = .ok (.iload_n 2, 1) := by decide +kernel
theorem dX9_put_50 : decode cX9_put 50 = .ok (.ifCond .ne 9, 3) := by decide +kernel
theorem dX9_put_53 : decode cX9_put 53 = .ok (.iload 4, 2) := by decide +kernel
theorem dX9_put_55 : decode cX9_put 55 = .ok (.i2b, 1) := by decide +kernel
theorem dX9_put_56 : decode cX9_put 56 = .ok (.goto 16, 3) := by decide +kernel
theorem dX9_put_59 : decode cX9_put 59 = .ok (.iload_n 2, 1) := by decide +kernel
theorem dX9_put_60 : decode cX9_put 60 = .ok (.iconst 1, 1) := by decide +kernel
theorem dX9_put_61 : decode cX9_put 61 = .ok (.if_icmp .ne 9, 3) := by decide +kernel
theorem dX9_put_64 : decode cX9_put 64 = .ok (.iload 4, 2) := by decide +kernel
theorem dX9_put_66 : decode cX9_put 66 = .ok (.i2s, 1) := by decide +kernel
theorem dX9_put_67 : decode cX9_put 67 = .ok (.goto 5, 3) := by decide +kernel
theorem dX9_put_70 : decode cX9_put 70 = .ok (.iload 4, 2) := by decide +kernel
theorem dX9_put_72 : decode cX9_put 72 = .ok (.iastore, 1) := by decide +kernel
theorem dX9_put_73 : decode cX9_put 73 = .ok (.iconst 1, 1) := by decide +kernel
theorem dX9_put_74 : decode cX9_put 74 = .ok (.ireturn, 1) := by decide +kernel
theorem dX9_get_0 : decode cX9_get 0 = .ok (.iload_n 1, 1) := by decide +kernel
theorem dX9_get_1 : decode cX9_get 1 = .ok (.invokestatic 233, 3) := by decide +kernel
theorem dX9_get_4 : decode cX9_get 4 = .ok (.ifCond .eq 25, 3) := by decide +kernel
theorem dX9_get_7 : decode cX9_get 7 = .ok (.iload_n 2, 1) := by decide +kernel
theorem dX9_get_8 : decode cX9_get 8 = .ok (.i2l, 1) := by decide +kernel
theorem dX9_get_9 : decode cX9_get 9 = .ok (.lconst 0, 1) := by decide +kernel
theorem dX9_get_10 : decode cX9_get 10 = .ok (.ldc2_w 236, 3) := by decide +kernel
theorem dX9_get_13 : decode cX9_get 13 = .ok (.invokestatic 114, 3) := by decide +kernel
theorem dX9_get_16 : decode cX9_get 16 = .ok (.ifCond .eq 13, 3) := by decide +kernel
theorem dX9_get_19 : decode cX9_get 19 = .ok (.aload_n 0, 1) := by decide +kernel
theorem dX9_get_20 : decode cX9_get 20 = .ok (.iload_n 1, 1) := by decide +kernel
theorem dX9_get_21 : decode cX9_get 21 = .ok (.iload_n 2, 1) := by decide +kernel
theorem dX9_get_22 : decode cX9_get 22 = .ok (.iload_n 3, 1) := by decide +kernel
theorem dX9_get_23 : decode cX9_get 23 = .ok (.invokevirtual 241, 3) := by decide +kernel
theorem dX9_get_26 : decode cX9_get 26 = .ok (.ifCond .eq 6, 3) := by decide +kernel
theorem dX9_get_29 : decode cX9_get 29 = .ok (.ldc 245, 2) := by decide +kernel
theorem dX9_get_31 : decode cX9_get 31 = .ok (.ireturn, 1) := by decide +kernel
theorem dX9_get_32 : decode cX9_get 32 = .ok (.aload_n 0, 1) := by decide +kernel
theorem dX9_get_33 : decode cX9_get 33 = .ok (.getfield 88, 3) := by decide +kernel
theorem dX9_get_36 : decode cX9_get 36 = .ok (.bipush 60, 2) := by decide +kernel
theorem dX9_get_38 : decode cX9_get 38 = .ok (.iload_n 1, 1) := by decide +kernel
theorem dX9_get_39 : decode cX9_get 39 = .ok (.imul, 1) := by decide +kernel
theorem dX9_get_40 : decode cX9_get 40 = .ok (.iload_n 3, 1) := by decide +kernel
theorem dX9_get_41 : decode cX9_get 41 = .ok (.iadd, 1) := by decide +kernel
theorem dX9_get_42 : decode cX9_get 42 = .ok (.iaload, 1) := by decide +kernel
theorem dX9_get_43 : decode cX9_get 43 = .ok (.ireturn, 1) := by decide +kernel
theorem dX9_copy_0 : decode cX9_copy 0 = .ok (.iload_n 1, 1) := by decide +kernel
theorem dX9_copy_1 : decode cX9_copy 1 = .ok (.invokestatic 233, 3) := by decide +kernel
theorem dX9_copy_4 : decode cX9_copy 4 = .ok (.ifCond .eq 10, 3) := by decide +kernel
theorem dX9_copy_7 : decode cX9_copy 7 = .ok (.iload_n 3, 1) := by decide +kernel
theorem dX9_copy_8 : decode cX9_copy 8 = .ok (.invokestatic 233, 3) := by decide +kernel
theorem dX9_copy_11 : decode cX9_copy 11 = .ok (.ifCond .ne 6, 3) := by decide +kernel
theorem dX9_copy_14 : decode cX9_copy 14 = .ok (.bipush (-2), 2) := by decide +kernel
theorem dX9_copy_16 : decode cX9_copy 16 = .ok (.ireturn, 1) := by decide +kernel
theorem dX9_copy_17 : decode cX9_copy 17 = .ok (.aload_n 0, 1) := by decide +kernel
theorem dX9_copy_18 : decode cX9_copy 18 = .ok (.getfield 82, 3) := by decide +kernel
theorem dX9_copy_21 : decode cX9_copy 21 = .ok (.iload_n 1, 1) := by decide +kernel
theorem dX9_copy_22 : decode cX9_copy 22 = .ok (.iaload, 1) := by decide +kernel
theorem dX9_copy_23 : decode cX9_copy 23 = .ok (.ifCond .lt 12, 3) := by decide +kernel
theorem dX9_copy_26 : decode cX9_copy 26 = .ok (.aload_n 0, 1) := by decide +kernel
theorem dX9_copy_27 : decode cX9_copy 27 = .ok (.getfield 82, 3) := by decide +kernel
theorem dX9_copy_30 : decode cX9_copy 30 = .ok (.iload_n 3, 1) := by decide +kernel
theorem dX9_copy_31 : decode cX9_copy 31 = .ok (.iaload, 1) := by decide +kernel
theorem dX9_copy_32 : decode cX9_copy 32 = .ok (.ifCond .ge 9, 3) := by decide +kernel
theorem dX9_copy_35 : decode cX9_copy 35 = .ok (.aload_n 0, 1) := by decide +kernel
theorem dX9_copy_36 : decode cX9_copy 36 = .ok (.iconst 1, 1) := by decide +kernel
theorem dX9_copy_37 : decode cX9_copy 37 = .ok (.invokevirtual 238, 3) := by decide +kernel
theorem dX9_copy_40 : decode cX9_copy 40 = .ok (.ireturn, 1) := by decide +kernel
theorem dX9_copy_41 : decode cX9_copy 41 = .ok (.aload_n 0, 1) := by decide +kernel
theorem dX9_copy_42 : decode cX9_copy 42 = .ok (.getfield 82, 3) := by decide +kernel
theorem dX9_copy_45 : decode cX9_copy 45 = .ok (.iload_n 1, 1) := by decide +kernel
theorem dX9_copy_46 : decode cX9_copy 46 = .ok (.iaload, 1) := by decide +kernel
theorem dX9_copy_47 : decode cX9_copy 47 = .ok (.aload_n 0, 1) := by decide +kernel
theorem dX9_copy_48 : decode cX9_copy 48 = .ok (.getfield 82, 3) := by decide +kernel
theorem dX9_copy_51 : decode cX9_copy 51 = .ok (.iload_n 3, 1) := by decide +kernel
theorem dX9_copy_52 : decode cX9_copy 52 = .ok (.iaload, 1) := by decide +kernel
theorem dX9_copy_53 : decode cX9_copy 53 = .ok (.if_icmp .eq 9, 3) := by decide +kernel
theorem dX9_copy_56 : decode cX9_copy 56 = .ok (.aload_n 0, 1) := by decide +kernel
theorem dX9_copy_57 : decode cX9_copy 57 = .ok (.iconst 4, 1) := by decide +kernel
theorem dX9_copy_58 : decode cX9_copy 58 = .ok (.invokevirtual 238, 3) := by decide +kernel
theorem dX9_copy_61 : decode cX9_copy 61 = .ok (.ireturn, 1) := by decide +kernel
theorem dX9_copy_62 : decode cX9_copy 62 = .ok (.iload_n 2, 1) := by decide +kernel
theorem dX9_copy_63 : decode cX9_copy 63 = .ok (.ifCond .lt 48, 3) := by decide +kernel
theorem dX9_copy_66 : decode cX9_copy 66 = .ok (.iload 4, 2) := by decide +kernel
theorem dX9_copy_68 : decode cX9_copy 68 = .ok (.ifCond .lt 43, 3) := by decide +kernel
theorem dX9_copy_71 : decode cX9_copy 71 = .ok (.iload 5, 2) := by decide +kernel
theorem dX9_copy_73 : decode cX9_copy 73 = .ok (.ifCond .lt 38, 3) := by decide +kernel
theorem dX9_copy_76 : decode cX9_copy 76 = .ok (.iload_n 2, 1) := by decide +kernel
theorem dX9_copy_77 : decode cX9_copy 77 = .ok (.i2l, 1) := by decide +kernel
theorem dX9_copy_78 : decode cX9_copy 78 = .ok (.iload 5, 2) := by decide +kernel
theorem dX9_copy_80 : decode cX9_copy 80 = .ok (.i2l, 1) := by decide +kernel
theorem dX9_copy_81 : decode cX9_copy 81 = .ok (.ladd, 1) := by decide +kernel
theorem dX9_copy_82 : decode cX9_copy 82 = .ok (.aload_n 0, 1) := by decide +kernel
theorem dX9_copy_83 : decode cX9_copy 83 = .ok (.getfield 85, 3) := by decide +kernel
theorem dX9_copy_86 : decode cX9_copy 86 = .ok (.iload_n 1, 1) := by decide +kernel
theorem dX9_copy_87 : decode cX9_copy 87 = .ok (.iaload, 1) := by decide +kernel
theorem dX9_copy_88 : decode cX9_copy 88 = .ok (.i2l, 1) := by decide +kernel
theorem dX9_copy_89 : decode cX9_copy 89 = .ok (.lcmp, 1) := by decide +kernel
theorem dX9_copy_90 : decode cX9_copy 90 = .ok (.ifCond .gt 21, 3) := by decide +kernel
theorem dX9_copy_93 : decode cX9_copy 93 = .ok (.iload 4, 2) := by decide +kernel
theorem dX9_copy_95 : decode cX9_copy 95 = .ok (.i2l, 1) := by decide +kernel
theorem dX9_copy_96 : decode cX9_copy 96 = .ok (.iload 5, 2) := by decide +kernel
theorem dX9_copy_98 : decode cX9_copy 98 = .ok (.i2l, 1) := by decide +kernel
theorem dX9_copy_99 : decode cX9_copy 99 = .ok (.ladd, 1) := by decide +kernel
theorem dX9_copy_100 : decode cX9_copy 100 = .ok (.aload_n 0, 1) := by decide +kernel
theorem dX9_copy_101 : decode cX9_copy 101 = .ok (.getfield 85, 3) := by decide +kernel
theorem dX9_copy_104 : decode cX9_copy 104 = .ok (.iload_n 3, 1) := by decide +kernel
theorem dX9_copy_105 : decode cX9_copy 105 = .ok (.iaload, 1) := by decide +kernel
theorem dX9_copy_106 : decode cX9_copy 106 = .ok (.i2l, 1) := by decide +kernel
theorem dX9_copy_107 : decode cX9_copy 107 = .ok (.lcmp, 1) := by decide +kernel
theorem dX9_copy_108 : decode cX9_copy 108 = .ok (.ifCond .le 9, 3) := by decide +kernel
theorem dX9_copy_111 : decode cX9_copy 111 = .ok (.aload_n 0, 1) := by decide +kernel
theorem dX9_copy_112 : decode cX9_copy 112 = .ok (.iconst 2, 1) := by decide +kernel
theorem dX9_copy_113 : decode cX9_copy 113 = .ok (.invokevirtual 238, 3) := by decide +kernel
theorem dX9_copy_116 : decode cX9_copy 116 = .ok (.ireturn, 1) := by decide +kernel
theorem dX9_copy_117 : decode cX9_copy 117 = .ok (.iconst 0, 1) := by decide +kernel
theorem dX9_copy_118 : decode cX9_copy 118 = .ok (.istore 6, 2) := by decide +kernel
theorem dX9_copy_120 : decode cX9_copy 120 = .ok (.iload 6, 2) := by decide +kernel
theorem dX9_copy_122 : decode cX9_copy 122 = .ok (.iload 5, 2) := by decide +kernel
theorem dX9_copy_124 : decode cX9_copy 124 = .ok (.if_icmp .ge 30, 3) := by decide +kernel
theorem dX9_copy_127 : decode cX9_copy 127 = .ok (.aload_n 0, 1) := by decide +kernel
theorem dX9_copy_128 : decode cX9_copy 128 = .ok (.getfield 91, 3) := by decide +kernel
theorem dX9_copy_131 : decode cX9_copy 131 = .ok (.iload 6, 2) := by decide +kernel
theorem dX9_copy_133 : decode cX9_copy 133 = .ok (.aload_n 0, 1) := by decide +kernel
theorem dX9_copy_134 : decode cX9_copy 134 = .ok (.getfield 88, 3) := by decide +kernel
theorem dX9_copy_137 : decode cX9_copy 137 = .ok (.bipush 60, 2) := by decide +kernel
theorem dX9_copy_139 : decode cX9_copy 139 = .ok (.iload_n 1, 1) := by decide +kernel
theorem dX9_copy_140 : decode cX9_copy 140 = .ok (.imul, 1) := by decide +kernel
theorem dX9_copy_141 : decode cX9_copy 141 = .ok (.iload_n 2, 1) := by decide +kernel
theorem dX9_copy_142 : decode cX9_copy 142 = .ok (.iadd, 1) := by decide +kernel
theorem dX9_copy_143 : decode cX9_copy 143 = .ok (.iload 6, 2) := by decide +kernel
theorem dX9_copy_145 : decode cX9_copy 145 = .ok (.iadd, 1) := by decide +kernel
theorem dX9_copy_146 : decode cX9_copy 146 = .ok (.iaload, 1) := by decide +kernel
theorem dX9_copy_147 : decode cX9_copy 147 = .ok (.iastore, 1) := by decide +kernel
theorem dX9_copy_148 : decode cX9_copy 148 = .ok (.iinc 6 1, 3) := by decide +kernel
theorem dX9_copy_151 : decode cX9_copy 151 = .ok (.goto (-31), 3) := by decide +kernel
theorem dX9_copy_154 : decode cX9_copy 154 = .ok (.iconst 0, 1) := by decide +kernel
theorem dX9_copy_155 : decode cX9_copy 155 = .ok (.istore 6, 2) := by decide +kernel
theorem dX9_copy_157 : decode cX9_copy 157 = .ok (.iload 6, 2) := by decide +kernel
theorem dX9_copy_159 : decode cX9_copy 159 = .ok (.iload 5, 2) := by decide +kernel
theorem dX9_copy_161 : decode cX9_copy 161 = .ok (.if_icmp .ge 31, 3) := by decide +kernel
theorem dX9_copy_164 : decode cX9_copy 164 = .ok (.aload_n 0, 1) := by decide +kernel
theorem dX9_copy_165 : decode cX9_copy 165 = .ok (.getfield 88, 3) := by decide +kernel
theorem dX9_copy_168 : decode cX9_copy 168 = .ok (.bipush 60, 2) := by decide +kernel
theorem dX9_copy_170 : decode cX9_copy 170 = .ok (.iload_n 3, 1) := by decide +kernel
theorem dX9_copy_171 : decode cX9_copy 171 = .ok (.imul, 1) := by decide +kernel
theorem dX9_copy_172 : decode cX9_copy 172 = .ok (.iload 4, 2) := by decide +kernel
theorem dX9_copy_174 : decode cX9_copy 174 = .ok (.iadd, 1) := by decide +kernel
theorem dX9_copy_175 : decode cX9_copy 175 = .ok (.iload 6, 2) := by decide +kernel
theorem dX9_copy_177 : decode cX9_copy 177 = .ok (.iadd, 1) := by decide +kernel
theorem dX9_copy_178 : decode cX9_copy 178 = .ok (.aload_n 0, 1) := by decide +kernel
theorem dX9_copy_179 : decode cX9_copy 179 = .ok (.getfield 91, 3) := by decide +kernel
theorem dX9_copy_182 : decode cX9_copy 182 = .ok (.iload 6, 2) := by decide +kernel
theorem dX9_copy_184 : decode cX9_copy 184 = .ok (.iaload, 1) := by decide +kernel
theorem dX9_copy_185 : decode cX9_copy 185 = .ok (.iastore, 1) := by decide +kernel
theorem dX9_copy_186 : decode cX9_copy 186 = .ok (.iinc 6 1, 3) := by decide +kernel
theorem dX9_copy_189 : decode cX9_copy 189 = .ok (.goto (-32), 3) := by decide +kernel
theorem dX9_copy_192 : decode cX9_copy 192 = .ok (.iconst 1, 1) := by decide +kernel
theorem dX9_copy_193 : decode cX9_copy 193 = .ok (.ireturn, 1) := by decide +kernel
theorem dX9_lacksRow_0 : decode cX9_lacksRow 0 = .ok (.iload_n 1, 1) := by decide +kernel
theorem dX9_lacksRow_1 : decode cX9_lacksRow 1 = .ok (.invokestatic 233, 3) := by decide +kernel
theorem dX9_lacksRow_4 : decode cX9_lacksRow 4 = .ok (.ifCond .ne 6, 3) := by decide +kernel
theorem dX9_lacksRow_7 : decode cX9_lacksRow 7 = .ok (.bipush (-2), 2) := by decide +kernel
theorem dX9_lacksRow_9 : decode cX9_lacksRow 9 = .ok (.ireturn, 1) := by decide +kernel
theorem dX9_lacksRow_10 : decode cX9_lacksRow 10 = .ok (.aload_n 0, 1) := by decide +kernel
theorem dX9_lacksRow_11 : decode cX9_lacksRow 11 = .ok (.getfield 82, 3) := by decide +kernel
theorem dX9_lacksRow_14 : decode cX9_lacksRow 14 = .ok (.iload_n 1, 1) := by decide +kernel
theorem dX9_lacksRow_15 : decode cX9_lacksRow 15 = .ok (.iaload, 1) := by decide +kernel
theorem dX9_lacksRow_16 : decode cX9_lacksRow 16 = .ok (.ifCond .ge 9, 3) := by decide +kernel
theorem dX9_lacksRow_19 : decode cX9_lacksRow 19 = .ok (.aload_n 0, 1) := by decide +kernel
theorem dX9_lacksRow_20 : decode cX9_lacksRow 20 = .ok (.iconst 1, 1) := by decide +kernel
theorem dX9_lacksRow_21 : decode cX9_lacksRow 21 = .ok (.invokevirtual 238, 3) := by decide +kernel
theorem dX9_lacksRow_24 : decode cX9_lacksRow 24 = .ok (.ireturn, 1) := by decide +kernel
theorem dX9_lacksRow_25 : decode cX9_lacksRow 25 = .ok (.iload_n 2, 1) := by decide +kernel
theorem dX9_lacksRow_26 : decode cX9_lacksRow 26 = .ok (.ifCond .lt 22, 3) := by decide +kernel
theorem dX9_lacksRow_29 : decode cX9_lacksRow 29 = .ok (.iload_n 2, 1) := by decide +kernel
theorem dX9_lacksRow_30 : decode cX9_lacksRow 30 = .ok (.i2l, 1) := by decide +kernel
theorem dX9_lacksRow_31 : decode cX9_lacksRow 31 = .ok (.aload_n 0, 1) := by decide +kernel
theorem dX9_lacksRow_32 : decode cX9_lacksRow 32 = .ok (.getfield 111, 3) := by decide +kernel
theorem dX9_lacksRow_35 : decode cX9_lacksRow 35 = .ok (.i2l, 1) := by decide +kernel
theorem dX9_lacksRow_36 : decode cX9_lacksRow 36 = .ok (.ladd, 1) := by decide +kernel
theorem dX9_lacksRow_37 : decode cX9_lacksRow 37 = .ok (.aload_n 0, 1) := by decide +kernel
theorem dX9_lacksRow_38 : decode cX9_lacksRow 38 = .ok (.getfield 85, 3) := by decide +kernel
theorem dX9_lacksRow_41 : decode cX9_lacksRow 41 = .ok (.iload_n 1, 1) := by decide +kernel
theorem dX9_lacksRow_42 : decode cX9_lacksRow 42 = .ok (.iaload, 1) := by decide +kernel
theorem dX9_lacksRow_43 : decode cX9_lacksRow 43 = .ok (.i2l, 1) := by decide +kernel
theorem dX9_lacksRow_44 : decode cX9_lacksRow 44 = .ok (.lcmp, 1) := by decide +kernel
theorem dX9_lacksRow_45 : decode cX9_lacksRow 45 = .ok (.ifCond .le 11, 3) := by decide +kernel
theorem dX9_lacksRow_48 : decode cX9_lacksRow 48 = .ok (.aload_n 0, 1) := by decide +kernel
theorem dX9_lacksRow_49 : decode cX9_lacksRow 49 = .ok (.iconst 2, 1) := by decide +kernel
theorem dX9_lacksRow_50 : decode cX9_lacksRow 50 = .ok (.invokevirtual 238, 3) := by decide +kernel
theorem dX9_lacksRow_53 : decode cX9_lacksRow 53 = .ok (.goto 4, 3) := by decide +kernel
theorem dX9_lacksRow_56 : decode cX9_lacksRow 56 = .ok (.iconst 0, 1) := by decide +kernel
theorem dX9_lacksRow_57 : decode cX9_lacksRow 57 = .ok (.ireturn, 1) := by decide +kernel
theorem dX9_pose_0 : decode cX9_pose 0 = .ok (.aload_n 0, 1) := by decide +kernel
theorem dX9_pose_1 : decode cX9_pose 1 = .ok (.iload_n 1, 1) := by decide +kernel
theorem dX9_pose_2 : decode cX9_pose 2 = .ok (.iload_n 2, 1) := by decide +kernel
theorem dX9_pose_3 : decode cX9_pose 3 = .ok (.invokevirtual 246, 3) := by decide +kernel
theorem dX9_pose_6 : decode cX9_pose 6 = .ok (.istore_n 3, 1) := by decide +kernel
theorem dX9_pose_7 : decode cX9_pose 7 = .ok (.iload_n 3, 1) := by decide +kernel
theorem dX9_pose_8 : decode cX9_pose 8 = .ok (.ifCond .eq 5, 3) := by decide +kernel
theorem dX9_pose_11 : decode cX9_pose 11 = .ok (.iload_n 3, 1) := by decide +kernel
theorem dX9_pose_12 : decode cX9_pose 12 = .ok (.ireturn, 1) := by decide +kernel
theorem dX9_pose_13 : decode cX9_pose 13 = .ok (.iconst 0, 1) := by decide +kernel
theorem dX9_pose_14 : decode cX9_pose 14 = .ok (.istore 4, 2) := by decide +kernel
theorem dX9_pose_16 : decode cX9_pose 16 = .ok (.aload_n 0, 1) := by decide +kernel
theorem dX9_pose_17 : decode cX9_pose 17 = .ok (.invokevirtual 156, 3) := by decide +kernel
theorem dX9_pose_20 : decode cX9_pose 20 = .ok (.iconst 0, 1) := by decide +kernel
theorem dX9_pose_21 : decode cX9_pose 21 = .ok (.istore 5, 2) := by decide +kernel
theorem dX9_pose_23 : decode cX9_pose 23 = .ok (.iload 5, 2) := by decide +kernel
theorem dX9_pose_25 : decode cX9_pose 25 = .ok (.aload_n 0, 1) := by decide +kernel
theorem dX9_pose_26 : decode cX9_pose 26 = .ok (.getfield 111, 3) := by decide +kernel
theorem dX9_pose_29 : decode cX9_pose 29 = .ok (.if_icmp .ge 64, 3) := by decide +kernel
theorem dX9_pose_32 : decode cX9_pose 32 = .ok (.aload_n 0, 1) := by decide +kernel
theorem dX9_pose_33 : decode cX9_pose 33 = .ok (.getfield 88, 3) := by decide +kernel
theorem dX9_pose_36 : decode cX9_pose 36 = .ok (.bipush 60, 2) := by decide +kernel
theorem dX9_pose_38 : decode cX9_pose 38 = .ok (.iload_n 1, 1) := by decide +kernel
theorem dX9_pose_39 : decode cX9_pose 39 = .ok (.imul, 1) := by decide +kernel
theorem dX9_pose_40 : decode cX9_pose 40 = .ok (.iload_n 2, 1) := by decide +kernel
theorem dX9_pose_41 : decode cX9_pose 41 = .ok (.iadd, 1) := by decide +kernel
theorem dX9_pose_42 : decode cX9_pose 42 = .ok (.iload 5, 2) := by decide +kernel
theorem dX9_pose_44 : decode cX9_pose 44 = .ok (.iadd, 1) := by decide +kernel
theorem dX9_pose_45 : decode cX9_pose 45 = .ok (.iaload, 1) := by decide +kernel
theorem dX9_pose_46 : decode cX9_pose 46 = .ok (.invokestatic 96, 3) := by decide +kernel
theorem dX9_pose_49 : decode cX9_pose 49 = .ok (.istore 6, 2) := by decide +kernel
theorem dX9_pose_51 : decode cX9_pose 51 = .ok (.iload 4, 2) := by decide +kernel
theorem dX9_pose_53 : decode cX9_pose 53 = .ok (.aload_n 0, 1) := by decide +kernel
theorem dX9_pose_54 : decode cX9_pose 54 = .ok (.iload 5, 2) := by decide +kernel
theorem dX9_pose_56 : decode cX9_pose 56 = .ok (.iload 6, 2) := by decide +kernel
theorem dX9_pose_58 : decode cX9_pose 58 = .ok (.invokevirtual 100, 3) := by decide +kernel
theorem dX9_pose_61 : decode cX9_pose 61 = .ok (.ifCond .eq 7, 3) := by decide +kernel
theorem dX9_pose_64 : decode cX9_pose 64 = .ok (.iconst 0, 1) := by decide +kernel
theorem dX9_pose_65 : decode cX9_pose 65 = .ok (.goto 4, 3) := by decide +kernel
theorem dX9_pose_68 : decode cX9_pose 68 = .ok (.iconst 1, 1) := by decide +kernel
theorem dX9_pose_69 : decode cX9_pose 69 = .ok (.iadd, 1) := by decide +kernel
theorem dX9_pose_70 : decode cX9_pose 70 = .ok (.istore 4, 2) := by decide +kernel
theorem dX9_pose_72 : decode cX9_pose 72 = .ok (.aload_n 0, 1) := by decide +kernel
theorem dX9_pose_73 : decode cX9_pose 73 = .ok (.getfield 31, 3) := by decide +kernel
theorem dX9_pose_76 : decode cX9_pose 76 = .ok (.iload 5, 2) := by decide +kernel
theorem dX9_pose_78 : decode cX9_pose 78 = .ok (.aload_n 0, 1) := by decide +kernel
theorem dX9_pose_79 : decode cX9_pose 79 = .ok (.iload 5, 2) := by decide +kernel
theorem dX9_pose_81 : decode cX9_pose 81 = .ok (.iload 6, 2) := by decide +kernel
theorem dX9_pose_83 : decode cX9_pose 83 = .ok (.invokevirtual 187, 3) := by decide +kernel
theorem dX9_pose_86 : decode cX9_pose 86 = .ok (.iastore, 1) := by decide +kernel
theorem dX9_pose_87 : decode cX9_pose 87 = .ok (.iinc 5 1, 3) := by decide +kernel
theorem dX9_pose_90 : decode cX9_pose 90 = .ok (.goto (-67), 3) := by decide +kernel
theorem dX9_pose_93 : decode cX9_pose 93 = .ok (.aload_n 0, 1) := by decide +kernel
theorem dX9_pose_94 : decode cX9_pose 94 = .ok (.invokevirtual 159, 3) := by decide +kernel
theorem dX9_pose_97 : decode cX9_pose 97 = .ok (.iload 4, 2) := by decide +kernel
theorem dX9_pose_99 : decode cX9_pose 99 = .ok (.ireturn, 1) := by decide +kernel
theorem dX9_write_0 : decode cX9_write 0 = .ok (.aload_n 0, 1) := by decide +kernel
theorem dX9_write_1 : decode cX9_write 1 = .ok (.iload_n 1, 1) := by decide +kernel
theorem dX9_write_2 : decode cX9_write 2 = .ok (.iload_n 2, 1) := by decide +kernel
theorem dX9_write_3 : decode cX9_write 3 = .ok (.invokevirtual 246, 3) := by decide +kernel
theorem dX9_write_6 : decode cX9_write 6 = .ok (.istore_n 3, 1) := by decide +kernel
theorem dX9_write_7 : decode cX9_write 7 = .ok (.iload_n 3, 1) := by decide +kernel
theorem dX9_write_8 : decode cX9_write 8 = .ok (.ifCond .eq 5, 3) := by decide +kernel
theorem dX9_write_11 : decode cX9_write 11 = .ok (.iload_n 3, 1) := by decide +kernel
theorem dX9_write_12 : decode cX9_write 12 = .ok (.ireturn, 1) := by decide +kernel
theorem dX9_write_13 : decode cX9_write 13 = .ok (.iconst 0, 1) := by decide +kernel
theorem dX9_write_14 : decode cX9_write 14 = .ok (.istore 4, 2) := by decide +kernel
theorem dX9_write_16 : decode cX9_write 16 = .ok (.iload 4, 2) := by decide +kernel
theorem dX9_write_18 : decode cX9_write 18 = .ok (.aload_n 0, 1) := by decide +kernel
theorem dX9_write_19 : decode cX9_write 19 = .ok (.getfield 111, 3) := by decide +kernel
theorem dX9_write_22 : decode cX9_write 22 = .ok (.if_icmp .ge 30, 3) := by decide +kernel
theorem dX9_write_25 : decode cX9_write 25 = .ok (.aload_n 0, 1) := by decide +kernel
theorem dX9_write_26 : decode cX9_write 26 = .ok (.getfield 88, 3) := by decide +kernel
theorem dX9_write_29 : decode cX9_write 29 = .ok (.bipush 60, 2) := by decide +kernel
theorem dX9_write_31 : decode cX9_write 31 = .ok (.iload_n 1, 1) := by decide +kernel
theorem dX9_write_32 : decode cX9_write 32 = .ok (.imul, 1) := by decide +kernel
theorem dX9_write_33 : decode cX9_write 33 = .ok (.iload_n 2, 1) := by decide +kernel
theorem dX9_write_34 : decode cX9_write 34 = .ok (.iadd, 1) := by decide +kernel
theorem dX9_write_35 : decode cX9_write 35 = .ok (.iload 4, 2) := by decide +kernel
theorem dX9_write_37 : decode cX9_write 37 = .ok (.iadd, 1) := by decide +kernel
theorem dX9_write_38 : decode cX9_write 38 = .ok (.aload_n 0, 1) := by decide +kernel
theorem dX9_write_39 : decode cX9_write 39 = .ok (.getfield 31, 3) := by decide +kernel
theorem dX9_write_42 : decode cX9_write 42 = .ok (.iload 4, 2) := by decide +kernel
theorem dX9_write_44 : decode cX9_write 44 = .ok (.iaload, 1) := by decide +kernel
theorem dX9_write_45 : decode cX9_write 45 = .ok (.iastore, 1) := by decide +kernel
theorem dX9_write_46 : decode cX9_write 46 = .ok (.iinc 4 1, 3) := by decide +kernel
theorem dX9_write_49 : decode cX9_write 49 = .ok (.goto (-33), 3) := by decide +kernel
theorem dX9_write_52 : decode cX9_write 52 = .ok (.aload_n 0, 1) := by decide +kernel
theorem dX9_write_53 : decode cX9_write 53 = .ok (.getfield 111, 3) := by decide +kernel
theorem dX9_write_56 : decode cX9_write 56 = .ok (.ireturn, 1) := by decide +kernel
theorem dX9_count_0 : decode cX9_count 0 = .ok (.iload_n 1, 1) := by decide +kernel
theorem dX9_count_1 : decode cX9_count 1 = .ok (.tableswitch 78 0 6 #[43, 48, 53, 58, 63, 68, 73], 43) := by decide +kernel
theorem dX9_count_44 : decode cX9_count 44 = .ok (.aload_n 0, 1) := by decide +kernel
theorem dX9_count_45 : decode cX9_count 45 = .ok (.getfield 111, 3) := by decide +kernel
theorem dX9_count_48 : decode cX9_count 48 = .ok (.ireturn, 1) := by decide +kernel
theorem dX9_count_49 : decode cX9_count 49 = .ok (.aload_n 0, 1) := by decide +kernel
theorem dX9_count_50 : decode cX9_count 50 = .ok (.invokevirtual 128, 3) := by decide +kernel
theorem dX9_count_53 : decode cX9_count 53 = .ok (.ireturn, 1) := by decide +kernel
theorem dX9_count_54 : decode cX9_count 54 = .ok (.aload_n 0, 1) := by decide +kernel
theorem dX9_count_55 : decode cX9_count 55 = .ok (.getfield 34, 3) := by decide +kernel
theorem dX9_count_58 : decode cX9_count 58 = .ok (.ireturn, 1) := by decide +kernel
theorem dX9_count_59 : decode cX9_count 59 = .ok (.aload_n 0, 1) := by decide +kernel
theorem dX9_count_60 : decode cX9_count 60 = .ok (.getfield 60, 3) := by decide +kernel
theorem dX9_count_63 : decode cX9_count 63 = .ok (.ireturn, 1) := by decide +kernel
theorem dX9_count_64 : decode cX9_count 64 = .ok (.aload_n 0, 1) := by decide +kernel
theorem dX9_count_65 : decode cX9_count 65 = .ok (.getfield 199, 3) := by decide +kernel
theorem dX9_count_68 : decode cX9_count 68 = .ok (.ireturn, 1) := by decide +kernel
theorem dX9_count_69 : decode cX9_count 69 = .ok (.aload_n 0, 1) := by decide +kernel
theorem dX9_count_70 : decode cX9_count 70 = .ok (.getfield 76, 3) := by decide +kernel
theorem dX9_count_73 : decode cX9_count 73 = .ok (.ireturn, 1) := by decide +kernel
theorem dX9_count_74 : decode cX9_count 74 = .ok (.aload_n 0, 1) := by decide +kernel
theorem dX9_count_75 : decode cX9_count 75 = .ok (.getfield 228, 3) := by decide +kernel
theorem dX9_count_78 : decode cX9_count 78 = .ok (.ireturn, 1) := by decide +kernel
theorem dX9_count_79 : decode cX9_count 79 = .ok (.bipush (-2), 2) := by decide +kernel
theorem dX9_count_81 : decode cX9_count 81 = .ok (.ireturn, 1) := by decide +kernel
theorem dX9_digest_0 : decode cX9_digest 0 = .ok (.aload_n 0, 1) := by decide +kernel
theorem dX9_digest_1 : decode cX9_digest 1 = .ok (.invokevirtual 147, 3) := by decide +kernel
theorem dX9_digest_4 : decode cX9_digest 4 = .ok (.ldc2_w 249, 3) := by decide +kernel
theorem dX9_digest_7 : decode cX9_digest 7 = .ok (.lstore_n 1, 1) := by decide +kernel
theorem dX9_digest_8 : decode cX9_digest 8 = .ok (.iconst 0, 1) := by decide +kernel
theorem dX9_digest_9 : decode cX9_digest 9 = .ok (.istore_n 3, 1) := by decide +kernel
theorem dX9_digest_10 : decode cX9_digest 10 = .ok (.iload_n 3, 1) := by decide +kernel
theorem dX9_digest_11 : decode cX9_digest 11 = .ok (.iconst 4, 1) := by decide +kernel
theorem dX9_digest_12 : decode cX9_digest 12 = .ok (.if_icmp .ge 22, 3) := by decide +kernel
theorem dX9_digest_15 : decode cX9_digest 15 = .ok (.ldc2_w 251, 3) := by decide +kernel
theorem dX9_digest_18 : decode cX9_digest 18 = .ok (.lload_n 1, 1) := by decide +kernel
theorem dX9_digest_19 : decode cX9_digest 19 = .ok (.lmul, 1) := by decide +kernel
theorem dX9_digest_20 : decode cX9_digest 20 = .ok (.aload_n 0, 1) := by decide +kernel
theorem dX9_digest_21 : decode cX9_digest 21 = .ok (.iload_n 3, 1) := by decide +kernel
theorem dX9_digest_22 : decode cX9_digest 22 = .ok (.invokevirtual 253, 3) := by decide +kernel
theorem dX9_digest_25 : decode cX9_digest 25 = .ok (.i2l, 1) := by decide +kernel
theorem dX9_digest_26 : decode cX9_digest 26 = .ok (.ladd, 1) := by decide +kernel
theorem dX9_digest_27 : decode cX9_digest 27 = .ok (.lstore_n 1, 1) := by decide +kernel
theorem dX9_digest_28 : decode cX9_digest 28 = .ok (.iinc 3 1, 3) := by decide +kernel
theorem dX9_digest_31 : decode cX9_digest 31 = .ok (.goto (-21), 3) := by decide +kernel
theorem dX9_digest_34 : decode cX9_digest 34 = .ok (.iconst 0, 1) := by decide +kernel
theorem dX9_digest_35 : decode cX9_digest 35 = .ok (.istore_n 3, 1) := by decide +kernel
theorem dX9_digest_36 : decode cX9_digest 36 = .ok (.iload_n 3, 1) := by decide +kernel
theorem dX9_digest_37 : decode cX9_digest 37 = .ok (.aload_n 0, 1) := by decide +kernel
theorem dX9_digest_38 : decode cX9_digest 38 = .ok (.getfield 111, 3) := by decide +kernel
theorem dX9_digest_41 : decode cX9_digest 41 = .ok (.if_icmp .ge 49, 3) := by decide +kernel
theorem dX9_digest_44 : decode cX9_digest 44 = .ok (.ldc2_w 251, 3) := by decide +kernel
theorem dX9_digest_47 : decode cX9_digest 47 = .ok (.lload_n 1, 1) := by decide +kernel
theorem dX9_digest_48 : decode cX9_digest 48 = .ok (.lmul, 1) := by decide +kernel
theorem dX9_digest_49 : decode cX9_digest 49 = .ok (.aload_n 0, 1) := by decide +kernel
theorem dX9_digest_50 : decode cX9_digest 50 = .ok (.getfield 31, 3) := by decide +kernel
theorem dX9_digest_53 : decode cX9_digest 53 = .ok (.iload_n 3, 1) := by decide +kernel
theorem dX9_digest_54 : decode cX9_digest 54 = .ok (.iaload, 1) := by decide +kernel
theorem dX9_digest_55 : decode cX9_digest 55 = .ok (.i2l, 1) := by decide +kernel
theorem dX9_digest_56 : decode cX9_digest 56 = .ok (.ladd, 1) := by decide +kernel
theorem dX9_digest_57 : decode cX9_digest 57 = .ok (.lstore_n 1, 1) := by decide +kernel
theorem dX9_digest_58 : decode cX9_digest 58 = .ok (.ldc2_w 251, 3) := by decide +kernel
theorem dX9_digest_61 : decode cX9_digest 61 = .ok (.lload_n 1, 1) := by decide +kernel
theorem dX9_digest_62 : decode cX9_digest 62 = .ok (.lmul, 1) := by decide +kernel
theorem dX9_digest_63 : decode cX9_digest 63 = .ok (.aload_n 0, 1) := by decide +kernel
theorem dX9_digest_64 : decode cX9_digest 64 = .ok (.getfield 45, 3) := by decide +kernel
theorem dX9_digest_67 : decode cX9_digest 67 = .ok (.iload_n 3, 1) := by decide +kernel
theorem dX9_digest_68 : decode cX9_digest 68 = .ok (.laload, 1) := by decide +kernel
theorem dX9_digest_69 : decode cX9_digest 69 = .ok (.ladd, 1) := by decide +kernel
theorem dX9_digest_70 : decode cX9_digest 70 = .ok (.lstore_n 1, 1) := by decide +kernel
theorem dX9_digest_71 : decode cX9_digest 71 = .ok (.ldc2_w 251, 3) := by decide +kernel
theorem dX9_digest_74 : decode cX9_digest 74 = .ok (.lload_n 1, 1) := by decide +kernel
theorem dX9_digest_75 : decode cX9_digest 75 = .ok (.lmul, 1) := by decide +kernel
theorem dX9_digest_76 : decode cX9_digest 76 = .ok (.aload_n 0, 1) := by decide +kernel
theorem dX9_digest_77 : decode cX9_digest 77 = .ok (.getfield 48, 3) := by decide +kernel
theorem dX9_digest_80 : decode cX9_digest 80 = .ok (.iload_n 3, 1) := by decide +kernel
theorem dX9_digest_81 : decode cX9_digest 81 = .ok (.laload, 1) := by decide +kernel
theorem dX9_digest_82 : decode cX9_digest 82 = .ok (.ladd, 1) := by decide +kernel
theorem dX9_digest_83 : decode cX9_digest 83 = .ok (.lstore_n 1, 1) := by decide +kernel
theorem dX9_digest_84 : decode cX9_digest 84 = .ok (.iinc 3 1, 3) := by decide +kernel
theorem dX9_digest_87 : decode cX9_digest 87 = .ok (.goto (-51), 3) := by decide +kernel
theorem dX9_digest_90 : decode cX9_digest 90 = .ok (.iconst 0, 1) := by decide +kernel
theorem dX9_digest_91 : decode cX9_digest 91 = .ok (.istore_n 3, 1) := by decide +kernel
theorem dX9_digest_92 : decode cX9_digest 92 = .ok (.iload_n 3, 1) := by decide +kernel
theorem dX9_digest_93 : decode cX9_digest 93 = .ok (.bipush 6, 2) := by decide +kernel
theorem dX9_digest_95 : decode cX9_digest 95 = .ok (.if_icmp .ge 69, 3) := by decide +kernel
theorem dX9_digest_98 : decode cX9_digest 98 = .ok (.iconst 0, 1) := by decide +kernel
theorem dX9_digest_99 : decode cX9_digest 99 = .ok (.istore 4, 2) := by decide +kernel
theorem dX9_digest_101 : decode cX9_digest 101 = .ok (.iload 4, 2) := by decide +kernel
theorem dX9_digest_103 : decode cX9_digest 103 = .ok (.aload_n 0, 1) := by decide +kernel
theorem dX9_digest_104 : decode cX9_digest 104 = .ok (.getfield 51, 3) := by decide +kernel
theorem dX9_digest_107 : decode cX9_digest 107 = .ok (.iload_n 3, 1) := by decide +kernel
theorem dX9_digest_108 : decode cX9_digest 108 = .ok (.iaload, 1) := by decide +kernel
theorem dX9_digest_109 : decode cX9_digest 109 = .ok (.if_icmp .ge 49, 3) := by decide +kernel
theorem dX9_digest_112 : decode cX9_digest 112 = .ok (.iconst 0, 1) := by decide +kernel
theorem dX9_digest_113 : decode cX9_digest 113 = .ok (.istore 5, 2) := by decide +kernel
theorem dX9_digest_115 : decode cX9_digest 115 = .ok (.iload 5, 2) := by decide +kernel
theorem dX9_digest_117 : decode cX9_digest 117 = .ok (.aload_n 0, 1) := by decide +kernel
theorem dX9_digest_118 : decode cX9_digest 118 = .ok (.getfield 111, 3) := by decide +kernel
theorem dX9_digest_121 : decode cX9_digest 121 = .ok (.if_icmp .ge 31, 3) := by decide +kernel
theorem dX9_digest_124 : decode cX9_digest 124 = .ok (.ldc2_w 251, 3) := by decide +kernel
theorem dX9_digest_127 : decode cX9_digest 127 = .ok (.lload_n 1, 1) := by decide +kernel
theorem dX9_digest_128 : decode cX9_digest 128 = .ok (.lmul, 1) := by decide +kernel
theorem dX9_digest_129 : decode cX9_digest 129 = .ok (.aload_n 0, 1) := by decide +kernel
theorem dX9_digest_130 : decode cX9_digest 130 = .ok (.getfield 54, 3) := by decide +kernel
theorem dX9_digest_133 : decode cX9_digest 133 = .ok (.iload_n 3, 1) := by decide +kernel
theorem dX9_digest_134 : decode cX9_digest 134 = .ok (.iload 4, 2) := by decide +kernel
theorem dX9_digest_136 : decode cX9_digest 136 = .ok (.invokestatic 181, 3) := by decide +kernel
theorem dX9_digest_139 : decode cX9_digest 139 = .ok (.iload 5, 2) := by decide +kernel
theorem dX9_digest_141 : decode cX9_digest 141 = .ok (.iadd, 1) := by decide +kernel
theorem dX9_digest_142 : decode cX9_digest 142 = .ok (.iaload, 1) := by decide +kernel
theorem dX9_digest_143 : decode cX9_digest 143 = .ok (.i2l, 1) := by decide +kernel
theorem dX9_digest_144 : decode cX9_digest 144 = .ok (.ladd, 1) := by decide +kernel
theorem dX9_digest_145 : decode cX9_digest 145 = .ok (.lstore_n 1, 1) := by decide +kernel
theorem dX9_digest_146 : decode cX9_digest 146 = .ok (.iinc 5 1, 3) := by decide +kernel
theorem dX9_digest_149 : decode cX9_digest 149 = .ok (.goto (-34), 3) := by decide +kernel
theorem dX9_digest_152 : decode cX9_digest 152 = .ok (.iinc 4 1, 3) := by decide +kernel
theorem dX9_digest_155 : decode cX9_digest 155 = .ok (.goto (-54), 3) := by decide +kernel
theorem dX9_digest_158 : decode cX9_digest 158 = .ok (.iinc 3 1, 3) := by decide +kernel
theorem dX9_digest_161 : decode cX9_digest 161 = .ok (.goto (-69), 3) := by decide +kernel
theorem dX9_digest_164 : decode cX9_digest 164 = .ok (.lload_n 1, 1) := by decide +kernel
theorem dX9_digest_165 : decode cX9_digest 165 = .ok (.lreturn, 1) := by decide +kernel
theorem dJ9_floorMod_7cf53_0 : decode cJ9_floorMod_7cf53 0 = .ok (.iload_n 0, 1) := by decide +kernel
theorem dJ9_floorMod_7cf53_1 : decode cJ9_floorMod_7cf53 1 = .ok (.iload_n 1, 1) := by decide +kernel
theorem dJ9_floorMod_7cf53_2 : decode cJ9_floorMod_7cf53 2 = .ok (.irem, 1) := by decide +kernel
theorem dJ9_floorMod_7cf53_3 : decode cJ9_floorMod_7cf53 3 = .ok (.istore_n 2, 1) := by decide +kernel
theorem dJ9_floorMod_7cf53_4 : decode cJ9_floorMod_7cf53 4 = .ok (.iload_n 0, 1) := by decide +kernel
theorem dJ9_floorMod_7cf53_5 : decode cJ9_floorMod_7cf53 5 = .ok (.iload_n 1, 1) := by decide +kernel
theorem dJ9_floorMod_7cf53_6 : decode cJ9_floorMod_7cf53 6 = .ok (.ixor, 1) := by decide +kernel
theorem dJ9_floorMod_7cf53_7 : decode cJ9_floorMod_7cf53 7 = .ok (.ifCond .ge 11, 3) := by decide +kernel
theorem dJ9_floorMod_7cf53_10 : decode cJ9_floorMod_7cf53 10 = .ok (.iload_n 2, 1) := by decide +kernel
theorem dJ9_floorMod_7cf53_11 : decode cJ9_floorMod_7cf53 11 = .ok (.ifCond .eq 7, 3) := by decide +kernel
theorem dJ9_floorMod_7cf53_14 : decode cJ9_floorMod_7cf53 14 = .ok (.iload_n 2, 1) := by decide +kernel
theorem dJ9_floorMod_7cf53_15 : decode cJ9_floorMod_7cf53 15 = .ok (.iload_n 1, 1) := by decide +kernel
theorem dJ9_floorMod_7cf53_16 : decode cJ9_floorMod_7cf53 16 = .ok (.iadd, 1) := by decide +kernel
theorem dJ9_floorMod_7cf53_17 : decode cJ9_floorMod_7cf53 17 = .ok (.ireturn, 1) := by decide +kernel
theorem dJ9_floorMod_7cf53_18 : decode cJ9_floorMod_7cf53 18 = .ok (.iload_n 2, 1) := by decide +kernel
theorem dJ9_floorMod_7cf53_19 : decode cJ9_floorMod_7cf53 19 = .ok (.ireturn, 1) := by decide +kernel
theorem dJ9_abs_067f4_0 : decode cJ9_abs_067f4 0 = .ok (.lload_n 0, 1) := by decide +kernel
theorem dJ9_abs_067f4_1 : decode cJ9_abs_067f4 1 = .ok (.lconst 0, 1) := by decide +kernel
theorem dJ9_abs_067f4_2 : decode cJ9_abs_067f4 2 = .ok (.lcmp, 1) := by decide +kernel
theorem dJ9_abs_067f4_3 : decode cJ9_abs_067f4 3 = .ok (.ifCond .ge 8, 3) := by decide +kernel
theorem dJ9_abs_067f4_6 : decode cJ9_abs_067f4 6 = .ok (.lload_n 0, 1) := by decide +kernel
theorem dJ9_abs_067f4_7 : decode cJ9_abs_067f4 7 = .ok (.lneg, 1) := by decide +kernel
theorem dJ9_abs_067f4_8 : decode cJ9_abs_067f4 8 = .ok (.goto 4, 3) := by decide +kernel
theorem dJ9_abs_067f4_11 : decode cJ9_abs_067f4 11 = .ok (.lload_n 0, 1) := by decide +kernel
theorem dJ9_abs_067f4_12 : decode cJ9_abs_067f4 12 = .ok (.lreturn, 1) := by decide +kernel
theorem dJ9_max_f86c9_0 : decode cJ9_max_f86c9 0 = .ok (.lload_n 0, 1) := by decide +kernel
theorem dJ9_max_f86c9_1 : decode cJ9_max_f86c9 1 = .ok (.lload_n 2, 1) := by decide +kernel
theorem dJ9_max_f86c9_2 : decode cJ9_max_f86c9 2 = .ok (.lcmp, 1) := by decide +kernel
theorem dJ9_max_f86c9_3 : decode cJ9_max_f86c9 3 = .ok (.ifCond .lt 7, 3) := by decide +kernel
theorem dJ9_max_f86c9_6 : decode cJ9_max_f86c9 6 = .ok (.lload_n 0, 1) := by decide +kernel
theorem dJ9_max_f86c9_7 : decode cJ9_max_f86c9 7 = .ok (.goto 4, 3) := by decide +kernel
theorem dJ9_max_f86c9_10 : decode cJ9_max_f86c9 10 = .ok (.lload_n 2, 1) := by decide +kernel
theorem dJ9_max_f86c9_11 : decode cJ9_max_f86c9 11 = .ok (.lreturn, 1) := by decide +kernel
theorem dJ7_fill_53178_0 : decode cJ7_fill_53178 0 = .ok (.iconst 0, 1) := by decide +kernel
theorem dJ7_fill_53178_1 : decode cJ7_fill_53178 1 = .ok (.istore_n 2, 1) := by decide +kernel
theorem dJ7_fill_53178_2 : decode cJ7_fill_53178 2 = .ok (.aload_n 0, 1) := by decide +kernel
theorem dJ7_fill_53178_3 : decode cJ7_fill_53178 3 = .ok (.arraylength, 1) := by decide +kernel
theorem dJ7_fill_53178_4 : decode cJ7_fill_53178 4 = .ok (.istore_n 3, 1) := by decide +kernel
theorem dJ7_fill_53178_5 : decode cJ7_fill_53178 5 = .ok (.iload_n 2, 1) := by decide +kernel
theorem dJ7_fill_53178_6 : decode cJ7_fill_53178 6 = .ok (.iload_n 3, 1) := by decide +kernel
theorem dJ7_fill_53178_7 : decode cJ7_fill_53178 7 = .ok (.if_icmp .ge 13, 3) := by decide +kernel
theorem dJ7_fill_53178_10 : decode cJ7_fill_53178 10 = .ok (.aload_n 0, 1) := by decide +kernel
theorem dJ7_fill_53178_11 : decode cJ7_fill_53178 11 = .ok (.iload_n 2, 1) := by decide +kernel
theorem dJ7_fill_53178_12 : decode cJ7_fill_53178 12 = .ok (.iload_n 1, 1) := by decide +kernel
theorem dJ7_fill_53178_13 : decode cJ7_fill_53178 13 = .ok (.iastore, 1) := by decide +kernel
theorem dJ7_fill_53178_14 : decode cJ7_fill_53178 14 = .ok (.iinc 2 1, 3) := by decide +kernel
theorem dJ7_fill_53178_17 : decode cJ7_fill_53178 17 = .ok (.goto (-12), 3) := by decide +kernel
theorem dJ7_fill_53178_20 : decode cJ7_fill_53178 20 = .ok (.return_, 1) := by decide +kernel
theorem dL_law_0 : decode cL_law 0 = .ok (.new 7, 3) := by decide +kernel
theorem dL_law_3 : decode cL_law 3 = .ok (.dup, 1) := by decide +kernel
theorem dL_law_4 : decode cL_law 4 = .ok (.invokespecial 9, 3) := by decide +kernel
theorem dL_law_7 : decode cL_law 7 = .ok (.astore_n 1, 1) := by decide +kernel
theorem dL_law_8 : decode cL_law 8 = .ok (.new 10, 3) := by decide +kernel
theorem dL_law_11 : decode cL_law 11 = .ok (.dup, 1) := by decide +kernel
theorem dL_law_12 : decode cL_law 12 = .ok (.invokespecial 12, 3) := by decide +kernel
theorem dL_law_15 : decode cL_law 15 = .ok (.astore_n 2, 1) := by decide +kernel
theorem dL_law_16 : decode cL_law 16 = .ok (.iconst 0, 1) := by decide +kernel
theorem dL_law_17 : decode cL_law 17 = .ok (.istore_n 3, 1) := by decide +kernel
theorem dL_law_18 : decode cL_law 18 = .ok (.iload_n 3, 1) := by decide +kernel
theorem dL_law_19 : decode cL_law 19 = .ok (.aload_n 0, 1) := by decide +kernel
theorem dL_law_20 : decode cL_law 20 = .ok (.arraylength, 1) := by decide +kernel
theorem dL_law_21 : decode cL_law 21 = .ok (.bipush 7, 2) := by decide +kernel
theorem dL_law_23 : decode cL_law 23 = .ok (.isub, 1) := by decide +kernel
theorem dL_law_24 : decode cL_law 24 = .ok (.if_icmp .gt 1588, 3) := by decide +kernel
theorem dL_law_27 : decode cL_law 27 = .ok (.aload_n 0, 1) := by decide +kernel
theorem dL_law_28 : decode cL_law 28 = .ok (.iload_n 3, 1) := by decide +kernel
theorem dL_law_29 : decode cL_law 29 = .ok (.iaload, 1) := by decide +kernel
theorem dL_law_30 : decode cL_law 30 = .ok (.bipush 63, 2) := by decide +kernel
theorem dL_law_32 : decode cL_law 32 = .ok (.iand, 1) := by decide +kernel
theorem dL_law_33 : decode cL_law 33 = .ok (.tableswitch 1573 0 32 #[147, 200, 233, 266, 359, 393, 497, 520, 624, 740, 763, 786, 819, 862, 915, 958, 1011, 1044, 1067, 1100, 1123, 1136, 1169, 1222, 1245, 1288, 1311, 1364, 1407, 1470, 1503, 1536, 1559], 147) := by decide +kernel
theorem dL_law_180 : decode cL_law 180 = .ok (.aload_n 1, 1) := by decide +kernel
theorem dL_law_181 : decode cL_law 181 = .ok (.aload_n 0, 1) := by decide +kernel
theorem dL_law_182 : decode cL_law 182 = .ok (.iload_n 3, 1) := by decide +kernel
theorem dL_law_183 : decode cL_law 183 = .ok (.iconst 1, 1) := by decide +kernel
theorem dL_law_184 : decode cL_law 184 = .ok (.iadd, 1) := by decide +kernel
theorem dL_law_185 : decode cL_law 185 = .ok (.iaload, 1) := by decide +kernel
theorem dL_law_186 : decode cL_law 186 = .ok (.aload_n 0, 1) := by decide +kernel
theorem dL_law_187 : decode cL_law 187 = .ok (.iload_n 3, 1) := by decide +kernel
theorem dL_law_188 : decode cL_law 188 = .ok (.iconst 2, 1) := by decide +kernel
theorem dL_law_189 : decode cL_law 189 = .ok (.iadd, 1) := by decide +kernel
theorem dL_law_190 : decode cL_law 190 = .ok (.iaload, 1) := by decide +kernel
theorem dL_law_191 : decode cL_law 191 = .ok (.aload_n 0, 1) := by decide +kernel
theorem dL_law_192 : decode cL_law 192 = .ok (.iload_n 3, 1) := by decide +kernel
theorem dL_law_193 : decode cL_law 193 = .ok (.iconst 3, 1) := by decide +kernel
theorem dL_law_194 : decode cL_law 194 = .ok (.iadd, 1) := by decide +kernel
theorem dL_law_195 : decode cL_law 195 = .ok (.iaload, 1) := by decide +kernel
theorem dL_law_196 : decode cL_law 196 = .ok (.aload_n 0, 1) := by decide +kernel
theorem dL_law_197 : decode cL_law 197 = .ok (.iload_n 3, 1) := by decide +kernel
theorem dL_law_198 : decode cL_law 198 = .ok (.iconst 4, 1) := by decide +kernel
theorem dL_law_199 : decode cL_law 199 = .ok (.iadd, 1) := by decide +kernel
theorem dL_law_200 : decode cL_law 200 = .ok (.iaload, 1) := by decide +kernel
theorem dL_law_201 : decode cL_law 201 = .ok (.invokevirtual 13, 3) := by decide +kernel
theorem dL_law_204 : decode cL_law 204 = .ok (.aload_n 2, 1) := by decide +kernel
theorem dL_law_205 : decode cL_law 205 = .ok (.aload_n 0, 1) := by decide +kernel
theorem dL_law_206 : decode cL_law 206 = .ok (.iload_n 3, 1) := by decide +kernel
theorem dL_law_207 : decode cL_law 207 = .ok (.iconst 1, 1) := by decide +kernel
theorem dL_law_208 : decode cL_law 208 = .ok (.iadd, 1) := by decide +kernel
theorem dL_law_209 : decode cL_law 209 = .ok (.iaload, 1) := by decide +kernel
theorem dL_law_210 : decode cL_law 210 = .ok (.aload_n 0, 1) := by decide +kernel
theorem dL_law_211 : decode cL_law 211 = .ok (.iload_n 3, 1) := by decide +kernel
theorem dL_law_212 : decode cL_law 212 = .ok (.iconst 2, 1) := by decide +kernel
theorem dL_law_213 : decode cL_law 213 = .ok (.iadd, 1) := by decide +kernel
theorem dL_law_214 : decode cL_law 214 = .ok (.iaload, 1) := by decide +kernel
theorem dL_law_215 : decode cL_law 215 = .ok (.aload_n 0, 1) := by decide +kernel
theorem dL_law_216 : decode cL_law 216 = .ok (.iload_n 3, 1) := by decide +kernel
theorem dL_law_217 : decode cL_law 217 = .ok (.iconst 3, 1) := by decide +kernel
theorem dL_law_218 : decode cL_law 218 = .ok (.iadd, 1) := by decide +kernel
theorem dL_law_219 : decode cL_law 219 = .ok (.iaload, 1) := by decide +kernel
theorem dL_law_220 : decode cL_law 220 = .ok (.aload_n 0, 1) := by decide +kernel
theorem dL_law_221 : decode cL_law 221 = .ok (.iload_n 3, 1) := by decide +kernel
theorem dL_law_222 : decode cL_law 222 = .ok (.iconst 4, 1) := by decide +kernel
theorem dL_law_223 : decode cL_law 223 = .ok (.iadd, 1) := by decide +kernel
