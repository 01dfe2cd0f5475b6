theorem dX0_init_0 : decode cX0_init 0 = .ok (.aload_n 0, 1) := by decide +kernel
theorem dX0_init_1 : decode cX0_init 1 = .ok (.invokespecial 3, 3) := by decide +kernel
theorem dX0_init_4 : decode cX0_init 4 = .ok (.aload_n 0, 1) := by decide +kernel
theorem dX0_init_5 : decode cX0_init 5 = .ok (.aload_n 1, 1) := by decide +kernel
theorem dX0_init_6 : decode cX0_init 6 = .ok (.putfield 9, 3) := by decide +kernel
theorem dX0_init_9 : decode cX0_init 9 = .ok (.return_, 1) := by decide +kernel
theorem dX0_bestAhead_0 : decode cX0_bestAhead 0 = .ok (.aload_n 0, 1) := by decide +kernel
theorem dX0_bestAhead_1 : decode cX0_bestAhead 1 = .ok (.getfield 9, 3) := by decide +kernel
theorem dX0_bestAhead_4 : decode cX0_bestAhead 4 = .ok (.getfield 15, 3) := by decide +kernel
theorem dX0_bestAhead_7 : decode cX0_bestAhead 7 = .ok (.getfield 21, 3) := by decide +kernel
theorem dX0_bestAhead_10 : decode cX0_bestAhead 10 = .ok (.iload_n 2, 1) := by decide +kernel
theorem dX0_bestAhead_11 : decode cX0_bestAhead 11 = .ok (.invokestatic 27, 3) := by decide +kernel
theorem dX0_bestAhead_14 : decode cX0_bestAhead 14 = .ok (.isub, 1) := by decide +kernel
theorem dX0_bestAhead_15 : decode cX0_bestAhead 15 = .ok (.iconst 1, 1) := by decide +kernel
theorem dX0_bestAhead_16 : decode cX0_bestAhead 16 = .ok (.isub, 1) := by decide +kernel
theorem dX0_bestAhead_17 : decode cX0_bestAhead 17 = .ok (.istore_n 3, 1) := by decide +kernel
theorem dX0_bestAhead_18 : decode cX0_bestAhead 18 = .ok (.iconst 0, 1) := by decide +kernel
theorem dX0_bestAhead_19 : decode cX0_bestAhead 19 = .ok (.istore 4, 2) := by decide +kernel
theorem dX0_bestAhead_21 : decode cX0_bestAhead 21 = .ok (.aload_n 0, 1) := by decide +kernel
theorem dX0_bestAhead_22 : decode cX0_bestAhead 22 = .ok (.iload_n 1, 1) := by decide +kernel
theorem dX0_bestAhead_23 : decode cX0_bestAhead 23 = .ok (.iconst 0, 1) := by decide +kernel
theorem dX0_bestAhead_24 : decode cX0_bestAhead 24 = .ok (.iload_n 2, 1) := by decide +kernel
theorem dX0_bestAhead_25 : decode cX0_bestAhead 25 = .ok (.invokevirtual 33, 3) := by decide +kernel
theorem dX0_bestAhead_28 : decode cX0_bestAhead 28 = .ok (.istore 5, 2) := by decide +kernel
theorem dX0_bestAhead_30 : decode cX0_bestAhead 30 = .ok (.iconst 1, 1) := by decide +kernel
theorem dX0_bestAhead_31 : decode cX0_bestAhead 31 = .ok (.istore 6, 2) := by decide +kernel
theorem dX0_bestAhead_33 : decode cX0_bestAhead 33 = .ok (.iload 6, 2) := by decide +kernel
theorem dX0_bestAhead_35 : decode cX0_bestAhead 35 = .ok (.iload_n 3, 1) := by decide +kernel
theorem dX0_bestAhead_36 : decode cX0_bestAhead 36 = .ok (.if_icmp .gt 34, 3) := by decide +kernel
theorem dX0_bestAhead_39 : decode cX0_bestAhead 39 = .ok (.aload_n 0, 1) := by decide +kernel
theorem dX0_bestAhead_40 : decode cX0_bestAhead 40 = .ok (.iload_n 1, 1) := by decide +kernel
theorem dX0_bestAhead_41 : decode cX0_bestAhead 41 = .ok (.iload 6, 2) := by decide +kernel
theorem dX0_bestAhead_43 : decode cX0_bestAhead 43 = .ok (.iload_n 2, 1) := by decide +kernel
theorem dX0_bestAhead_44 : decode cX0_bestAhead 44 = .ok (.invokevirtual 33, 3) := by decide +kernel
theorem dX0_bestAhead_47 : decode cX0_bestAhead 47 = .ok (.istore 7, 2) := by decide +kernel
theorem dX0_bestAhead_49 : decode cX0_bestAhead 49 = .ok (.iload 7, 2) := by decide +kernel
theorem dX0_bestAhead_51 : decode cX0_bestAhead 51 = .ok (.iload 5, 2) := by decide +kernel
theorem dX0_bestAhead_53 : decode cX0_bestAhead 53 = .ok (.if_icmp .le 11, 3) := by decide +kernel
theorem dX0_bestAhead_56 : decode cX0_bestAhead 56 = .ok (.iload 7, 2) := by decide +kernel
theorem dX0_bestAhead_58 : decode cX0_bestAhead 58 = .ok (.istore 5, 2) := by decide +kernel
theorem dX0_bestAhead_60 : decode cX0_bestAhead 60 = .ok (.iload 6, 2) := by decide +kernel
theorem dX0_bestAhead_62 : decode cX0_bestAhead 62 = .ok (.istore 4, 2) := by decide +kernel
theorem dX0_bestAhead_64 : decode cX0_bestAhead 64 = .ok (.iinc 6 1, 3) := by decide +kernel
theorem dX0_bestAhead_67 : decode cX0_bestAhead 67 = .ok (.goto (-34), 3) := by decide +kernel
theorem dX0_bestAhead_70 : decode cX0_bestAhead 70 = .ok (.iload 4, 2) := by decide +kernel
theorem dX0_bestAhead_72 : decode cX0_bestAhead 72 = .ok (.ireturn, 1) := by decide +kernel
theorem dX0_gainBehind_0 : decode cX0_gainBehind 0 = .ok (.iload_n 3, 1) := by decide +kernel
theorem dX0_gainBehind_1 : decode cX0_gainBehind 1 = .ok (.istore 4, 2) := by decide +kernel
theorem dX0_gainBehind_3 : decode cX0_gainBehind 3 = .ok (.iconst 0, 1) := by decide +kernel
theorem dX0_gainBehind_4 : decode cX0_gainBehind 4 = .ok (.istore 5, 2) := by decide +kernel
theorem dX0_gainBehind_6 : decode cX0_gainBehind 6 = .ok (.iconst 0, 1) := by decide +kernel
theorem dX0_gainBehind_7 : decode cX0_gainBehind 7 = .ok (.istore 6, 2) := by decide +kernel
theorem dX0_gainBehind_9 : decode cX0_gainBehind 9 = .ok (.iconst 0, 1) := by decide +kernel
theorem dX0_gainBehind_10 : decode cX0_gainBehind 10 = .ok (.istore 7, 2) := by decide +kernel
theorem dX0_gainBehind_12 : decode cX0_gainBehind 12 = .ok (.iload 7, 2) := by decide +kernel
theorem dX0_gainBehind_14 : decode cX0_gainBehind 14 = .ok (.aload_n 0, 1) := by decide +kernel
theorem dX0_gainBehind_15 : decode cX0_gainBehind 15 = .ok (.getfield 9, 3) := by decide +kernel
theorem dX0_gainBehind_18 : decode cX0_gainBehind 18 = .ok (.getfield 15, 3) := by decide +kernel
theorem dX0_gainBehind_21 : decode cX0_gainBehind 21 = .ok (.getfield 21, 3) := by decide +kernel
theorem dX0_gainBehind_24 : decode cX0_gainBehind 24 = .ok (.if_icmp .gt 112, 3) := by decide +kernel
theorem dX0_gainBehind_27 : decode cX0_gainBehind 27 = .ok (.iload 5, 2) := by decide +kernel
theorem dX0_gainBehind_29 : decode cX0_gainBehind 29 = .ok (.iload_n 2, 1) := by decide +kernel
theorem dX0_gainBehind_30 : decode cX0_gainBehind 30 = .ok (.if_icmp .ne 33, 3) := by decide +kernel
theorem dX0_gainBehind_33 : decode cX0_gainBehind 33 = .ok (.iload 4, 2) := by decide +kernel
theorem dX0_gainBehind_35 : decode cX0_gainBehind 35 = .ok (.iload_n 1, 1) := by decide +kernel
theorem dX0_gainBehind_36 : decode cX0_gainBehind 36 = .ok (.invokestatic 37, 3) := by decide +kernel
theorem dX0_gainBehind_39 : decode cX0_gainBehind 39 = .ok (.ifCond .ne 24, 3) := by decide +kernel
theorem dX0_gainBehind_42 : decode cX0_gainBehind 42 = .ok (.aload_n 0, 1) := by decide +kernel
theorem dX0_gainBehind_43 : decode cX0_gainBehind 43 = .ok (.getfield 9, 3) := by decide +kernel
theorem dX0_gainBehind_46 : decode cX0_gainBehind 46 = .ok (.iload_n 1, 1) := by decide +kernel
theorem dX0_gainBehind_47 : decode cX0_gainBehind 47 = .ok (.iload 4, 2) := by decide +kernel
theorem dX0_gainBehind_49 : decode cX0_gainBehind 49 = .ok (.invokevirtual 41, 3) := by decide +kernel
theorem dX0_gainBehind_52 : decode cX0_gainBehind 52 = .ok (.istore 6, 2) := by decide +kernel
theorem dX0_gainBehind_54 : decode cX0_gainBehind 54 = .ok (.iload 4, 2) := by decide +kernel
theorem dX0_gainBehind_56 : decode cX0_gainBehind 56 = .ok (.iload_n 1, 1) := by decide +kernel
theorem dX0_gainBehind_57 : decode cX0_gainBehind 57 = .ok (.invokestatic 45, 3) := by decide +kernel
theorem dX0_gainBehind_60 : decode cX0_gainBehind 60 = .ok (.ior, 1) := by decide +kernel
theorem dX0_gainBehind_61 : decode cX0_gainBehind 61 = .ok (.istore 4, 2) := by decide +kernel
theorem dX0_gainBehind_63 : decode cX0_gainBehind 63 = .ok (.iload 7, 2) := by decide +kernel
theorem dX0_gainBehind_65 : decode cX0_gainBehind 65 = .ok (.aload_n 0, 1) := by decide +kernel
theorem dX0_gainBehind_66 : decode cX0_gainBehind 66 = .ok (.getfield 9, 3) := by decide +kernel
theorem dX0_gainBehind_69 : decode cX0_gainBehind 69 = .ok (.getfield 15, 3) := by decide +kernel
theorem dX0_gainBehind_72 : decode cX0_gainBehind 72 = .ok (.getfield 21, 3) := by decide +kernel
theorem dX0_gainBehind_75 : decode cX0_gainBehind 75 = .ok (.if_icmp .ge 55, 3) := by decide +kernel
theorem dX0_gainBehind_78 : decode cX0_gainBehind 78 = .ok (.iload 7, 2) := by decide +kernel
theorem dX0_gainBehind_80 : decode cX0_gainBehind 80 = .ok (.iload_n 1, 1) := by decide +kernel
theorem dX0_gainBehind_81 : decode cX0_gainBehind 81 = .ok (.if_icmp .eq 49, 3) := by decide +kernel
theorem dX0_gainBehind_84 : decode cX0_gainBehind 84 = .ok (.iload_n 3, 1) := by decide +kernel
theorem dX0_gainBehind_85 : decode cX0_gainBehind 85 = .ok (.iload 7, 2) := by decide +kernel
theorem dX0_gainBehind_87 : decode cX0_gainBehind 87 = .ok (.invokestatic 37, 3) := by decide +kernel
theorem dX0_gainBehind_90 : decode cX0_gainBehind 90 = .ok (.ifCond .ne 40, 3) := by decide +kernel
theorem dX0_gainBehind_93 : decode cX0_gainBehind 93 = .ok (.aload_n 0, 1) := by decide +kernel
theorem dX0_gainBehind_94 : decode cX0_gainBehind 94 = .ok (.getfield 9, 3) := by decide +kernel
theorem dX0_gainBehind_97 : decode cX0_gainBehind 97 = .ok (.iload 7, 2) := by decide +kernel
theorem dX0_gainBehind_99 : decode cX0_gainBehind 99 = .ok (.iload 4, 2) := by decide +kernel
theorem dX0_gainBehind_101 : decode cX0_gainBehind 101 = .ok (.aload_n 0, 1) := by decide +kernel
theorem dX0_gainBehind_102 : decode cX0_gainBehind 102 = .ok (.getfield 9, 3) := by decide +kernel
theorem dX0_gainBehind_105 : decode cX0_gainBehind 105 = .ok (.getfield 15, 3) := by decide +kernel
theorem dX0_gainBehind_108 : decode cX0_gainBehind 108 = .ok (.getfield 48, 3) := by decide +kernel
theorem dX0_gainBehind_111 : decode cX0_gainBehind 111 = .ok (.invokevirtual 51, 3) := by decide +kernel
theorem dX0_gainBehind_114 : decode cX0_gainBehind 114 = .ok (.ifCond .eq 13, 3) := by decide +kernel
theorem dX0_gainBehind_117 : decode cX0_gainBehind 117 = .ok (.iload 4, 2) := by decide +kernel
theorem dX0_gainBehind_119 : decode cX0_gainBehind 119 = .ok (.iload 7, 2) := by decide +kernel
theorem dX0_gainBehind_121 : decode cX0_gainBehind 121 = .ok (.invokestatic 45, 3) := by decide +kernel
theorem dX0_gainBehind_124 : decode cX0_gainBehind 124 = .ok (.ior, 1) := by decide +kernel
theorem dX0_gainBehind_125 : decode cX0_gainBehind 125 = .ok (.istore 4, 2) := by decide +kernel
theorem dX0_gainBehind_127 : decode cX0_gainBehind 127 = .ok (.iinc 5 1, 3) := by decide +kernel
theorem dX0_gainBehind_130 : decode cX0_gainBehind 130 = .ok (.iinc 7 1, 3) := by decide +kernel
theorem dX0_gainBehind_133 : decode cX0_gainBehind 133 = .ok (.goto (-121), 3) := by decide +kernel
theorem dX0_gainBehind_136 : decode cX0_gainBehind 136 = .ok (.aload_n 0, 1) := by decide +kernel
theorem dX0_gainBehind_137 : decode cX0_gainBehind 137 = .ok (.getfield 9, 3) := by decide +kernel
theorem dX0_gainBehind_140 : decode cX0_gainBehind 140 = .ok (.iload_n 1, 1) := by decide +kernel
theorem dX0_gainBehind_141 : decode cX0_gainBehind 141 = .ok (.iload 4, 2) := by decide +kernel
theorem dX0_gainBehind_143 : decode cX0_gainBehind 143 = .ok (.aload_n 0, 1) := by decide +kernel
theorem dX0_gainBehind_144 : decode cX0_gainBehind 144 = .ok (.getfield 9, 3) := by decide +kernel
theorem dX0_gainBehind_147 : decode cX0_gainBehind 147 = .ok (.getfield 15, 3) := by decide +kernel
theorem dX0_gainBehind_150 : decode cX0_gainBehind 150 = .ok (.getfield 48, 3) := by decide +kernel
theorem dX0_gainBehind_153 : decode cX0_gainBehind 153 = .ok (.invokevirtual 55, 3) := by decide +kernel
theorem dX0_gainBehind_156 : decode cX0_gainBehind 156 = .ok (.iload 6, 2) := by decide +kernel
theorem dX0_gainBehind_158 : decode cX0_gainBehind 158 = .ok (.isub, 1) := by decide +kernel
theorem dX0_gainBehind_159 : decode cX0_gainBehind 159 = .ok (.ireturn, 1) := by decide +kernel
theorem dX0_leastBurnt_0 : decode cX0_leastBurnt 0 = .ok (.bipush (-4), 2) := by decide +kernel
theorem dX0_leastBurnt_2 : decode cX0_leastBurnt 2 = .ok (.istore_n 3, 1) := by decide +kernel
theorem dX0_leastBurnt_3 : decode cX0_leastBurnt 3 = .ok (.bipush 8, 2) := by decide +kernel
theorem dX0_leastBurnt_5 : decode cX0_leastBurnt 5 = .ok (.istore 4, 2) := by decide +kernel
theorem dX0_leastBurnt_7 : decode cX0_leastBurnt 7 = .ok (.iconst 0, 1) := by decide +kernel
theorem dX0_leastBurnt_8 : decode cX0_leastBurnt 8 = .ok (.istore 5, 2) := by decide +kernel
theorem dX0_leastBurnt_10 : decode cX0_leastBurnt 10 = .ok (.iload 5, 2) := by decide +kernel
theorem dX0_leastBurnt_12 : decode cX0_leastBurnt 12 = .ok (.iload_n 2, 1) := by decide +kernel
theorem dX0_leastBurnt_13 : decode cX0_leastBurnt 13 = .ok (.if_icmp .gt 78, 3) := by decide +kernel
theorem dX0_leastBurnt_16 : decode cX0_leastBurnt 16 = .ok (.iload 5, 2) := by decide +kernel
theorem dX0_leastBurnt_18 : decode cX0_leastBurnt 18 = .ok (.invokestatic 27, 3) := by decide +kernel
theorem dX0_leastBurnt_21 : decode cX0_leastBurnt 21 = .ok (.istore 6, 2) := by decide +kernel
theorem dX0_leastBurnt_23 : decode cX0_leastBurnt 23 = .ok (.iload 5, 2) := by decide +kernel
theorem dX0_leastBurnt_25 : decode cX0_leastBurnt 25 = .ok (.iload_n 2, 1) := by decide +kernel
theorem dX0_leastBurnt_26 : decode cX0_leastBurnt 26 = .ok (.iconst (-1), 1) := by decide +kernel
theorem dX0_leastBurnt_27 : decode cX0_leastBurnt 27 = .ok (.ixor, 1) := by decide +kernel
theorem dX0_leastBurnt_28 : decode cX0_leastBurnt 28 = .ok (.iand, 1) := by decide +kernel
theorem dX0_leastBurnt_29 : decode cX0_leastBurnt 29 = .ok (.ifCond .ne 7, 3) := by decide +kernel
theorem dX0_leastBurnt_32 : decode cX0_leastBurnt 32 = .ok (.iconst 1, 1) := by decide +kernel
theorem dX0_leastBurnt_33 : decode cX0_leastBurnt 33 = .ok (.goto 4, 3) := by decide +kernel
theorem dX0_leastBurnt_36 : decode cX0_leastBurnt 36 = .ok (.iconst 0, 1) := by decide +kernel
theorem dX0_leastBurnt_37 : decode cX0_leastBurnt 37 = .ok (.istore 7, 2) := by decide +kernel
theorem dX0_leastBurnt_39 : decode cX0_leastBurnt 39 = .ok (.iload 7, 2) := by decide +kernel
theorem dX0_leastBurnt_41 : decode cX0_leastBurnt 41 = .ok (.ifCond .eq 44, 3) := by decide +kernel
theorem dX0_leastBurnt_44 : decode cX0_leastBurnt 44 = .ok (.iload 6, 2) := by decide +kernel
theorem dX0_leastBurnt_46 : decode cX0_leastBurnt 46 = .ok (.iload 4, 2) := by decide +kernel
theorem dX0_leastBurnt_48 : decode cX0_leastBurnt 48 = .ok (.if_icmp .ge 37, 3) := by decide +kernel
theorem dX0_leastBurnt_51 : decode cX0_leastBurnt 51 = .ok (.aload_n 0, 1) := by decide +kernel
theorem dX0_leastBurnt_52 : decode cX0_leastBurnt 52 = .ok (.getfield 9, 3) := by decide +kernel
theorem dX0_leastBurnt_55 : decode cX0_leastBurnt 55 = .ok (.iload_n 1, 1) := by decide +kernel
theorem dX0_leastBurnt_56 : decode cX0_leastBurnt 56 = .ok (.iload_n 2, 1) := by decide +kernel
theorem dX0_leastBurnt_57 : decode cX0_leastBurnt 57 = .ok (.iload 5, 2) := by decide +kernel
theorem dX0_leastBurnt_59 : decode cX0_leastBurnt 59 = .ok (.iconst (-1), 1) := by decide +kernel
theorem dX0_leastBurnt_60 : decode cX0_leastBurnt 60 = .ok (.ixor, 1) := by decide +kernel
theorem dX0_leastBurnt_61 : decode cX0_leastBurnt 61 = .ok (.iand, 1) := by decide +kernel
theorem dX0_leastBurnt_62 : decode cX0_leastBurnt 62 = .ok (.aload_n 0, 1) := by decide +kernel
theorem dX0_leastBurnt_63 : decode cX0_leastBurnt 63 = .ok (.getfield 9, 3) := by decide +kernel
theorem dX0_leastBurnt_66 : decode cX0_leastBurnt 66 = .ok (.getfield 15, 3) := by decide +kernel
theorem dX0_leastBurnt_69 : decode cX0_leastBurnt 69 = .ok (.getfield 48, 3) := by decide +kernel
theorem dX0_leastBurnt_72 : decode cX0_leastBurnt 72 = .ok (.invokevirtual 51, 3) := by decide +kernel
theorem dX0_leastBurnt_75 : decode cX0_leastBurnt 75 = .ok (.ifCond .eq 10, 3) := by decide +kernel
theorem dX0_leastBurnt_78 : decode cX0_leastBurnt 78 = .ok (.iload 5, 2) := by decide +kernel
theorem dX0_leastBurnt_80 : decode cX0_leastBurnt 80 = .ok (.istore_n 3, 1) := by decide +kernel
theorem dX0_leastBurnt_81 : decode cX0_leastBurnt 81 = .ok (.iload 6, 2) := by decide +kernel
theorem dX0_leastBurnt_83 : decode cX0_leastBurnt 83 = .ok (.istore 4, 2) := by decide +kernel
theorem dX0_leastBurnt_85 : decode cX0_leastBurnt 85 = .ok (.iinc 5 1, 3) := by decide +kernel
theorem dX0_leastBurnt_88 : decode cX0_leastBurnt 88 = .ok (.goto (-78), 3) := by decide +kernel
theorem dX0_leastBurnt_91 : decode cX0_leastBurnt 91 = .ok (.iload_n 3, 1) := by decide +kernel
theorem dX0_leastBurnt_92 : decode cX0_leastBurnt 92 = .ok (.ireturn, 1) := by decide +kernel
theorem dX0_bestPair_0 : decode cX0_bestPair 0 = .ok (.bipush (-4), 2) := by decide +kernel
theorem dX0_bestPair_2 : decode cX0_bestPair 2 = .ok (.istore_n 2, 1) := by decide +kernel
theorem dX0_bestPair_3 : decode cX0_bestPair 3 = .ok (.iconst 0, 1) := by decide +kernel
theorem dX0_bestPair_4 : decode cX0_bestPair 4 = .ok (.istore_n 3, 1) := by decide +kernel
theorem dX0_bestPair_5 : decode cX0_bestPair 5 = .ok (.iconst 0, 1) := by decide +kernel
theorem dX0_bestPair_6 : decode cX0_bestPair 6 = .ok (.istore 4, 2) := by decide +kernel
theorem dX0_bestPair_8 : decode cX0_bestPair 8 = .ok (.iload 4, 2) := by decide +kernel
theorem dX0_bestPair_10 : decode cX0_bestPair 10 = .ok (.aload_n 0, 1) := by decide +kernel
theorem dX0_bestPair_11 : decode cX0_bestPair 11 = .ok (.getfield 9, 3) := by decide +kernel
theorem dX0_bestPair_14 : decode cX0_bestPair 14 = .ok (.getfield 15, 3) := by decide +kernel
theorem dX0_bestPair_17 : decode cX0_bestPair 17 = .ok (.getfield 21, 3) := by decide +kernel
theorem dX0_bestPair_20 : decode cX0_bestPair 20 = .ok (.if_icmp .ge 87, 3) := by decide +kernel
theorem dX0_bestPair_23 : decode cX0_bestPair 23 = .ok (.iload 4, 2) := by decide +kernel
theorem dX0_bestPair_25 : decode cX0_bestPair 25 = .ok (.iconst 1, 1) := by decide +kernel
theorem dX0_bestPair_26 : decode cX0_bestPair 26 = .ok (.iadd, 1) := by decide +kernel
theorem dX0_bestPair_27 : decode cX0_bestPair 27 = .ok (.istore 5, 2) := by decide +kernel
theorem dX0_bestPair_29 : decode cX0_bestPair 29 = .ok (.iload 5, 2) := by decide +kernel
theorem dX0_bestPair_31 : decode cX0_bestPair 31 = .ok (.aload_n 0, 1) := by decide +kernel
theorem dX0_bestPair_32 : decode cX0_bestPair 32 = .ok (.getfield 9, 3) := by decide +kernel
theorem dX0_bestPair_35 : decode cX0_bestPair 35 = .ok (.getfield 15, 3) := by decide +kernel
theorem dX0_bestPair_38 : decode cX0_bestPair 38 = .ok (.getfield 21, 3) := by decide +kernel
theorem dX0_bestPair_41 : decode cX0_bestPair 41 = .ok (.if_icmp .ge 60, 3) := by decide +kernel
theorem dX0_bestPair_44 : decode cX0_bestPair 44 = .ok (.iload_n 1, 1) := by decide +kernel
theorem dX0_bestPair_45 : decode cX0_bestPair 45 = .ok (.iload 4, 2) := by decide +kernel
theorem dX0_bestPair_47 : decode cX0_bestPair 47 = .ok (.invokestatic 37, 3) := by decide +kernel
theorem dX0_bestPair_50 : decode cX0_bestPair 50 = .ok (.ifCond .ne 12, 3) := by decide +kernel
theorem dX0_bestPair_53 : decode cX0_bestPair 53 = .ok (.iload_n 1, 1) := by decide +kernel
theorem dX0_bestPair_54 : decode cX0_bestPair 54 = .ok (.iload 5, 2) := by decide +kernel
theorem dX0_bestPair_56 : decode cX0_bestPair 56 = .ok (.invokestatic 37, 3) := by decide +kernel
theorem dX0_bestPair_59 : decode cX0_bestPair 59 = .ok (.ifCond .eq 7, 3) := by decide +kernel
theorem dX0_bestPair_62 : decode cX0_bestPair 62 = .ok (.iconst 0, 1) := by decide +kernel
theorem dX0_bestPair_63 : decode cX0_bestPair 63 = .ok (.goto 12, 3) := by decide +kernel
theorem dX0_bestPair_66 : decode cX0_bestPair 66 = .ok (.aload_n 0, 1) := by decide +kernel
theorem dX0_bestPair_67 : decode cX0_bestPair 67 = .ok (.iload 4, 2) := by decide +kernel
theorem dX0_bestPair_69 : decode cX0_bestPair 69 = .ok (.iload 5, 2) := by decide +kernel
theorem dX0_bestPair_71 : decode cX0_bestPair 71 = .ok (.iload_n 1, 1) := by decide +kernel
theorem dX0_bestPair_72 : decode cX0_bestPair 72 = .ok (.invokevirtual 58, 3) := by decide +kernel
theorem dX0_bestPair_75 : decode cX0_bestPair 75 = .ok (.istore 6, 2) := by decide +kernel
theorem dX0_bestPair_77 : decode cX0_bestPair 77 = .ok (.iload 6, 2) := by decide +kernel
theorem dX0_bestPair_79 : decode cX0_bestPair 79 = .ok (.iload_n 3, 1) := by decide +kernel
theorem dX0_bestPair_80 : decode cX0_bestPair 80 = .ok (.if_icmp .le 15, 3) := by decide +kernel
theorem dX0_bestPair_83 : decode cX0_bestPair 83 = .ok (.iload 6, 2) := by decide +kernel
theorem dX0_bestPair_85 : decode cX0_bestPair 85 = .ok (.istore_n 3, 1) := by decide +kernel
theorem dX0_bestPair_86 : decode cX0_bestPair 86 = .ok (.bipush 10, 2) := by decide +kernel
theorem dX0_bestPair_88 : decode cX0_bestPair 88 = .ok (.iload 4, 2) := by decide +kernel
theorem dX0_bestPair_90 : decode cX0_bestPair 90 = .ok (.imul, 1) := by decide +kernel
theorem dX0_bestPair_91 : decode cX0_bestPair 91 = .ok (.iload 5, 2) := by decide +kernel
theorem dX0_bestPair_93 : decode cX0_bestPair 93 = .ok (.iadd, 1) := by decide +kernel
theorem dX0_bestPair_94 : decode cX0_bestPair 94 = .ok (.istore_n 2, 1) := by decide +kernel
theorem dX0_bestPair_95 : decode cX0_bestPair 95 = .ok (.iinc 5 1, 3) := by decide +kernel
theorem dX0_bestPair_98 : decode cX0_bestPair 98 = .ok (.goto (-69), 3) := by decide +kernel
theorem dX0_bestPair_101 : decode cX0_bestPair 101 = .ok (.iinc 4 1, 3) := by decide +kernel
theorem dX0_bestPair_104 : decode cX0_bestPair 104 = .ok (.goto (-96), 3) := by decide +kernel
theorem dX0_bestPair_107 : decode cX0_bestPair 107 = .ok (.iload_n 2, 1) := by decide +kernel
theorem dX0_bestPair_108 : decode cX0_bestPair 108 = .ok (.ireturn, 1) := by decide +kernel
theorem dX0_gainTogether_0 : decode cX0_gainTogether 0 = .ok (.aload_n 0, 1) := by decide +kernel
theorem dX0_gainTogether_1 : decode cX0_gainTogether 1 = .ok (.getfield 9, 3) := by decide +kernel
theorem dX0_gainTogether_4 : decode cX0_gainTogether 4 = .ok (.getfield 15, 3) := by decide +kernel
theorem dX0_gainTogether_7 : decode cX0_gainTogether 7 = .ok (.getfield 48, 3) := by decide +kernel
theorem dX0_gainTogether_10 : decode cX0_gainTogether 10 = .ok (.istore 4, 2) := by decide +kernel
theorem dX0_gainTogether_12 : decode cX0_gainTogether 12 = .ok (.aload_n 0, 1) := by decide +kernel
theorem dX0_gainTogether_13 : decode cX0_gainTogether 13 = .ok (.getfield 9, 3) := by decide +kernel
theorem dX0_gainTogether_16 : decode cX0_gainTogether 16 = .ok (.iload_n 1, 1) := by decide +kernel
theorem dX0_gainTogether_17 : decode cX0_gainTogether 17 = .ok (.iload_n 3, 1) := by decide +kernel
theorem dX0_gainTogether_18 : decode cX0_gainTogether 18 = .ok (.invokevirtual 41, 3) := by decide +kernel
theorem dX0_gainTogether_21 : decode cX0_gainTogether 21 = .ok (.istore 5, 2) := by decide +kernel
theorem dX0_gainTogether_23 : decode cX0_gainTogether 23 = .ok (.aload_n 0, 1) := by decide +kernel
theorem dX0_gainTogether_24 : decode cX0_gainTogether 24 = .ok (.getfield 9, 3) := by decide +kernel
theorem dX0_gainTogether_27 : decode cX0_gainTogether 27 = .ok (.iload_n 1, 1) := by decide +kernel
theorem dX0_gainTogether_28 : decode cX0_gainTogether 28 = .ok (.iload 5, 2) := by decide +kernel
theorem dX0_gainTogether_30 : decode cX0_gainTogether 30 = .ok (.iload 4, 2) := by decide +kernel
theorem dX0_gainTogether_32 : decode cX0_gainTogether 32 = .ok (.invokevirtual 61, 3) := by decide +kernel
theorem dX0_gainTogether_35 : decode cX0_gainTogether 35 = .ok (.aload_n 0, 1) := by decide +kernel
theorem dX0_gainTogether_36 : decode cX0_gainTogether 36 = .ok (.getfield 9, 3) := by decide +kernel
theorem dX0_gainTogether_39 : decode cX0_gainTogether 39 = .ok (.iload_n 2, 1) := by decide +kernel
theorem dX0_gainTogether_40 : decode cX0_gainTogether 40 = .ok (.iload 5, 2) := by decide +kernel
theorem dX0_gainTogether_42 : decode cX0_gainTogether 42 = .ok (.iload 4, 2) := by decide +kernel
theorem dX0_gainTogether_44 : decode cX0_gainTogether 44 = .ok (.invokevirtual 61, 3) := by decide +kernel
theorem dX0_gainTogether_47 : decode cX0_gainTogether 47 = .ok (.iadd, 1) := by decide +kernel
theorem dX0_gainTogether_48 : decode cX0_gainTogether 48 = .ok (.iload 5, 2) := by decide +kernel
theorem dX0_gainTogether_50 : decode cX0_gainTogether 50 = .ok (.isub, 1) := by decide +kernel
theorem dX0_gainTogether_51 : decode cX0_gainTogether 51 = .ok (.ireturn, 1) := by decide +kernel
theorem dX1_init_0 : decode cX1_init 0 = .ok (.aload_n 0, 1) := by decide +kernel
theorem dX1_init_1 : decode cX1_init 1 = .ok (.invokespecial 3, 3) := by decide +kernel
theorem dX1_init_4 : decode cX1_init 4 = .ok (.aload_n 0, 1) := by decide +kernel
theorem dX1_init_5 : decode cX1_init 5 = .ok (.sipush 128, 3) := by decide +kernel
theorem dX1_init_8 : decode cX1_init 8 = .ok (.newarray .int, 2) := by decide +kernel
theorem dX1_init_10 : decode cX1_init 10 = .ok (.putfield 9, 3) := by decide +kernel
theorem dX1_init_13 : decode cX1_init 13 = .ok (.aload_n 0, 1) := by decide +kernel
theorem dX1_init_14 : decode cX1_init 14 = .ok (.aload_n 1, 1) := by decide +kernel
theorem dX1_init_15 : decode cX1_init 15 = .ok (.putfield 15, 3) := by decide +kernel
theorem dX1_init_18 : decode cX1_init 18 = .ok (.return_, 1) := by decide +kernel
theorem dX1_ownersBehind_0 : decode cX1_ownersBehind 0 = .ok (.aload_n 0, 1) := by decide +kernel
theorem dX1_ownersBehind_1 : decode cX1_ownersBehind 1 = .ok (.getfield 15, 3) := by decide +kernel
theorem dX1_ownersBehind_4 : decode cX1_ownersBehind 4 = .ok (.getfield 19, 3) := by decide +kernel
theorem dX1_ownersBehind_7 : decode cX1_ownersBehind 7 = .ok (.getfield 25, 3) := by decide +kernel
theorem dX1_ownersBehind_10 : decode cX1_ownersBehind 10 = .ok (.istore 4, 2) := by decide +kernel
theorem dX1_ownersBehind_12 : decode cX1_ownersBehind 12 = .ok (.iload_n 1, 1) := by decide +kernel
theorem dX1_ownersBehind_13 : decode cX1_ownersBehind 13 = .ok (.istore 5, 2) := by decide +kernel
theorem dX1_ownersBehind_15 : decode cX1_ownersBehind 15 = .ok (.iconst 0, 1) := by decide +kernel
theorem dX1_ownersBehind_16 : decode cX1_ownersBehind 16 = .ok (.istore 6, 2) := by decide +kernel
theorem dX1_ownersBehind_18 : decode cX1_ownersBehind 18 = .ok (.iload 6, 2) := by decide +kernel
theorem dX1_ownersBehind_20 : decode cX1_ownersBehind 20 = .ok (.iload_n 2, 1) := by decide +kernel
theorem dX1_ownersBehind_21 : decode cX1_ownersBehind 21 = .ok (.if_icmp .ge 23, 3) := by decide +kernel
theorem dX1_ownersBehind_24 : decode cX1_ownersBehind 24 = .ok (.aload_n 0, 1) := by decide +kernel
theorem dX1_ownersBehind_25 : decode cX1_ownersBehind 25 = .ok (.getfield 15, 3) := by decide +kernel
theorem dX1_ownersBehind_28 : decode cX1_ownersBehind 28 = .ok (.iload 5, 2) := by decide +kernel
theorem dX1_ownersBehind_30 : decode cX1_ownersBehind 30 = .ok (.iload_n 3, 1) := by decide +kernel
theorem dX1_ownersBehind_31 : decode cX1_ownersBehind 31 = .ok (.iload 4, 2) := by decide +kernel
theorem dX1_ownersBehind_33 : decode cX1_ownersBehind 33 = .ok (.invokevirtual 31, 3) := by decide +kernel
theorem dX1_ownersBehind_36 : decode cX1_ownersBehind 36 = .ok (.istore 5, 2) := by decide +kernel
theorem dX1_ownersBehind_38 : decode cX1_ownersBehind 38 = .ok (.iinc 6 1, 3) := by decide +kernel
theorem dX1_ownersBehind_41 : decode cX1_ownersBehind 41 = .ok (.goto (-23), 3) := by decide +kernel
theorem dX1_ownersBehind_44 : decode cX1_ownersBehind 44 = .ok (.iload 5, 2) := by decide +kernel
theorem dX1_ownersBehind_46 : decode cX1_ownersBehind 46 = .ok (.ireturn, 1) := by decide +kernel
theorem dX1_roundsToRest_0 : decode cX1_roundsToRest 0 = .ok (.aload_n 0, 1) := by decide +kernel
theorem dX1_roundsToRest_1 : decode cX1_roundsToRest 1 = .ok (.getfield 15, 3) := by decide +kernel
theorem dX1_roundsToRest_4 : decode cX1_roundsToRest 4 = .ok (.getfield 19, 3) := by decide +kernel
theorem dX1_roundsToRest_7 : decode cX1_roundsToRest 7 = .ok (.getfield 25, 3) := by decide +kernel
theorem dX1_roundsToRest_10 : decode cX1_roundsToRest 10 = .ok (.istore_n 3, 1) := by decide +kernel
theorem dX1_roundsToRest_11 : decode cX1_roundsToRest 11 = .ok (.iload_n 1, 1) := by decide +kernel
theorem dX1_roundsToRest_12 : decode cX1_roundsToRest 12 = .ok (.istore 4, 2) := by decide +kernel
theorem dX1_roundsToRest_14 : decode cX1_roundsToRest 14 = .ok (.iconst 0, 1) := by decide +kernel
theorem dX1_roundsToRest_15 : decode cX1_roundsToRest 15 = .ok (.istore 5, 2) := by decide +kernel
theorem dX1_roundsToRest_17 : decode cX1_roundsToRest 17 = .ok (.iload 5, 2) := by decide +kernel
theorem dX1_roundsToRest_19 : decode cX1_roundsToRest 19 = .ok (.sipush 128, 3) := by decide +kernel
theorem dX1_roundsToRest_22 : decode cX1_roundsToRest 22 = .ok (.if_icmp .ge 36, 3) := by decide +kernel
theorem dX1_roundsToRest_25 : decode cX1_roundsToRest 25 = .ok (.aload_n 0, 1) := by decide +kernel
theorem dX1_roundsToRest_26 : decode cX1_roundsToRest 26 = .ok (.getfield 15, 3) := by decide +kernel
theorem dX1_roundsToRest_29 : decode cX1_roundsToRest 29 = .ok (.iload 4, 2) := by decide +kernel
theorem dX1_roundsToRest_31 : decode cX1_roundsToRest 31 = .ok (.iload_n 2, 1) := by decide +kernel
theorem dX1_roundsToRest_32 : decode cX1_roundsToRest 32 = .ok (.iload_n 3, 1) := by decide +kernel
theorem dX1_roundsToRest_33 : decode cX1_roundsToRest 33 = .ok (.invokevirtual 31, 3) := by decide +kernel
theorem dX1_roundsToRest_36 : decode cX1_roundsToRest 36 = .ok (.istore 6, 2) := by decide +kernel
theorem dX1_roundsToRest_38 : decode cX1_roundsToRest 38 = .ok (.iload 6, 2) := by decide +kernel
theorem dX1_roundsToRest_40 : decode cX1_roundsToRest 40 = .ok (.iload 4, 2) := by decide +kernel
theorem dX1_roundsToRest_42 : decode cX1_roundsToRest 42 = .ok (.if_icmp .ne 6, 3) := by decide +kernel
theorem dX1_roundsToRest_45 : decode cX1_roundsToRest 45 = .ok (.iload 5, 2) := by decide +kernel
theorem dX1_roundsToRest_47 : decode cX1_roundsToRest 47 = .ok (.ireturn, 1) := by decide +kernel
theorem dX1_roundsToRest_48 : decode cX1_roundsToRest 48 = .ok (.iload 6, 2) := by decide +kernel
theorem dX1_roundsToRest_50 : decode cX1_roundsToRest 50 = .ok (.istore 4, 2) := by decide +kernel
theorem dX1_roundsToRest_52 : decode cX1_roundsToRest 52 = .ok (.iinc 5 1, 3) := by decide +kernel
theorem dX1_roundsToRest_55 : decode cX1_roundsToRest 55 = .ok (.goto (-38), 3) := by decide +kernel
theorem dX1_roundsToRest_58 : decode cX1_roundsToRest 58 = .ok (.bipush (-4), 2) := by decide +kernel
theorem dX1_roundsToRest_60 : decode cX1_roundsToRest 60 = .ok (.ireturn, 1) := by decide +kernel
theorem dX1_roundsOfSwing_0 : decode cX1_roundsOfSwing 0 = .ok (.aload_n 0, 1) := by decide +kernel
theorem dX1_roundsOfSwing_1 : decode cX1_roundsOfSwing 1 = .ok (.getfield 15, 3) := by decide +kernel
theorem dX1_roundsOfSwing_4 : decode cX1_roundsOfSwing 4 = .ok (.getfield 19, 3) := by decide +kernel
theorem dX1_roundsOfSwing_7 : decode cX1_roundsOfSwing 7 = .ok (.getfield 25, 3) := by decide +kernel
theorem dX1_roundsOfSwing_10 : decode cX1_roundsOfSwing 10 = .ok (.istore_n 3, 1) := by decide +kernel
theorem dX1_roundsOfSwing_11 : decode cX1_roundsOfSwing 11 = .ok (.aload_n 0, 1) := by decide +kernel
theorem dX1_roundsOfSwing_12 : decode cX1_roundsOfSwing 12 = .ok (.iload_n 1, 1) := by decide +kernel
theorem dX1_roundsOfSwing_13 : decode cX1_roundsOfSwing 13 = .ok (.sipush 128, 3) := by decide +kernel
theorem dX1_roundsOfSwing_16 : decode cX1_roundsOfSwing 16 = .ok (.iload_n 2, 1) := by decide +kernel
theorem dX1_roundsOfSwing_17 : decode cX1_roundsOfSwing 17 = .ok (.invokevirtual 35, 3) := by decide +kernel
theorem dX1_roundsOfSwing_20 : decode cX1_roundsOfSwing 20 = .ok (.istore 4, 2) := by decide +kernel
theorem dX1_roundsOfSwing_22 : decode cX1_roundsOfSwing 22 = .ok (.aload_n 0, 1) := by decide +kernel
theorem dX1_roundsOfSwing_23 : decode cX1_roundsOfSwing 23 = .ok (.getfield 15, 3) := by decide +kernel
theorem dX1_roundsOfSwing_26 : decode cX1_roundsOfSwing 26 = .ok (.iload 4, 2) := by decide +kernel
theorem dX1_roundsOfSwing_28 : decode cX1_roundsOfSwing 28 = .ok (.iload_n 2, 1) := by decide +kernel
theorem dX1_roundsOfSwing_29 : decode cX1_roundsOfSwing 29 = .ok (.iload_n 3, 1) := by decide +kernel
theorem dX1_roundsOfSwing_30 : decode cX1_roundsOfSwing 30 = .ok (.invokevirtual 31, 3) := by decide +kernel
theorem dX1_roundsOfSwing_33 : decode cX1_roundsOfSwing 33 = .ok (.istore 5, 2) := by decide +kernel
theorem dX1_roundsOfSwing_35 : decode cX1_roundsOfSwing 35 = .ok (.iconst 1, 1) := by decide +kernel
theorem dX1_roundsOfSwing_36 : decode cX1_roundsOfSwing 36 = .ok (.istore 6, 2) := by decide +kernel
theorem dX1_roundsOfSwing_38 : decode cX1_roundsOfSwing 38 = .ok (.iload 5, 2) := by decide +kernel
theorem dX1_roundsOfSwing_40 : decode cX1_roundsOfSwing 40 = .ok (.iload 4, 2) := by decide +kernel
theorem dX1_roundsOfSwing_42 : decode cX1_roundsOfSwing 42 = .ok (.if_icmp .eq 30, 3) := by decide +kernel
theorem dX1_roundsOfSwing_45 : decode cX1_roundsOfSwing 45 = .ok (.iload 6, 2) := by decide +kernel
theorem dX1_roundsOfSwing_47 : decode cX1_roundsOfSwing 47 = .ok (.sipush 128, 3) := by decide +kernel
theorem dX1_roundsOfSwing_50 : decode cX1_roundsOfSwing 50 = .ok (.if_icmp .ge 22, 3) := by decide +kernel
theorem dX1_roundsOfSwing_53 : decode cX1_roundsOfSwing 53 = .ok (.aload_n 0, 1) := by decide +kernel
theorem dX1_roundsOfSwing_54 : decode cX1_roundsOfSwing 54 = .ok (.getfield 15, 3) := by decide +kernel
theorem dX1_roundsOfSwing_57 : decode cX1_roundsOfSwing 57 = .ok (.iload 5, 2) := by decide +kernel
theorem dX1_roundsOfSwing_59 : decode cX1_roundsOfSwing 59 = .ok (.iload_n 2, 1) := by decide +kernel
theorem dX1_roundsOfSwing_60 : decode cX1_roundsOfSwing 60 = .ok (.iload_n 3, 1) := by decide +kernel
theorem dX1_roundsOfSwing_61 : decode cX1_roundsOfSwing 61 = .ok (.invokevirtual 31, 3) := by decide +kernel
theorem dX1_roundsOfSwing_64 : decode cX1_roundsOfSwing 64 = .ok (.istore 5, 2) := by decide +kernel
theorem dX1_roundsOfSwing_66 : decode cX1_roundsOfSwing 66 = .ok (.iinc 6 1, 3) := by decide +kernel
theorem dX1_roundsOfSwing_69 : decode cX1_roundsOfSwing 69 = .ok (.goto (-31), 3) := by decide +kernel
theorem dX1_roundsOfSwing_72 : decode cX1_roundsOfSwing 72 = .ok (.iload 6, 2) := by decide +kernel
theorem dX1_roundsOfSwing_74 : decode cX1_roundsOfSwing 74 = .ok (.ireturn, 1) := by decide +kernel
theorem dX1_restsWith_0 : decode cX1_restsWith 0 = .ok (.aload_n 0, 1) := by decide +kernel
theorem dX1_restsWith_1 : decode cX1_restsWith 1 = .ok (.getfield 15, 3) := by decide +kernel
theorem dX1_restsWith_4 : decode cX1_restsWith 4 = .ok (.iload_n 1, 1) := by decide +kernel
theorem dX1_restsWith_5 : decode cX1_restsWith 5 = .ok (.aload_n 0, 1) := by decide +kernel
theorem dX1_restsWith_6 : decode cX1_restsWith 6 = .ok (.getfield 15, 3) := by decide +kernel
theorem dX1_restsWith_9 : decode cX1_restsWith 9 = .ok (.getfield 19, 3) := by decide +kernel
theorem dX1_restsWith_12 : decode cX1_restsWith 12 = .ok (.getfield 25, 3) := by decide +kernel
theorem dX1_restsWith_15 : decode cX1_restsWith 15 = .ok (.invokevirtual 39, 3) := by decide +kernel
theorem dX1_restsWith_18 : decode cX1_restsWith 18 = .ok (.ifCond .ne 7, 3) := by decide +kernel
theorem dX1_restsWith_21 : decode cX1_restsWith 21 = .ok (.iconst 1, 1) := by decide +kernel
theorem dX1_restsWith_22 : decode cX1_restsWith 22 = .ok (.goto 4, 3) := by decide +kernel
theorem dX1_restsWith_25 : decode cX1_restsWith 25 = .ok (.iconst 0, 1) := by decide +kernel
theorem dX1_restsWith_26 : decode cX1_restsWith 26 = .ok (.ireturn, 1) := by decide +kernel
theorem dX1_countRests_0 : decode cX1_countRests 0 = .ok (.iconst 0, 1) := by decide +kernel
theorem dX1_countRests_1 : decode cX1_countRests 1 = .ok (.istore_n 1, 1) := by decide +kernel
theorem dX1_countRests_2 : decode cX1_countRests 2 = .ok (.iconst 0, 1) := by decide +kernel
theorem dX1_countRests_3 : decode cX1_countRests 3 = .ok (.istore_n 2, 1) := by decide +kernel
theorem dX1_countRests_4 : decode cX1_countRests 4 = .ok (.iload_n 2, 1) := by decide +kernel
theorem dX1_countRests_5 : decode cX1_countRests 5 = .ok (.aload_n 0, 1) := by decide +kernel
theorem dX1_countRests_6 : decode cX1_countRests 6 = .ok (.getfield 15, 3) := by decide +kernel
theorem dX1_countRests_9 : decode cX1_countRests 9 = .ok (.getfield 19, 3) := by decide +kernel
theorem dX1_countRests_12 : decode cX1_countRests 12 = .ok (.invokevirtual 43, 3) := by decide +kernel
theorem dX1_countRests_15 : decode cX1_countRests 15 = .ok (.if_icmp .ge 20, 3) := by decide +kernel
theorem dX1_countRests_18 : decode cX1_countRests 18 = .ok (.aload_n 0, 1) := by decide +kernel
theorem dX1_countRests_19 : decode cX1_countRests 19 = .ok (.iload_n 2, 1) := by decide +kernel
theorem dX1_countRests_20 : decode cX1_countRests 20 = .ok (.invokevirtual 47, 3) := by decide +kernel
theorem dX1_countRests_23 : decode cX1_countRests 23 = .ok (.ifCond .eq 6, 3) := by decide +kernel
theorem dX1_countRests_26 : decode cX1_countRests 26 = .ok (.iinc 1 1, 3) := by decide +kernel
theorem dX1_countRests_29 : decode cX1_countRests 29 = .ok (.iinc 2 1, 3) := by decide +kernel
theorem dX1_countRests_32 : decode cX1_countRests 32 = .ok (.goto (-28), 3) := by decide +kernel
theorem dX1_countRests_35 : decode cX1_countRests 35 = .ok (.iload_n 1, 1) := by decide +kernel
theorem dX1_countRests_36 : decode cX1_countRests 36 = .ok (.ireturn, 1) := by decide +kernel
theorem dX1_restAt_0 : decode cX1_restAt 0 = .ok (.iconst 0, 1) := by decide +kernel
theorem dX1_restAt_1 : decode cX1_restAt 1 = .ok (.istore_n 2, 1) := by decide +kernel
theorem dX1_restAt_2 : decode cX1_restAt 2 = .ok (.iconst 0, 1) := by decide +kernel
theorem dX1_restAt_3 : decode cX1_restAt 3 = .ok (.istore_n 3, 1) := by decide +kernel
theorem dX1_restAt_4 : decode cX1_restAt 4 = .ok (.iload_n 3, 1) := by decide +kernel
theorem dX1_restAt_5 : decode cX1_restAt 5 = .ok (.aload_n 0, 1) := by decide +kernel
theorem dX1_restAt_6 : decode cX1_restAt 6 = .ok (.getfield 15, 3) := by decide +kernel
theorem dX1_restAt_9 : decode cX1_restAt 9 = .ok (.getfield 19, 3) := by decide +kernel
theorem dX1_restAt_12 : decode cX1_restAt 12 = .ok (.invokevirtual 43, 3) := by decide +kernel
theorem dX1_restAt_15 : decode cX1_restAt 15 = .ok (.if_icmp .ge 27, 3) := by decide +kernel
theorem dX1_restAt_18 : decode cX1_restAt 18 = .ok (.aload_n 0, 1) := by decide +kernel
theorem dX1_restAt_19 : decode cX1_restAt 19 = .ok (.iload_n 3, 1) := by decide +kernel
theorem dX1_restAt_20 : decode cX1_restAt 20 = .ok (.invokevirtual 47, 3) := by decide +kernel
theorem dX1_restAt_23 : decode cX1_restAt 23 = .ok (.ifCond .eq 13, 3) := by decide +kernel
theorem dX1_restAt_26 : decode cX1_restAt 26 = .ok (.iload_n 2, 1) := by decide +kernel
theorem dX1_restAt_27 : decode cX1_restAt 27 = .ok (.iload_n 1, 1) := by decide +kernel
theorem dX1_restAt_28 : decode cX1_restAt 28 = .ok (.if_icmp .ne 5, 3) := by decide +kernel
theorem dX1_restAt_31 : decode cX1_restAt 31 = .ok (.iload_n 3, 1) := by decide +kernel
theorem dX1_restAt_32 : decode cX1_restAt 32 = .ok (.ireturn, 1) := by decide +kernel
theorem dX1_restAt_33 : decode cX1_restAt 33 = .ok (.iinc 2 1, 3) := by decide +kernel
theorem dX1_restAt_36 : decode cX1_restAt 36 = .ok (.iinc 3 1, 3) := by decide +kernel
theorem dX1_restAt_39 : decode cX1_restAt 39 = .ok (.goto (-35), 3) := by decide +kernel
theorem dX1_restAt_42 : decode cX1_restAt 42 = .ok (.bipush (-4), 2) := by decide +kernel
theorem dX1_restAt_44 : decode cX1_restAt 44 = .ok (.ireturn, 1) := by decide +kernel
theorem dX1_leastPush_0 : decode cX1_leastPush 0 = .ok (.aload_n 0, 1) := by decide +kernel
theorem dX1_leastPush_1 : decode cX1_leastPush 1 = .ok (.iload_n 2, 1) := by decide +kernel
theorem dX1_leastPush_2 : decode cX1_leastPush 2 = .ok (.invokevirtual 47, 3) := by decide +kernel
theorem dX1_leastPush_5 : decode cX1_leastPush 5 = .ok (.ifCond .ne 6, 3) := by decide +kernel
theorem dX1_leastPush_8 : decode cX1_leastPush 8 = .ok (.bipush (-4), 2) := by decide +kernel
theorem dX1_leastPush_10 : decode cX1_leastPush 10 = .ok (.ireturn, 1) := by decide +kernel
theorem dX1_leastPush_11 : decode cX1_leastPush 11 = .ok (.aload_n 0, 1) := by decide +kernel
theorem dX1_leastPush_12 : decode cX1_leastPush 12 = .ok (.iload_n 3, 1) := by decide +kernel
theorem dX1_leastPush_13 : decode cX1_leastPush 13 = .ok (.invokevirtual 51, 3) := by decide +kernel
theorem dX1_leastPush_16 : decode cX1_leastPush 16 = .ok (.bipush (-4), 2) := by decide +kernel
theorem dX1_leastPush_18 : decode cX1_leastPush 18 = .ok (.istore 4, 2) := by decide +kernel
theorem dX1_leastPush_20 : decode cX1_leastPush 20 = .ok (.bipush 8, 2) := by decide +kernel
theorem dX1_leastPush_22 : decode cX1_leastPush 22 = .ok (.istore 5, 2) := by decide +kernel
theorem dX1_leastPush_24 : decode cX1_leastPush 24 = .ok (.iconst 0, 1) := by decide +kernel
theorem dX1_leastPush_25 : decode cX1_leastPush 25 = .ok (.istore 6, 2) := by decide +kernel
theorem dX1_leastPush_27 : decode cX1_leastPush 27 = .ok (.iload 6, 2) := by decide +kernel
theorem dX1_leastPush_29 : decode cX1_leastPush 29 = .ok (.aload_n 0, 1) := by decide +kernel
theorem dX1_leastPush_30 : decode cX1_leastPush 30 = .ok (.getfield 15, 3) := by decide +kernel
theorem dX1_leastPush_33 : decode cX1_leastPush 33 = .ok (.getfield 19, 3) := by decide +kernel
theorem dX1_leastPush_36 : decode cX1_leastPush 36 = .ok (.invokevirtual 43, 3) := by decide +kernel
theorem dX1_leastPush_39 : decode cX1_leastPush 39 = .ok (.if_icmp .ge 46, 3) := by decide +kernel
theorem dX1_leastPush_42 : decode cX1_leastPush 42 = .ok (.iload 6, 2) := by decide +kernel
theorem dX1_leastPush_44 : decode cX1_leastPush 44 = .ok (.invokestatic 55, 3) := by decide +kernel
theorem dX1_leastPush_47 : decode cX1_leastPush 47 = .ok (.istore 7, 2) := by decide +kernel
theorem dX1_leastPush_49 : decode cX1_leastPush 49 = .ok (.iload 7, 2) := by decide +kernel
theorem dX1_leastPush_51 : decode cX1_leastPush 51 = .ok (.iload 5, 2) := by decide +kernel
theorem dX1_leastPush_53 : decode cX1_leastPush 53 = .ok (.if_icmp .ge 26, 3) := by decide +kernel
theorem dX1_leastPush_56 : decode cX1_leastPush 56 = .ok (.aload_n 0, 1) := by decide +kernel
theorem dX1_leastPush_57 : decode cX1_leastPush 57 = .ok (.getfield 9, 3) := by decide +kernel
theorem dX1_leastPush_60 : decode cX1_leastPush 60 = .ok (.iload_n 1, 1) := by decide +kernel
theorem dX1_leastPush_61 : decode cX1_leastPush 61 = .ok (.iload 6, 2) := by decide +kernel
theorem dX1_leastPush_63 : decode cX1_leastPush 63 = .ok (.ixor, 1) := by decide +kernel
theorem dX1_leastPush_64 : decode cX1_leastPush 64 = .ok (.invokestatic 61, 3) := by decide +kernel
theorem dX1_leastPush_67 : decode cX1_leastPush 67 = .ok (.iload_n 2, 1) := by decide +kernel
theorem dX1_leastPush_68 : decode cX1_leastPush 68 = .ok (.if_icmp .ne 11, 3) := by decide +kernel
theorem dX1_leastPush_71 : decode cX1_leastPush 71 = .ok (.iload 6, 2) := by decide +kernel
theorem dX1_leastPush_73 : decode cX1_leastPush 73 = .ok (.istore 4, 2) := by decide +kernel
theorem dX1_leastPush_75 : decode cX1_leastPush 75 = .ok (.iload 7, 2) := by decide +kernel
theorem dX1_leastPush_77 : decode cX1_leastPush 77 = .ok (.istore 5, 2) := by decide +kernel
theorem dX1_leastPush_79 : decode cX1_leastPush 79 = .ok (.iinc 6 1, 3) := by decide +kernel
theorem dX1_leastPush_82 : decode cX1_leastPush 82 = .ok (.goto (-55), 3) := by decide +kernel
theorem dX1_leastPush_85 : decode cX1_leastPush 85 = .ok (.iload 4, 2) := by decide +kernel
theorem dX1_leastPush_87 : decode cX1_leastPush 87 = .ok (.ireturn, 1) := by decide +kernel
theorem dX1_lookFarAhead_0 : decode cX1_lookFarAhead 0 = .ok (.aload_n 0, 1) := by decide +kernel
theorem dX1_lookFarAhead_1 : decode cX1_lookFarAhead 1 = .ok (.getfield 15, 3) := by decide +kernel
theorem dX1_lookFarAhead_4 : decode cX1_lookFarAhead 4 = .ok (.getfield 19, 3) := by decide +kernel
theorem dX1_lookFarAhead_7 : decode cX1_lookFarAhead 7 = .ok (.getfield 25, 3) := by decide +kernel
theorem dX1_lookFarAhead_10 : decode cX1_lookFarAhead 10 = .ok (.istore_n 2, 1) := by decide +kernel
theorem dX1_lookFarAhead_11 : decode cX1_lookFarAhead 11 = .ok (.iconst 0, 1) := by decide +kernel
theorem dX1_lookFarAhead_12 : decode cX1_lookFarAhead 12 = .ok (.istore_n 3, 1) := by decide +kernel
theorem dX1_lookFarAhead_13 : decode cX1_lookFarAhead 13 = .ok (.iload_n 3, 1) := by decide +kernel
theorem dX1_lookFarAhead_14 : decode cX1_lookFarAhead 14 = .ok (.aload_n 0, 1) := by decide +kernel
theorem dX1_lookFarAhead_15 : decode cX1_lookFarAhead 15 = .ok (.getfield 15, 3) := by decide +kernel
theorem dX1_lookFarAhead_18 : decode cX1_lookFarAhead 18 = .ok (.getfield 19, 3) := by decide +kernel
theorem dX1_lookFarAhead_21 : decode cX1_lookFarAhead 21 = .ok (.invokevirtual 43, 3) := by decide +kernel
theorem dX1_lookFarAhead_24 : decode cX1_lookFarAhead 24 = .ok (.if_icmp .ge 27, 3) := by decide +kernel
theorem dX1_lookFarAhead_27 : decode cX1_lookFarAhead 27 = .ok (.aload_n 0, 1) := by decide +kernel
theorem dX1_lookFarAhead_28 : decode cX1_lookFarAhead 28 = .ok (.getfield 9, 3) := by decide +kernel
theorem dX1_lookFarAhead_31 : decode cX1_lookFarAhead 31 = .ok (.iload_n 3, 1) := by decide +kernel
theorem dX1_lookFarAhead_32 : decode cX1_lookFarAhead 32 = .ok (.aload_n 0, 1) := by decide +kernel
theorem dX1_lookFarAhead_33 : decode cX1_lookFarAhead 33 = .ok (.getfield 15, 3) := by decide +kernel
theorem dX1_lookFarAhead_36 : decode cX1_lookFarAhead 36 = .ok (.iload_n 3, 1) := by decide +kernel
theorem dX1_lookFarAhead_37 : decode cX1_lookFarAhead 37 = .ok (.iload_n 1, 1) := by decide +kernel
theorem dX1_lookFarAhead_38 : decode cX1_lookFarAhead 38 = .ok (.iload_n 2, 1) := by decide +kernel
theorem dX1_lookFarAhead_39 : decode cX1_lookFarAhead 39 = .ok (.invokevirtual 31, 3) := by decide +kernel
theorem dX1_lookFarAhead_42 : decode cX1_lookFarAhead 42 = .ok (.invokestatic 65, 3) := by decide +kernel
theorem dX1_lookFarAhead_45 : decode cX1_lookFarAhead 45 = .ok (.iinc 3 1, 3) := by decide +kernel
theorem dX1_lookFarAhead_48 : decode cX1_lookFarAhead 48 = .ok (.goto (-35), 3) := by decide +kernel
theorem dX1_lookFarAhead_51 : decode cX1_lookFarAhead 51 = .ok (.iconst 0, 1) := by decide +kernel
theorem dX1_lookFarAhead_52 : decode cX1_lookFarAhead 52 = .ok (.istore_n 3, 1) := by decide +kernel
theorem dX1_lookFarAhead_53 : decode cX1_lookFarAhead 53 = .ok (.iload_n 3, 1) := by decide +kernel
theorem dX1_lookFarAhead_54 : decode cX1_lookFarAhead 54 = .ok (.bipush 7, 2) := by decide +kernel
theorem dX1_lookFarAhead_56 : decode cX1_lookFarAhead 56 = .ok (.if_icmp .ge 58, 3) := by decide +kernel
theorem dX1_lookFarAhead_59 : decode cX1_lookFarAhead 59 = .ok (.iconst 0, 1) := by decide +kernel
theorem dX1_lookFarAhead_60 : decode cX1_lookFarAhead 60 = .ok (.istore 4, 2) := by decide +kernel
theorem dX1_lookFarAhead_62 : decode cX1_lookFarAhead 62 = .ok (.iload 4, 2) := by decide +kernel
theorem dX1_lookFarAhead_64 : decode cX1_lookFarAhead 64 = .ok (.aload_n 0, 1) := by decide +kernel
theorem dX1_lookFarAhead_65 : decode cX1_lookFarAhead 65 = .ok (.getfield 15, 3) := by decide +kernel
theorem dX1_lookFarAhead_68 : decode cX1_lookFarAhead 68 = .ok (.getfield 19, 3) := by decide +kernel
theorem dX1_lookFarAhead_71 : decode cX1_lookFarAhead 71 = .ok (.invokevirtual 43, 3) := by decide +kernel
theorem dX1_lookFarAhead_74 : decode cX1_lookFarAhead 74 = .ok (.if_icmp .ge 34, 3) := by decide +kernel
theorem dX1_lookFarAhead_77 : decode cX1_lookFarAhead 77 = .ok (.aload_n 0, 1) := by decide +kernel
theorem dX1_lookFarAhead_78 : decode cX1_lookFarAhead 78 = .ok (.getfield 9, 3) := by decide +kernel
theorem dX1_lookFarAhead_81 : decode cX1_lookFarAhead 81 = .ok (.iload 4, 2) := by decide +kernel
theorem dX1_lookFarAhead_83 : decode cX1_lookFarAhead 83 = .ok (.aload_n 0, 1) := by decide +kernel
theorem dX1_lookFarAhead_84 : decode cX1_lookFarAhead 84 = .ok (.getfield 9, 3) := by decide +kernel
theorem dX1_lookFarAhead_87 : decode cX1_lookFarAhead 87 = .ok (.aload_n 0, 1) := by decide +kernel
theorem dX1_lookFarAhead_88 : decode cX1_lookFarAhead 88 = .ok (.getfield 9, 3) := by decide +kernel
theorem dX1_lookFarAhead_91 : decode cX1_lookFarAhead 91 = .ok (.iload 4, 2) := by decide +kernel
theorem dX1_lookFarAhead_93 : decode cX1_lookFarAhead 93 = .ok (.invokestatic 61, 3) := by decide +kernel
theorem dX1_lookFarAhead_96 : decode cX1_lookFarAhead 96 = .ok (.invokestatic 61, 3) := by decide +kernel
theorem dX1_lookFarAhead_99 : decode cX1_lookFarAhead 99 = .ok (.invokestatic 65, 3) := by decide +kernel
theorem dX1_lookFarAhead_102 : decode cX1_lookFarAhead 102 = .ok (.iinc 4 1, 3) := by decide +kernel
theorem dX1_lookFarAhead_105 : decode cX1_lookFarAhead 105 = .ok (.goto (-43), 3) := by decide +kernel
theorem dX1_lookFarAhead_108 : decode cX1_lookFarAhead 108 = .ok (.iinc 3 1, 3) := by decide +kernel
theorem dX1_lookFarAhead_111 : decode cX1_lookFarAhead 111 = .ok (.goto (-58), 3) := by decide +kernel
theorem dX1_lookFarAhead_114 : decode cX1_lookFarAhead 114 = .ok (.return_, 1) := by decide +kernel
theorem dX1_ownersBehindYear_0 : decode cX1_ownersBehindYear 0 = .ok (.iload_n 1, 1) := by decide +kernel
theorem dX1_ownersBehindYear_1 : decode cX1_ownersBehindYear 1 = .ok (.istore 4, 2) := by decide +kernel
theorem dX1_ownersBehindYear_3 : decode cX1_ownersBehindYear 3 = .ok (.iconst 0, 1) := by decide +kernel
theorem dX1_ownersBehindYear_4 : decode cX1_ownersBehindYear 4 = .ok (.istore 5, 2) := by decide +kernel
theorem dX1_ownersBehindYear_6 : decode cX1_ownersBehindYear 6 = .ok (.iload 5, 2) := by decide +kernel
theorem dX1_ownersBehindYear_8 : decode cX1_ownersBehindYear 8 = .ok (.iload_n 3, 1) := by decide +kernel
theorem dX1_ownersBehindYear_9 : decode cX1_ownersBehindYear 9 = .ok (.if_icmp .ge 27, 3) := by decide +kernel
theorem dX1_ownersBehindYear_12 : decode cX1_ownersBehindYear 12 = .ok (.aload_n 0, 1) := by decide +kernel
theorem dX1_ownersBehindYear_13 : decode cX1_ownersBehindYear 13 = .ok (.getfield 15, 3) := by decide +kernel
theorem dX1_ownersBehindYear_16 : decode cX1_ownersBehindYear 16 = .ok (.iload 4, 2) := by decide +kernel
theorem dX1_ownersBehindYear_18 : decode cX1_ownersBehindYear 18 = .ok (.iconst 1, 1) := by decide +kernel
theorem dX1_ownersBehindYear_19 : decode cX1_ownersBehindYear 19 = .ok (.iload_n 2, 1) := by decide +kernel
theorem dX1_ownersBehindYear_20 : decode cX1_ownersBehindYear 20 = .ok (.iload 5, 2) := by decide +kernel
theorem dX1_ownersBehindYear_22 : decode cX1_ownersBehindYear 22 = .ok (.invokestatic 69, 3) := by decide +kernel
theorem dX1_ownersBehindYear_25 : decode cX1_ownersBehindYear 25 = .ok (.invokevirtual 31, 3) := by decide +kernel
theorem dX1_ownersBehindYear_28 : decode cX1_ownersBehindYear 28 = .ok (.istore 4, 2) := by decide +kernel
theorem dX1_ownersBehindYear_30 : decode cX1_ownersBehindYear 30 = .ok (.iinc 5 1, 3) := by decide +kernel
theorem dX1_ownersBehindYear_33 : decode cX1_ownersBehindYear 33 = .ok (.goto (-27), 3) := by decide +kernel
theorem dX1_ownersBehindYear_36 : decode cX1_ownersBehindYear 36 = .ok (.iload 4, 2) := by decide +kernel
theorem dX1_ownersBehindYear_38 : decode cX1_ownersBehindYear 38 = .ok (.invokestatic 55, 3) := by decide +kernel
theorem dX1_ownersBehindYear_41 : decode cX1_ownersBehindYear 41 = .ok (.ireturn, 1) := by decide +kernel
theorem dX1_bestDay_0 : decode cX1_bestDay 0 = .ok (.iload_n 1, 1) := by decide +kernel
theorem dX1_bestDay_1 : decode cX1_bestDay 1 = .ok (.istore 4, 2) := by decide +kernel
theorem dX1_bestDay_3 : decode cX1_bestDay 3 = .ok (.iconst 0, 1) := by decide +kernel
theorem dX1_bestDay_4 : decode cX1_bestDay 4 = .ok (.istore 5, 2) := by decide +kernel
theorem dX1_bestDay_6 : decode cX1_bestDay 6 = .ok (.iconst (-1), 1) := by decide +kernel
theorem dX1_bestDay_7 : decode cX1_bestDay 7 = .ok (.istore 6, 2) := by decide +kernel
theorem dX1_bestDay_9 : decode cX1_bestDay 9 = .ok (.iconst 0, 1) := by decide +kernel
theorem dX1_bestDay_10 : decode cX1_bestDay 10 = .ok (.istore 7, 2) := by decide +kernel
theorem dX1_bestDay_12 : decode cX1_bestDay 12 = .ok (.iload 7, 2) := by decide +kernel
theorem dX1_bestDay_14 : decode cX1_bestDay 14 = .ok (.iload_n 3, 1) := by decide +kernel
theorem dX1_bestDay_15 : decode cX1_bestDay 15 = .ok (.if_icmp .ge 49, 3) := by decide +kernel
theorem dX1_bestDay_18 : decode cX1_bestDay 18 = .ok (.aload_n 0, 1) := by decide +kernel
theorem dX1_bestDay_19 : decode cX1_bestDay 19 = .ok (.getfield 15, 3) := by decide +kernel
theorem dX1_bestDay_22 : decode cX1_bestDay 22 = .ok (.iload 4, 2) := by decide +kernel
theorem dX1_bestDay_24 : decode cX1_bestDay 24 = .ok (.iconst 1, 1) := by decide +kernel
theorem dX1_bestDay_25 : decode cX1_bestDay 25 = .ok (.iload_n 2, 1) := by decide +kernel
theorem dX1_bestDay_26 : decode cX1_bestDay 26 = .ok (.iload 7, 2) := by decide +kernel
theorem dX1_bestDay_28 : decode cX1_bestDay 28 = .ok (.invokestatic 69, 3) := by decide +kernel
theorem dX1_bestDay_31 : decode cX1_bestDay 31 = .ok (.invokevirtual 31, 3) := by decide +kernel
theorem dX1_bestDay_34 : decode cX1_bestDay 34 = .ok (.istore 4, 2) := by decide +kernel
theorem dX1_bestDay_36 : decode cX1_bestDay 36 = .ok (.iload 4, 2) := by decide +kernel
theorem dX1_bestDay_38 : decode cX1_bestDay 38 = .ok (.invokestatic 55, 3) := by decide +kernel
theorem dX1_bestDay_41 : decode cX1_bestDay 41 = .ok (.istore 8, 2) := by decide +kernel
theorem dX1_bestDay_43 : decode cX1_bestDay 43 = .ok (.iload 8, 2) := by decide +kernel
theorem dX1_bestDay_45 : decode cX1_bestDay 45 = .ok (.iload 6, 2) := by decide +kernel
theorem dX1_bestDay_47 : decode cX1_bestDay 47 = .ok (.if_icmp .le 11, 3) := by decide +kernel
theorem dX1_bestDay_50 : decode cX1_bestDay 50 = .ok (.iload 8, 2) := by decide +kernel
theorem dX1_bestDay_52 : decode cX1_bestDay 52 = .ok (.istore 6, 2) := by decide +kernel
theorem dX1_bestDay_54 : decode cX1_bestDay 54 = .ok (.iload 7, 2) := by decide +kernel
theorem dX1_bestDay_56 : decode cX1_bestDay 56 = .ok (.istore 5, 2) := by decide +kernel
theorem dX1_bestDay_58 : decode cX1_bestDay 58 = .ok (.iinc 7 1, 3) := by decide +kernel
theorem dX1_bestDay_61 : decode cX1_bestDay 61 = .ok (.goto (-49), 3) := by decide +kernel
theorem dX1_bestDay_64 : decode cX1_bestDay 64 = .ok (.iload 5, 2) := by decide +kernel
theorem dX1_bestDay_66 : decode cX1_bestDay 66 = .ok (.ireturn, 1) := by decide +kernel
theorem dX1_seasonOn_0 : decode cX1_seasonOn 0 = .ok (.ldc2_w 72, 3) := by decide +kernel
theorem dX1_seasonOn_3 : decode cX1_seasonOn 3 = .ok (.iload_n 0, 1) := by decide +kernel
theorem dX1_seasonOn_4 : decode cX1_seasonOn 4 = .ok (.i2l, 1) := by decide +kernel
theorem dX1_seasonOn_5 : decode cX1_seasonOn 5 = .ok (.lmul, 1) := by decide +kernel
theorem dX1_seasonOn_6 : decode cX1_seasonOn 6 = .ok (.ldc2_w 74, 3) := by decide +kernel
theorem dX1_seasonOn_9 : decode cX1_seasonOn 9 = .ok (.iload_n 1, 1) := by decide +kernel
theorem dX1_seasonOn_10 : decode cX1_seasonOn 10 = .ok (.i2l, 1) := by decide +kernel
theorem dX1_seasonOn_11 : decode cX1_seasonOn 11 = .ok (.lmul, 1) := by decide +kernel
theorem dX1_seasonOn_12 : decode cX1_seasonOn 12 = .ok (.ladd, 1) := by decide +kernel
theorem dX1_seasonOn_13 : decode cX1_seasonOn 13 = .ok (.lconst 1, 1) := by decide +kernel
theorem dX1_seasonOn_14 : decode cX1_seasonOn 14 = .ok (.ladd, 1) := by decide +kernel
theorem dX1_seasonOn_15 : decode cX1_seasonOn 15 = .ok (.lstore_n 2, 1) := by decide +kernel
theorem dX1_seasonOn_16 : decode cX1_seasonOn 16 = .ok (.lload_n 2, 1) := by decide +kernel
theorem dX1_seasonOn_17 : decode cX1_seasonOn 17 = .ok (.lload_n 2, 1) := by decide +kernel
theorem dX1_seasonOn_18 : decode cX1_seasonOn 18 = .ok (.lmul, 1) := by decide +kernel
theorem dX1_seasonOn_19 : decode cX1_seasonOn 19 = .ok (.ldc2_w 76, 3) := by decide +kernel
theorem dX1_seasonOn_22 : decode cX1_seasonOn 22 = .ok (.lrem, 1) := by decide +kernel
theorem dX1_seasonOn_23 : decode cX1_seasonOn 23 = .ok (.ldc2_w 78, 3) := by decide +kernel
theorem dX1_seasonOn_26 : decode cX1_seasonOn 26 = .ok (.lrem, 1) := by decide +kernel
theorem dX1_seasonOn_27 : decode cX1_seasonOn 27 = .ok (.l2i, 1) := by decide +kernel
theorem dX1_seasonOn_28 : decode cX1_seasonOn 28 = .ok (.ireturn, 1) := by decide +kernel
theorem dX2_init_0 : decode cX2_init 0 = .ok (.aload_n 0, 1) := by decide +kernel
theorem dX2_init_1 : decode cX2_init 1 = .ok (.invokespecial 3, 3) := by decide +kernel
theorem dX2_init_4 : decode cX2_init 4 = .ok (.aload_n 0, 1) := by decide +kernel
theorem dX2_init_5 : decode cX2_init 5 = .ok (.bipush 7, 2) := by decide +kernel
theorem dX2_init_7 : decode cX2_init 7 = .ok (.newarray .int, 2) := by decide +kernel
theorem dX2_init_9 : decode cX2_init 9 = .ok (.putfield 9, 3) := by decide +kernel
theorem dX2_init_12 : decode cX2_init 12 = .ok (.aload_n 0, 1) := by decide +kernel
theorem dX2_init_13 : decode cX2_init 13 = .ok (.iconst 0, 1) := by decide +kernel
theorem dX2_init_14 : decode cX2_init 14 = .ok (.putfield 15, 3) := by decide +kernel
theorem dX2_init_17 : decode cX2_init 17 = .ok (.return_, 1) := by decide +kernel
theorem dX2_begin_0 : decode cX2_begin 0 = .ok (.aload_n 0, 1) := by decide +kernel
theorem dX2_begin_1 : decode cX2_begin 1 = .ok (.aload_n 1, 1) := by decide +kernel
theorem dX2_begin_2 : decode cX2_begin 2 = .ok (.getfield 19, 3) := by decide +kernel
theorem dX2_begin_5 : decode cX2_begin 5 = .ok (.putfield 15, 3) := by decide +kernel
theorem dX2_begin_8 : decode cX2_begin 8 = .ok (.iconst 0, 1) := by decide +kernel
theorem dX2_begin_9 : decode cX2_begin 9 = .ok (.istore_n 2, 1) := by decide +kernel
theorem dX2_begin_10 : decode cX2_begin 10 = .ok (.iload_n 2, 1) := by decide +kernel
theorem dX2_begin_11 : decode cX2_begin 11 = .ok (.bipush 7, 2) := by decide +kernel
theorem dX2_begin_13 : decode cX2_begin 13 = .ok (.if_icmp .ge 23, 3) := by decide +kernel
theorem dX2_begin_16 : decode cX2_begin 16 = .ok (.aload_n 0, 1) := by decide +kernel
theorem dX2_begin_17 : decode cX2_begin 17 = .ok (.getfield 9, 3) := by decide +kernel
theorem dX2_begin_20 : decode cX2_begin 20 = .ok (.iload_n 2, 1) := by decide +kernel
theorem dX2_begin_21 : decode cX2_begin 21 = .ok (.aload_n 1, 1) := by decide +kernel
theorem dX2_begin_22 : decode cX2_begin 22 = .ok (.iload_n 2, 1) := by decide +kernel
theorem dX2_begin_23 : decode cX2_begin 23 = .ok (.iconst 4, 1) := by decide +kernel
theorem dX2_begin_24 : decode cX2_begin 24 = .ok (.invokevirtual 24, 3) := by decide +kernel
theorem dX2_begin_27 : decode cX2_begin 27 = .ok (.invokestatic 28, 3) := by decide +kernel
theorem dX2_begin_30 : decode cX2_begin 30 = .ok (.iinc 2 1, 3) := by decide +kernel
theorem dX2_begin_33 : decode cX2_begin 33 = .ok (.goto (-23), 3) := by decide +kernel
theorem dX2_begin_36 : decode cX2_begin 36 = .ok (.return_, 1) := by decide +kernel
theorem dX2_owns_0 : decode cX2_owns 0 = .ok (.aload_n 0, 1) := by decide +kernel
theorem dX2_owns_1 : decode cX2_owns 1 = .ok (.getfield 15, 3) := by decide +kernel
theorem dX2_owns_4 : decode cX2_owns 4 = .ok (.iload_n 1, 1) := by decide +kernel
theorem dX2_owns_5 : decode cX2_owns 5 = .ok (.invokestatic 32, 3) := by decide +kernel
theorem dX2_owns_8 : decode cX2_owns 8 = .ok (.ireturn, 1) := by decide +kernel
theorem dX2_penniesOf_0 : decode cX2_penniesOf 0 = .ok (.aload_n 0, 1) := by decide +kernel
theorem dX2_penniesOf_1 : decode cX2_penniesOf 1 = .ok (.getfield 9, 3) := by decide +kernel
theorem dX2_penniesOf_4 : decode cX2_penniesOf 4 = .ok (.iload_n 1, 1) := by decide +kernel
theorem dX2_penniesOf_5 : decode cX2_penniesOf 5 = .ok (.invokestatic 36, 3) := by decide +kernel
theorem dX2_penniesOf_8 : decode cX2_penniesOf 8 = .ok (.ireturn, 1) := by decide +kernel
theorem dX2_earn_0 : decode cX2_earn 0 = .ok (.aload_n 0, 1) := by decide +kernel
theorem dX2_earn_1 : decode cX2_earn 1 = .ok (.getfield 9, 3) := by decide +kernel
theorem dX2_earn_4 : decode cX2_earn 4 = .ok (.iload_n 1, 1) := by decide +kernel
theorem dX2_earn_5 : decode cX2_earn 5 = .ok (.aload_n 0, 1) := by decide +kernel
theorem dX2_earn_6 : decode cX2_earn 6 = .ok (.getfield 9, 3) := by decide +kernel
theorem dX2_earn_9 : decode cX2_earn 9 = .ok (.iload_n 1, 1) := by decide +kernel
theorem dX2_earn_10 : decode cX2_earn 10 = .ok (.invokestatic 36, 3) := by decide +kernel
theorem dX2_earn_13 : decode cX2_earn 13 = .ok (.iload_n 2, 1) := by decide +kernel
theorem dX2_earn_14 : decode cX2_earn 14 = .ok (.iadd, 1) := by decide +kernel
theorem dX2_earn_15 : decode cX2_earn 15 = .ok (.invokestatic 28, 3) := by decide +kernel
theorem dX2_earn_18 : decode cX2_earn 18 = .ok (.return_, 1) := by decide +kernel
theorem dX3_init_0 : decode cX3_init 0 = .ok (.aload_n 0, 1) := by decide +kernel
theorem dX3_init_1 : decode cX3_init 1 = .ok (.invokespecial 3, 3) := by decide +kernel
theorem dX3_init_4 : decode cX3_init 4 = .ok (.aload_n 0, 1) := by decide +kernel
theorem dX3_init_5 : decode cX3_init 5 = .ok (.new 9, 3) := by decide +kernel
theorem dX3_init_8 : decode cX3_init 8 = .ok (.dup, 1) := by decide +kernel
theorem dX3_init_9 : decode cX3_init 9 = .ok (.invokespecial 11, 3) := by decide +kernel
theorem dX3_init_12 : decode cX3_init 12 = .ok (.putfield 12, 3) := by decide +kernel
theorem dX3_init_15 : decode cX3_init 15 = .ok (.aload_n 0, 1) := by decide +kernel
theorem dX3_init_16 : decode cX3_init 16 = .ok (.sipush 128, 3) := by decide +kernel
theorem dX3_init_19 : decode cX3_init 19 = .ok (.newarray .int, 2) := by decide +kernel
theorem dX3_init_21 : decode cX3_init 21 = .ok (.putfield 18, 3) := by decide +kernel
theorem dX3_init_24 : decode cX3_init 24 = .ok (.return_, 1) := by decide +kernel
theorem dX3_open_0 : decode cX3_open 0 = .ok (.aload_n 0, 1) := by decide +kernel
theorem dX3_open_1 : decode cX3_open 1 = .ok (.getfield 12, 3) := by decide +kernel
theorem dX3_open_4 : decode cX3_open 4 = .ok (.aload_n 1, 1) := by decide +kernel
theorem dX3_open_5 : decode cX3_open 5 = .ok (.invokevirtual 22, 3) := by decide +kernel
theorem dX3_open_8 : decode cX3_open 8 = .ok (.iconst 0, 1) := by decide +kernel
theorem dX3_open_9 : decode cX3_open 9 = .ok (.istore_n 2, 1) := by decide +kernel
theorem dX3_open_10 : decode cX3_open 10 = .ok (.iload_n 2, 1) := by decide +kernel
theorem dX3_open_11 : decode cX3_open 11 = .ok (.aload_n 0, 1) := by decide +kernel
theorem dX3_open_12 : decode cX3_open 12 = .ok (.getfield 12, 3) := by decide +kernel
theorem dX3_open_15 : decode cX3_open 15 = .ok (.getfield 26, 3) := by decide +kernel
theorem dX3_open_18 : decode cX3_open 18 = .ok (.if_icmp .ge 65, 3) := by decide +kernel
theorem dX3_open_21 : decode cX3_open 21 = .ok (.aload_n 0, 1) := by decide +kernel
theorem dX3_open_22 : decode cX3_open 22 = .ok (.getfield 12, 3) := by decide +kernel
theorem dX3_open_25 : decode cX3_open 25 = .ok (.iload_n 2, 1) := by decide +kernel
theorem dX3_open_26 : decode cX3_open 26 = .ok (.iconst 3, 1) := by decide +kernel
theorem dX3_open_27 : decode cX3_open 27 = .ok (.invokevirtual 30, 3) := by decide +kernel
theorem dX3_open_30 : decode cX3_open 30 = .ok (.invokestatic 34, 3) := by decide +kernel
theorem dX3_open_33 : decode cX3_open 33 = .ok (.istore_n 3, 1) := by decide +kernel
theorem dX3_open_34 : decode cX3_open 34 = .ok (.iconst 0, 1) := by decide +kernel
theorem dX3_open_35 : decode cX3_open 35 = .ok (.istore 4, 2) := by decide +kernel
theorem dX3_open_37 : decode cX3_open 37 = .ok (.iload 4, 2) := by decide +kernel
theorem dX3_open_39 : decode cX3_open 39 = .ok (.iload_n 2, 1) := by decide +kernel
theorem dX3_open_40 : decode cX3_open 40 = .ok (.invokestatic 34, 3) := by decide +kernel
theorem dX3_open_43 : decode cX3_open 43 = .ok (.if_icmp .ge 34, 3) := by decide +kernel
theorem dX3_open_46 : decode cX3_open 46 = .ok (.aload_n 0, 1) := by decide +kernel
theorem dX3_open_47 : decode cX3_open 47 = .ok (.getfield 18, 3) := by decide +kernel
theorem dX3_open_50 : decode cX3_open 50 = .ok (.iload 4, 2) := by decide +kernel
theorem dX3_open_52 : decode cX3_open 52 = .ok (.iload_n 2, 1) := by decide +kernel
theorem dX3_open_53 : decode cX3_open 53 = .ok (.invokestatic 34, 3) := by decide +kernel
theorem dX3_open_56 : decode cX3_open 56 = .ok (.ior, 1) := by decide +kernel
theorem dX3_open_57 : decode cX3_open 57 = .ok (.aload_n 0, 1) := by decide +kernel
theorem dX3_open_58 : decode cX3_open 58 = .ok (.getfield 18, 3) := by decide +kernel
theorem dX3_open_61 : decode cX3_open 61 = .ok (.iload 4, 2) := by decide +kernel
theorem dX3_open_63 : decode cX3_open 63 = .ok (.invokestatic 38, 3) := by decide +kernel
theorem dX3_open_66 : decode cX3_open 66 = .ok (.iload_n 3, 1) := by decide +kernel
theorem dX3_open_67 : decode cX3_open 67 = .ok (.ior, 1) := by decide +kernel
theorem dX3_open_68 : decode cX3_open 68 = .ok (.invokestatic 42, 3) := by decide +kernel
theorem dX3_open_71 : decode cX3_open 71 = .ok (.iinc 4 1, 3) := by decide +kernel
theorem dX3_open_74 : decode cX3_open 74 = .ok (.goto (-37), 3) := by decide +kernel
theorem dX3_open_77 : decode cX3_open 77 = .ok (.iinc 2 1, 3) := by decide +kernel
theorem dX3_open_80 : decode cX3_open 80 = .ok (.goto (-70), 3) := by decide +kernel
theorem dX3_open_83 : decode cX3_open 83 = .ok (.return_, 1) := by decide +kernel
theorem dX3_othersOf_0 : decode cX3_othersOf 0 = .ok (.aload_n 0, 1) := by decide +kernel
theorem dX3_othersOf_1 : decode cX3_othersOf 1 = .ok (.getfield 18, 3) := by decide +kernel
theorem dX3_othersOf_4 : decode cX3_othersOf 4 = .ok (.iload_n 2, 1) := by decide +kernel
theorem dX3_othersOf_5 : decode cX3_othersOf 5 = .ok (.invokestatic 38, 3) := by decide +kernel
theorem dX3_othersOf_8 : decode cX3_othersOf 8 = .ok (.aload_n 0, 1) := by decide +kernel
theorem dX3_othersOf_9 : decode cX3_othersOf 9 = .ok (.getfield 12, 3) := by decide +kernel
theorem dX3_othersOf_12 : decode cX3_othersOf 12 = .ok (.iload_n 1, 1) := by decide +kernel
theorem dX3_othersOf_13 : decode cX3_othersOf 13 = .ok (.iconst 3, 1) := by decide +kernel
theorem dX3_othersOf_14 : decode cX3_othersOf 14 = .ok (.invokevirtual 30, 3) := by decide +kernel
theorem dX3_othersOf_17 : decode cX3_othersOf 17 = .ok (.invokestatic 34, 3) := by decide +kernel
theorem dX3_othersOf_20 : decode cX3_othersOf 20 = .ok (.iconst (-1), 1) := by decide +kernel
theorem dX3_othersOf_21 : decode cX3_othersOf 21 = .ok (.ixor, 1) := by decide +kernel
theorem dX3_othersOf_22 : decode cX3_othersOf 22 = .ok (.iand, 1) := by decide +kernel
theorem dX3_othersOf_23 : decode cX3_othersOf 23 = .ok (.invokestatic 46, 3) := by decide +kernel
theorem dX3_othersOf_26 : decode cX3_othersOf 26 = .ok (.ireturn, 1) := by decide +kernel
theorem dX3_valueTo_0 : decode cX3_valueTo 0 = .ok (.aload_n 0, 1) := by decide +kernel
theorem dX3_valueTo_1 : decode cX3_valueTo 1 = .ok (.iload_n 1, 1) := by decide +kernel
theorem dX3_valueTo_2 : decode cX3_valueTo 2 = .ok (.aload_n 0, 1) := by decide +kernel
theorem dX3_valueTo_3 : decode cX3_valueTo 3 = .ok (.iload_n 1, 1) := by decide +kernel
theorem dX3_valueTo_4 : decode cX3_valueTo 4 = .ok (.iload_n 2, 1) := by decide +kernel
theorem dX3_valueTo_5 : decode cX3_valueTo 5 = .ok (.invokevirtual 51, 3) := by decide +kernel
theorem dX3_valueTo_8 : decode cX3_valueTo 8 = .ok (.iload_n 3, 1) := by decide +kernel
theorem dX3_valueTo_9 : decode cX3_valueTo 9 = .ok (.invokevirtual 54, 3) := by decide +kernel
theorem dX3_valueTo_12 : decode cX3_valueTo 12 = .ok (.ireturn, 1) := by decide +kernel
theorem dX3_valueWith_0 : decode cX3_valueWith 0 = .ok (.aload_n 0, 1) := by decide +kernel
theorem dX3_valueWith_1 : decode cX3_valueWith 1 = .ok (.getfield 12, 3) := by decide +kernel
theorem dX3_valueWith_4 : decode cX3_valueWith 4 = .ok (.iload_n 1, 1) := by decide +kernel
theorem dX3_valueWith_5 : decode cX3_valueWith 5 = .ok (.iconst 0, 1) := by decide +kernel
theorem dX3_valueWith_6 : decode cX3_valueWith 6 = .ok (.invokevirtual 30, 3) := by decide +kernel
theorem dX3_valueWith_9 : decode cX3_valueWith 9 = .ok (.aload_n 0, 1) := by decide +kernel
theorem dX3_valueWith_10 : decode cX3_valueWith 10 = .ok (.getfield 12, 3) := by decide +kernel
theorem dX3_valueWith_13 : decode cX3_valueWith 13 = .ok (.iload_n 1, 1) := by decide +kernel
theorem dX3_valueWith_14 : decode cX3_valueWith 14 = .ok (.iconst 1, 1) := by decide +kernel
theorem dX3_valueWith_15 : decode cX3_valueWith 15 = .ok (.invokevirtual 30, 3) := by decide +kernel
theorem dX3_valueWith_18 : decode cX3_valueWith 18 = .ok (.aload_n 0, 1) := by decide +kernel
theorem dX3_valueWith_19 : decode cX3_valueWith 19 = .ok (.getfield 12, 3) := by decide +kernel
theorem dX3_valueWith_22 : decode cX3_valueWith 22 = .ok (.iload_n 1, 1) := by decide +kernel
theorem dX3_valueWith_23 : decode cX3_valueWith 23 = .ok (.iconst 2, 1) := by decide +kernel
theorem dX3_valueWith_24 : decode cX3_valueWith 24 = .ok (.invokevirtual 30, 3) := by decide +kernel
theorem dX3_valueWith_27 : decode cX3_valueWith 27 = .ok (.iload_n 3, 1) := by decide +kernel
theorem dX3_valueWith_28 : decode cX3_valueWith 28 = .ok (.iload_n 2, 1) := by decide +kernel
theorem dX3_valueWith_29 : decode cX3_valueWith 29 = .ok (.invokestatic 58, 3) := by decide +kernel
theorem dX3_valueWith_32 : decode cX3_valueWith 32 = .ok (.ireturn, 1) := by decide +kernel
theorem dX3_wants_0 : decode cX3_wants 0 = .ok (.aload_n 0, 1) := by decide +kernel
theorem dX3_wants_1 : decode cX3_wants 1 = .ok (.iload_n 1, 1) := by decide +kernel
theorem dX3_wants_2 : decode cX3_wants 2 = .ok (.iload_n 2, 1) := by decide +kernel
theorem dX3_wants_3 : decode cX3_wants 3 = .ok (.invokevirtual 51, 3) := by decide +kernel
theorem dX3_wants_6 : decode cX3_wants 6 = .ok (.istore 4, 2) := by decide +kernel
theorem dX3_wants_8 : decode cX3_wants 8 = .ok (.aload_n 0, 1) := by decide +kernel
theorem dX3_wants_9 : decode cX3_wants 9 = .ok (.iload_n 1, 1) := by decide +kernel
theorem dX3_wants_10 : decode cX3_wants 10 = .ok (.iload 4, 2) := by decide +kernel
theorem dX3_wants_12 : decode cX3_wants 12 = .ok (.iload_n 3, 1) := by decide +kernel
theorem dX3_wants_13 : decode cX3_wants 13 = .ok (.invokevirtual 54, 3) := by decide +kernel
theorem dX3_wants_16 : decode cX3_wants 16 = .ok (.iload 4, 2) := by decide +kernel
theorem dX3_wants_18 : decode cX3_wants 18 = .ok (.if_icmp .le 7, 3) := by decide +kernel
theorem dX3_wants_21 : decode cX3_wants 21 = .ok (.iconst 1, 1) := by decide +kernel
theorem dX3_wants_22 : decode cX3_wants 22 = .ok (.goto 4, 3) := by decide +kernel
theorem dX3_wants_25 : decode cX3_wants 25 = .ok (.iconst 0, 1) := by decide +kernel
theorem dX3_wants_26 : decode cX3_wants 26 = .ok (.ireturn, 1) := by decide +kernel
theorem dX3_changes_0 : decode cX3_changes 0 = .ok (.aload_n 0, 1) := by decide +kernel
theorem dX3_changes_1 : decode cX3_changes 1 = .ok (.iload_n 1, 1) := by decide +kernel
theorem dX3_changes_2 : decode cX3_changes 2 = .ok (.iload_n 2, 1) := by decide +kernel
theorem dX3_changes_3 : decode cX3_changes 3 = .ok (.invokevirtual 51, 3) := by decide +kernel
theorem dX3_changes_6 : decode cX3_changes 6 = .ok (.istore 4, 2) := by decide +kernel
theorem dX3_changes_8 : decode cX3_changes 8 = .ok (.aload_n 0, 1) := by decide +kernel
theorem dX3_changes_9 : decode cX3_changes 9 = .ok (.iload_n 1, 1) := by decide +kernel
theorem dX3_changes_10 : decode cX3_changes 10 = .ok (.iload 4, 2) := by decide +kernel
theorem dX3_changes_12 : decode cX3_changes 12 = .ok (.iload_n 3, 1) := by decide +kernel
theorem dX3_changes_13 : decode cX3_changes 13 = .ok (.invokevirtual 54, 3) := by decide +kernel
theorem dX3_changes_16 : decode cX3_changes 16 = .ok (.istore 5, 2) := by decide +kernel
theorem dX3_changes_18 : decode cX3_changes 18 = .ok (.iload_n 2, 1) := by decide +kernel
theorem dX3_changes_19 : decode cX3_changes 19 = .ok (.iload_n 1, 1) := by decide +kernel
theorem dX3_changes_20 : decode cX3_changes 20 = .ok (.invokestatic 62, 3) := by decide +kernel
theorem dX3_changes_23 : decode cX3_changes 23 = .ok (.ifCond .eq 16, 3) := by decide +kernel
theorem dX3_changes_26 : decode cX3_changes 26 = .ok (.iload 5, 2) := by decide +kernel
theorem dX3_changes_28 : decode cX3_changes 28 = .ok (.ifCond .ge 7, 3) := by decide +kernel
theorem dX3_changes_31 : decode cX3_changes 31 = .ok (.iconst 1, 1) := by decide +kernel
theorem dX3_changes_32 : decode cX3_changes 32 = .ok (.goto 19, 3) := by decide +kernel
theorem dX3_changes_35 : decode cX3_changes 35 = .ok (.iconst 0, 1) := by decide +kernel
theorem dX3_changes_36 : decode cX3_changes 36 = .ok (.goto 15, 3) := by decide +kernel
theorem dX3_changes_39 : decode cX3_changes 39 = .ok (.iload 5, 2) := by decide +kernel
theorem dX3_changes_41 : decode cX3_changes 41 = .ok (.iload 4, 2) := by decide +kernel
theorem dX3_changes_43 : decode cX3_changes 43 = .ok (.if_icmp .le 7, 3) := by decide +kernel
theorem dX3_changes_46 : decode cX3_changes 46 = .ok (.iconst 1, 1) := by decide +kernel
theorem dX3_changes_47 : decode cX3_changes 47 = .ok (.goto 4, 3) := by decide +kernel
theorem dX3_changes_50 : decode cX3_changes 50 = .ok (.iconst 0, 1) := by decide +kernel
theorem dX3_changes_51 : decode cX3_changes 51 = .ok (.ireturn, 1) := by decide +kernel
theorem dX3_changersBy_0 : decode cX3_changersBy 0 = .ok (.iconst 0, 1) := by decide +kernel
theorem dX3_changersBy_1 : decode cX3_changersBy 1 = .ok (.istore_n 3, 1) := by decide +kernel
theorem dX3_changersBy_2 : decode cX3_changersBy 2 = .ok (.iconst 0, 1) := by decide +kernel
theorem dX3_changersBy_3 : decode cX3_changersBy 3 = .ok (.istore 4, 2) := by decide +kernel
theorem dX3_changersBy_5 : decode cX3_changersBy 5 = .ok (.iload 4, 2) := by decide +kernel
theorem dX3_changersBy_7 : decode cX3_changersBy 7 = .ok (.aload_n 0, 1) := by decide +kernel
theorem dX3_changersBy_8 : decode cX3_changersBy 8 = .ok (.getfield 12, 3) := by decide +kernel
theorem dX3_changersBy_11 : decode cX3_changersBy 11 = .ok (.getfield 26, 3) := by decide +kernel
theorem dX3_changersBy_14 : decode cX3_changersBy 14 = .ok (.if_icmp .ge 28, 3) := by decide +kernel
theorem dX3_changersBy_17 : decode cX3_changersBy 17 = .ok (.aload_n 0, 1) := by decide +kernel
theorem dX3_changersBy_18 : decode cX3_changersBy 18 = .ok (.iload 4, 2) := by decide +kernel
theorem dX3_changersBy_20 : decode cX3_changersBy 20 = .ok (.iload_n 1, 1) := by decide +kernel
theorem dX3_changersBy_21 : decode cX3_changersBy 21 = .ok (.iload_n 2, 1) := by decide +kernel
theorem dX3_changersBy_22 : decode cX3_changersBy 22 = .ok (.invokevirtual 66, 3) := by decide +kernel
theorem dX3_changersBy_25 : decode cX3_changersBy 25 = .ok (.ifCond .eq 11, 3) := by decide +kernel
theorem dX3_changersBy_28 : decode cX3_changersBy 28 = .ok (.iload_n 3, 1) := by decide +kernel
theorem dX3_changersBy_29 : decode cX3_changersBy 29 = .ok (.iload 4, 2) := by decide +kernel
theorem dX3_changersBy_31 : decode cX3_changersBy 31 = .ok (.invokestatic 34, 3) := by decide +kernel
theorem dX3_changersBy_34 : decode cX3_changersBy 34 = .ok (.ior, 1) := by decide +kernel
theorem dX3_changersBy_35 : decode cX3_changersBy 35 = .ok (.istore_n 3, 1) := by decide +kernel
theorem dX3_changersBy_36 : decode cX3_changersBy 36 = .ok (.iinc 4 1, 3) := by decide +kernel
theorem dX3_changersBy_39 : decode cX3_changersBy 39 = .ok (.goto (-34), 3) := by decide +kernel
theorem dX3_changersBy_42 : decode cX3_changersBy 42 = .ok (.iload_n 3, 1) := by decide +kernel
theorem dX3_changersBy_43 : decode cX3_changersBy 43 = .ok (.ireturn, 1) := by decide +kernel
theorem dX3_nextOwners_0 : decode cX3_nextOwners 0 = .ok (.iload_n 1, 1) := by decide +kernel
theorem dX3_nextOwners_1 : decode cX3_nextOwners 1 = .ok (.istore 4, 2) := by decide +kernel
theorem dX3_nextOwners_3 : decode cX3_nextOwners 3 = .ok (.iconst 0, 1) := by decide +kernel
theorem dX3_nextOwners_4 : decode cX3_nextOwners 4 = .ok (.istore 5, 2) := by decide +kernel
theorem dX3_nextOwners_6 : decode cX3_nextOwners 6 = .ok (.iload 5, 2) := by decide +kernel
theorem dX3_nextOwners_8 : decode cX3_nextOwners 8 = .ok (.aload_n 0, 1) := by decide +kernel
theorem dX3_nextOwners_9 : decode cX3_nextOwners 9 = .ok (.getfield 12, 3) := by decide +kernel
theorem dX3_nextOwners_12 : decode cX3_nextOwners 12 = .ok (.getfield 26, 3) := by decide +kernel
theorem dX3_nextOwners_15 : decode cX3_nextOwners 15 = .ok (.if_icmp .ge 39, 3) := by decide +kernel
theorem dX3_nextOwners_18 : decode cX3_nextOwners 18 = .ok (.aload_n 0, 1) := by decide +kernel
theorem dX3_nextOwners_19 : decode cX3_nextOwners 19 = .ok (.iload 5, 2) := by decide +kernel
theorem dX3_nextOwners_21 : decode cX3_nextOwners 21 = .ok (.iload_n 2, 1) := by decide +kernel
theorem dX3_nextOwners_22 : decode cX3_nextOwners 22 = .ok (.ifCond .eq 8, 3) := by decide +kernel
theorem dX3_nextOwners_25 : decode cX3_nextOwners 25 = .ok (.iload 4, 2) := by decide +kernel
theorem dX3_nextOwners_27 : decode cX3_nextOwners 27 = .ok (.goto 4, 3) := by decide +kernel
theorem dX3_nextOwners_30 : decode cX3_nextOwners 30 = .ok (.iload_n 1, 1) := by decide +kernel
theorem dX3_nextOwners_31 : decode cX3_nextOwners 31 = .ok (.iload_n 3, 1) := by decide +kernel
theorem dX3_nextOwners_32 : decode cX3_nextOwners 32 = .ok (.invokevirtual 66, 3) := by decide +kernel
theorem dX3_nextOwners_35 : decode cX3_nextOwners 35 = .ok (.ifCond .eq 13, 3) := by decide +kernel
theorem dX3_nextOwners_38 : decode cX3_nextOwners 38 = .ok (.iload 4, 2) := by decide +kernel
theorem dX3_nextOwners_40 : decode cX3_nextOwners 40 = .ok (.iload 5, 2) := by decide +kernel
theorem dX3_nextOwners_42 : decode cX3_nextOwners 42 = .ok (.invokestatic 34, 3) := by decide +kernel
theorem dX3_nextOwners_45 : decode cX3_nextOwners 45 = .ok (.ixor, 1) := by decide +kernel
theorem dX3_nextOwners_46 : decode cX3_nextOwners 46 = .ok (.istore 4, 2) := by decide +kernel
theorem dX3_nextOwners_48 : decode cX3_nextOwners 48 = .ok (.iinc 5 1, 3) := by decide +kernel
theorem dX3_nextOwners_51 : decode cX3_nextOwners 51 = .ok (.goto (-45), 3) := by decide +kernel
theorem dX3_nextOwners_54 : decode cX3_nextOwners 54 = .ok (.iload 4, 2) := by decide +kernel
theorem dX3_nextOwners_56 : decode cX3_nextOwners 56 = .ok (.ireturn, 1) := by decide +kernel
theorem dX4_init_0 : decode cX4_init 0 = .ok (.aload_n 0, 1) := by decide +kernel
theorem dX4_init_1 : decode cX4_init 1 = .ok (.invokespecial 3, 3) := by decide +kernel
theorem dX4_init_4 : decode cX4_init 4 = .ok (.aload_n 0, 1) := by decide +kernel
theorem dX4_init_5 : decode cX4_init 5 = .ok (.bipush 35, 2) := by decide +kernel
theorem dX4_init_7 : decode cX4_init 7 = .ok (.newarray .int, 2) := by decide +kernel
theorem dX4_init_9 : decode cX4_init 9 = .ok (.putfield 9, 3) := by decide +kernel
theorem dX4_init_12 : decode cX4_init 12 = .ok (.aload_n 0, 1) := by decide +kernel
theorem dX4_init_13 : decode cX4_init 13 = .ok (.iconst 0, 1) := by decide +kernel
theorem dX4_init_14 : decode cX4_init 14 = .ok (.putfield 15, 3) := by decide +kernel
theorem dX4_init_17 : decode cX4_init 17 = .ok (.aload_n 0, 1) := by decide +kernel
theorem dX4_init_18 : decode cX4_init 18 = .ok (.iconst 0, 1) := by decide +kernel
theorem dX4_init_19 : decode cX4_init 19 = .ok (.putfield 19, 3) := by decide +kernel
theorem dX4_init_22 : decode cX4_init 22 = .ok (.aload_n 0, 1) := by decide +kernel
theorem dX4_init_23 : decode cX4_init 23 = .ok (.bipush 50, 2) := by decide +kernel
theorem dX4_init_25 : decode cX4_init 25 = .ok (.putfield 22, 3) := by decide +kernel
theorem dX4_init_28 : decode cX4_init 28 = .ok (.return_, 1) := by decide +kernel
theorem dX4_clear_0 : decode cX4_clear 0 = .ok (.aload_n 0, 1) := by decide +kernel
theorem dX4_clear_1 : decode cX4_clear 1 = .ok (.iconst 0, 1) := by decide +kernel
theorem dX4_clear_2 : decode cX4_clear 2 = .ok (.putfield 15, 3) := by decide +kernel
theorem dX4_clear_5 : decode cX4_clear 5 = .ok (.aload_n 0, 1) := by decide +kernel
theorem dX4_clear_6 : decode cX4_clear 6 = .ok (.iconst 0, 1) := by decide +kernel
theorem dX4_clear_7 : decode cX4_clear 7 = .ok (.putfield 19, 3) := by decide +kernel
theorem dX4_clear_10 : decode cX4_clear 10 = .ok (.aload_n 0, 1) := by decide +kernel
theorem dX4_clear_11 : decode cX4_clear 11 = .ok (.bipush 50, 2) := by decide +kernel
theorem dX4_clear_13 : decode cX4_clear 13 = .ok (.putfield 22, 3) := by decide +kernel
theorem dX4_clear_16 : decode cX4_clear 16 = .ok (.return_, 1) := by decide +kernel
theorem dX4_add_0 : decode cX4_add 0 = .ok (.aload_n 0, 1) := by decide +kernel
theorem dX4_add_1 : decode cX4_add 1 = .ok (.getfield 15, 3) := by decide +kernel
theorem dX4_add_4 : decode cX4_add 4 = .ok (.bipush 7, 2) := by decide +kernel
theorem dX4_add_6 : decode cX4_add 6 = .ok (.if_icmp .ge 21, 3) := by decide +kernel
theorem dX4_add_9 : decode cX4_add 9 = .ok (.iload_n 1, 1) := by decide +kernel
theorem dX4_add_10 : decode cX4_add 10 = .ok (.iconst 3, 1) := by decide +kernel
theorem dX4_add_11 : decode cX4_add 11 = .ok (.if_icmp .gt 16, 3) := by decide +kernel
theorem dX4_add_14 : decode cX4_add 14 = .ok (.iload_n 3, 1) := by decide +kernel
theorem dX4_add_15 : decode cX4_add 15 = .ok (.bipush 18, 2) := by decide +kernel
theorem dX4_add_17 : decode cX4_add 17 = .ok (.if_icmp .gt 10, 3) := by decide +kernel
theorem dX4_add_20 : decode cX4_add 20 = .ok (.iload 4, 2) := by decide +kernel
theorem dX4_add_22 : decode cX4_add 22 = .ok (.bipush 8, 2) := by decide +kernel
theorem dX4_add_24 : decode cX4_add 24 = .ok (.if_icmp .lt 5, 3) := by decide +kernel
theorem dX4_add_27 : decode cX4_add 27 = .ok (.iconst 0, 1) := by decide +kernel
theorem dX4_add_28 : decode cX4_add 28 = .ok (.ireturn, 1) := by decide +kernel
theorem dX4_add_29 : decode cX4_add 29 = .ok (.aload_n 0, 1) := by decide +kernel
theorem dX4_add_30 : decode cX4_add 30 = .ok (.getfield 9, 3) := by decide +kernel
theorem dX4_add_33 : decode cX4_add 33 = .ok (.aload_n 0, 1) := by decide +kernel
theorem dX4_add_34 : decode cX4_add 34 = .ok (.getfield 15, 3) := by decide +kernel
theorem dX4_add_37 : decode cX4_add 37 = .ok (.iconst 5, 1) := by decide +kernel
theorem dX4_add_38 : decode cX4_add 38 = .ok (.imul, 1) := by decide +kernel
theorem dX4_add_39 : decode cX4_add 39 = .ok (.iconst 0, 1) := by decide +kernel
theorem dX4_add_40 : decode cX4_add 40 = .ok (.iadd, 1) := by decide +kernel
theorem dX4_add_41 : decode cX4_add 41 = .ok (.iload_n 1, 1) := by decide +kernel
theorem dX4_add_42 : decode cX4_add 42 = .ok (.invokestatic 25, 3) := by decide +kernel
theorem dX4_add_45 : decode cX4_add 45 = .ok (.aload_n 0, 1) := by decide +kernel
theorem dX4_add_46 : decode cX4_add 46 = .ok (.getfield 9, 3) := by decide +kernel
theorem dX4_add_49 : decode cX4_add 49 = .ok (.aload_n 0, 1) := by decide +kernel
theorem dX4_add_50 : decode cX4_add 50 = .ok (.getfield 15, 3) := by decide +kernel
theorem dX4_add_53 : decode cX4_add 53 = .ok (.iconst 5, 1) := by decide +kernel
theorem dX4_add_54 : decode cX4_add 54 = .ok (.imul, 1) := by decide +kernel
theorem dX4_add_55 : decode cX4_add 55 = .ok (.iconst 1, 1) := by decide +kernel
theorem dX4_add_56 : decode cX4_add 56 = .ok (.iadd, 1) := by decide +kernel
theorem dX4_add_57 : decode cX4_add 57 = .ok (.iload_n 2, 1) := by decide +kernel
theorem dX4_add_58 : decode cX4_add 58 = .ok (.invokestatic 25, 3) := by decide +kernel
theorem dX4_add_61 : decode cX4_add 61 = .ok (.aload_n 0, 1) := by decide +kernel
theorem dX4_add_62 : decode cX4_add 62 = .ok (.getfield 9, 3) := by decide +kernel
theorem dX4_add_65 : decode cX4_add 65 = .ok (.aload_n 0, 1) := by decide +kernel
theorem dX4_add_66 : decode cX4_add 66 = .ok (.getfield 15, 3) := by decide +kernel
theorem dX4_add_69 : decode cX4_add 69 = .ok (.iconst 5, 1) := by decide +kernel
theorem dX4_add_70 : decode cX4_add 70 = .ok (.imul, 1) := by decide +kernel
theorem dX4_add_71 : decode cX4_add 71 = .ok (.iconst 2, 1) := by decide +kernel
theorem dX4_add_72 : decode cX4_add 72 = .ok (.iadd, 1) := by decide +kernel
theorem dX4_add_73 : decode cX4_add 73 = .ok (.iload_n 3, 1) := by decide +kernel
theorem dX4_add_74 : decode cX4_add 74 = .ok (.invokestatic 25, 3) := by decide +kernel
theorem dX4_add_77 : decode cX4_add 77 = .ok (.aload_n 0, 1) := by decide +kernel
theorem dX4_add_78 : decode cX4_add 78 = .ok (.getfield 9, 3) := by decide +kernel
theorem dX4_add_81 : decode cX4_add 81 = .ok (.aload_n 0, 1) := by decide +kernel
theorem dX4_add_82 : decode cX4_add 82 = .ok (.getfield 15, 3) := by decide +kernel
theorem dX4_add_85 : decode cX4_add 85 = .ok (.iconst 5, 1) := by decide +kernel
theorem dX4_add_86 : decode cX4_add 86 = .ok (.imul, 1) := by decide +kernel
theorem dX4_add_87 : decode cX4_add 87 = .ok (.iconst 3, 1) := by decide +kernel
theorem dX4_add_88 : decode cX4_add 88 = .ok (.iadd, 1) := by decide +kernel
theorem dX4_add_89 : decode cX4_add 89 = .ok (.iload 4, 2) := by decide +kernel
theorem dX4_add_91 : decode cX4_add 91 = .ok (.invokestatic 25, 3) := by decide +kernel
theorem dX4_add_94 : decode cX4_add 94 = .ok (.aload_n 0, 1) := by decide +kernel
theorem dX4_add_95 : decode cX4_add 95 = .ok (.getfield 9, 3) := by decide +kernel
theorem dX4_add_98 : decode cX4_add 98 = .ok (.aload_n 0, 1) := by decide +kernel
theorem dX4_add_99 : decode cX4_add 99 = .ok (.getfield 15, 3) := by decide +kernel
theorem dX4_add_102 : decode cX4_add 102 = .ok (.iconst 5, 1) := by decide +kernel
theorem dX4_add_103 : decode cX4_add 103 = .ok (.imul, 1) := by decide +kernel
theorem dX4_add_104 : decode cX4_add 104 = .ok (.iconst 4, 1) := by decide +kernel
theorem dX4_add_105 : decode cX4_add 105 = .ok (.iadd, 1) := by decide +kernel
theorem dX4_add_106 : decode cX4_add 106 = .ok (.iload 5, 2) := by decide +kernel
theorem dX4_add_108 : decode cX4_add 108 = .ok (.invokestatic 25, 3) := by decide +kernel
theorem dX4_add_111 : decode cX4_add 111 = .ok (.aload_n 0, 1) := by decide +kernel
theorem dX4_add_112 : decode cX4_add 112 = .ok (.dup, 1) := by decide +kernel
theorem dX4_add_113 : decode cX4_add 113 = .ok (.getfield 15, 3) := by decide +kernel
theorem dX4_add_116 : decode cX4_add 116 = .ok (.iconst 1, 1) := by decide +kernel
theorem dX4_add_117 : decode cX4_add 117 = .ok (.iadd, 1) := by decide +kernel
theorem dX4_add_118 : decode cX4_add 118 = .ok (.putfield 15, 3) := by decide +kernel
theorem dX4_add_121 : decode cX4_add 121 = .ok (.iconst 1, 1) := by decide +kernel
theorem dX4_add_122 : decode cX4_add 122 = .ok (.ireturn, 1) := by decide +kernel
theorem dX4_giveOne_0 : decode cX4_giveOne 0 = .ok (.iload_n 1, 1) := by decide +kernel
theorem dX4_giveOne_1 : decode cX4_giveOne 1 = .ok (.aload_n 0, 1) := by decide +kernel
theorem dX4_giveOne_2 : decode cX4_giveOne 2 = .ok (.getfield 15, 3) := by decide +kernel
theorem dX4_giveOne_5 : decode cX4_giveOne 5 = .ok (.if_icmp .lt 5, 3) := by decide +kernel
theorem dX4_giveOne_8 : decode cX4_giveOne 8 = .ok (.iconst 0, 1) := by decide +kernel
theorem dX4_giveOne_9 : decode cX4_giveOne 9 = .ok (.ireturn, 1) := by decide +kernel
theorem dX4_giveOne_10 : decode cX4_giveOne 10 = .ok (.aload_n 0, 1) := by decide +kernel
theorem dX4_giveOne_11 : decode cX4_giveOne 11 = .ok (.dup, 1) := by decide +kernel
theorem dX4_giveOne_12 : decode cX4_giveOne 12 = .ok (.getfield 19, 3) := by decide +kernel
theorem dX4_giveOne_15 : decode cX4_giveOne 15 = .ok (.iload_n 1, 1) := by decide +kernel
theorem dX4_giveOne_16 : decode cX4_giveOne 16 = .ok (.invokestatic 29, 3) := by decide +kernel
theorem dX4_giveOne_19 : decode cX4_giveOne 19 = .ok (.ior, 1) := by decide +kernel
theorem dX4_giveOne_20 : decode cX4_giveOne 20 = .ok (.putfield 19, 3) := by decide +kernel
theorem dX4_giveOne_23 : decode cX4_giveOne 23 = .ok (.iconst 1, 1) := by decide +kernel
theorem dX4_giveOne_24 : decode cX4_giveOne 24 = .ok (.ireturn, 1) := by decide +kernel
theorem dX4_setSeason_0 : decode cX4_setSeason 0 = .ok (.aload_n 0, 1) := by decide +kernel
theorem dX4_setSeason_1 : decode cX4_setSeason 1 = .ok (.iload_n 1, 1) := by decide +kernel
theorem dX4_setSeason_2 : decode cX4_setSeason 2 = .ok (.putfield 22, 3) := by decide +kernel
theorem dX4_setSeason_5 : decode cX4_setSeason 5 = .ok (.iconst 1, 1) := by decide +kernel
theorem dX4_setSeason_6 : decode cX4_setSeason 6 = .ok (.ireturn, 1) := by decide +kernel
theorem dX4_trait_0 : decode cX4_trait 0 = .ok (.iload_n 1, 1) := by decide +kernel
theorem dX4_trait_1 : decode cX4_trait 1 = .ok (.iconst 5, 1) := by decide +kernel
theorem dX4_trait_2 : decode cX4_trait 2 = .ok (.imul, 1) := by decide +kernel
theorem dX4_trait_3 : decode cX4_trait 3 = .ok (.iload_n 2, 1) := by decide +kernel
theorem dX4_trait_4 : decode cX4_trait 4 = .ok (.iadd, 1) := by decide +kernel
theorem dX4_trait_5 : decode cX4_trait 5 = .ok (.istore_n 3, 1) := by decide +kernel
theorem dX4_trait_6 : decode cX4_trait 6 = .ok (.iload_n 3, 1) := by decide +kernel
theorem dX4_trait_7 : decode cX4_trait 7 = .ok (.ifCond .lt 21, 3) := by decide +kernel
theorem dX4_trait_10 : decode cX4_trait 10 = .ok (.iload_n 3, 1) := by decide +kernel
theorem dX4_trait_11 : decode cX4_trait 11 = .ok (.aload_n 0, 1) := by decide +kernel
theorem dX4_trait_12 : decode cX4_trait 12 = .ok (.getfield 9, 3) := by decide +kernel
theorem dX4_trait_15 : decode cX4_trait 15 = .ok (.arraylength, 1) := by decide +kernel
theorem dX4_trait_16 : decode cX4_trait 16 = .ok (.if_icmp .ge 12, 3) := by decide +kernel
theorem dX4_trait_19 : decode cX4_trait 19 = .ok (.aload_n 0, 1) := by decide +kernel
theorem dX4_trait_20 : decode cX4_trait 20 = .ok (.getfield 9, 3) := by decide +kernel
theorem dX4_trait_23 : decode cX4_trait 23 = .ok (.iload_n 3, 1) := by decide +kernel
theorem dX4_trait_24 : decode cX4_trait 24 = .ok (.iaload, 1) := by decide +kernel
theorem dX4_trait_25 : decode cX4_trait 25 = .ok (.goto 4, 3) := by decide +kernel
theorem dX4_trait_28 : decode cX4_trait 28 = .ok (.iconst 0, 1) := by decide +kernel
theorem dX4_trait_29 : decode cX4_trait 29 = .ok (.ireturn, 1) := by decide +kernel
theorem dX4_sets_0 : decode cX4_sets 0 = .ok (.iconst 1, 1) := by decide +kernel
theorem dX4_sets_1 : decode cX4_sets 1 = .ok (.aload_n 0, 1) := by decide +kernel
theorem dX4_sets_2 : decode cX4_sets 2 = .ok (.getfield 15, 3) := by decide +kernel
theorem dX4_sets_5 : decode cX4_sets 5 = .ok (.ishl, 1) := by decide +kernel
theorem dX4_sets_6 : decode cX4_sets 6 = .ok (.ireturn, 1) := by decide +kernel
theorem dX4_copy_0 : decode cX4_copy 0 = .ok (.iconst 0, 1) := by decide +kernel
theorem dX4_copy_1 : decode cX4_copy 1 = .ok (.istore_n 2, 1) := by decide +kernel
theorem dX4_copy_2 : decode cX4_copy 2 = .ok (.iload_n 2, 1) := by decide +kernel
theorem dX4_copy_3 : decode cX4_copy 3 = .ok (.aload_n 0, 1) := by decide +kernel
theorem dX4_copy_4 : decode cX4_copy 4 = .ok (.getfield 9, 3) := by decide +kernel
theorem dX4_copy_7 : decode cX4_copy 7 = .ok (.arraylength, 1) := by decide +kernel
theorem dX4_copy_8 : decode cX4_copy 8 = .ok (.if_icmp .ge 25, 3) := by decide +kernel
theorem dX4_copy_11 : decode cX4_copy 11 = .ok (.aload_n 0, 1) := by decide +kernel
theorem dX4_copy_12 : decode cX4_copy 12 = .ok (.getfield 9, 3) := by decide +kernel
theorem dX4_copy_15 : decode cX4_copy 15 = .ok (.iload_n 2, 1) := by decide +kernel
theorem dX4_copy_16 : decode cX4_copy 16 = .ok (.aload_n 1, 1) := by decide +kernel
theorem dX4_copy_17 : decode cX4_copy 17 = .ok (.getfield 9, 3) := by decide +kernel
theorem dX4_copy_20 : decode cX4_copy 20 = .ok (.iload_n 2, 1) := by decide +kernel
theorem dX4_copy_21 : decode cX4_copy 21 = .ok (.invokestatic 33, 3) := by decide +kernel
theorem dX4_copy_24 : decode cX4_copy 24 = .ok (.invokestatic 25, 3) := by decide +kernel
theorem dX4_copy_27 : decode cX4_copy 27 = .ok (.iinc 2 1, 3) := by decide +kernel
theorem dX4_copy_30 : decode cX4_copy 30 = .ok (.goto (-28), 3) := by decide +kernel
theorem dX4_copy_33 : decode cX4_copy 33 = .ok (.aload_n 0, 1) := by decide +kernel
theorem dX4_copy_34 : decode cX4_copy 34 = .ok (.aload_n 1, 1) := by decide +kernel
theorem dX4_copy_35 : decode cX4_copy 35 = .ok (.getfield 15, 3) := by decide +kernel
theorem dX4_copy_38 : decode cX4_copy 38 = .ok (.putfield 15, 3) := by decide +kernel
theorem dX4_copy_41 : decode cX4_copy 41 = .ok (.aload_n 0, 1) := by decide +kernel
theorem dX4_copy_42 : decode cX4_copy 42 = .ok (.aload_n 1, 1) := by decide +kernel
theorem dX4_copy_43 : decode cX4_copy 43 = .ok (.getfield 19, 3) := by decide +kernel
theorem dX4_copy_46 : decode cX4_copy 46 = .ok (.putfield 19, 3) := by decide +kernel
theorem dX4_copy_49 : decode cX4_copy 49 = .ok (.aload_n 0, 1) := by decide +kernel
theorem dX4_copy_50 : decode cX4_copy 50 = .ok (.aload_n 1, 1) := by decide +kernel
theorem dX4_copy_51 : decode cX4_copy 51 = .ok (.getfield 22, 3) := by decide +kernel
theorem dX4_copy_54 : decode cX4_copy 54 = .ok (.putfield 22, 3) := by decide +kernel
theorem dX4_copy_57 : decode cX4_copy 57 = .ok (.return_, 1) := by decide +kernel
theorem dX5_init_0 : decode cX5_init 0 = .ok (.aload_n 0, 1) := by decide +kernel
theorem dX5_init_1 : decode cX5_init 1 = .ok (.invokespecial 3, 3) := by decide +kernel
theorem dX5_init_4 : decode cX5_init 4 = .ok (.aload_n 0, 1) := by decide +kernel
theorem dX5_init_5 : decode cX5_init 5 = .ok (.iconst 0, 1) := by decide +kernel
theorem dX5_init_6 : decode cX5_init 6 = .ok (.putfield 9, 3) := by decide +kernel
theorem dX5_init_9 : decode cX5_init 9 = .ok (.aload_n 0, 1) := by decide +kernel
theorem dX5_init_10 : decode cX5_init 10 = .ok (.iload_n 1, 1) := by decide +kernel
theorem dX5_init_11 : decode cX5_init 11 = .ok (.iconst 1, 1) := by decide +kernel
theorem dX5_init_12 : decode cX5_init 12 = .ok (.if_icmp .le 7, 3) := by decide +kernel
theorem dX5_init_15 : decode cX5_init 15 = .ok (.iload_n 1, 1) := by decide +kernel
theorem dX5_init_16 : decode cX5_init 16 = .ok (.goto 4, 3) := by decide +kernel
theorem dX5_init_19 : decode cX5_init 19 = .ok (.iconst 1, 1) := by decide +kernel
theorem dX5_init_20 : decode cX5_init 20 = .ok (.putfield 15, 3) := by decide +kernel
theorem dX5_init_23 : decode cX5_init 23 = .ok (.aload_n 0, 1) := by decide +kernel
theorem dX5_init_24 : decode cX5_init 24 = .ok (.aload_n 0, 1) := by decide +kernel
theorem dX5_init_25 : decode cX5_init 25 = .ok (.getfield 15, 3) := by decide +kernel
theorem dX5_init_28 : decode cX5_init 28 = .ok (.bipush 8, 2) := by decide +kernel
theorem dX5_init_30 : decode cX5_init 30 = .ok (.imul, 1) := by decide +kernel
theorem dX5_init_31 : decode cX5_init 31 = .ok (.newarray .int, 2) := by decide +kernel
theorem dX5_init_33 : decode cX5_init 33 = .ok (.putfield 18, 3) := by decide +kernel
theorem dX5_init_36 : decode cX5_init 36 = .ok (.return_, 1) := by decide +kernel
theorem dX5_push_0 : decode cX5_push 0 = .ok (.aload_n 0, 1) := by decide +kernel
theorem dX5_push_1 : decode cX5_push 1 = .ok (.getfield 9, 3) := by decide +kernel
theorem dX5_push_4 : decode cX5_push 4 = .ok (.aload_n 0, 1) := by decide +kernel
theorem dX5_push_5 : decode cX5_push 5 = .ok (.getfield 15, 3) := by decide +kernel
theorem dX5_push_8 : decode cX5_push 8 = .ok (.if_icmp .lt 4, 3) := by decide +kernel
theorem dX5_push_11 : decode cX5_push 11 = .ok (.return_, 1) := by decide +kernel
theorem dX5_push_12 : decode cX5_push 12 = .ok (.aload_n 0, 1) := by decide +kernel
theorem dX5_push_13 : decode cX5_push 13 = .ok (.getfield 9, 3) := by decide +kernel
theorem dX5_push_16 : decode cX5_push 16 = .ok (.bipush 8, 2) := by decide +kernel
theorem dX5_push_18 : decode cX5_push 18 = .ok (.imul, 1) := by decide +kernel
theorem dX5_push_19 : decode cX5_push 19 = .ok (.istore_n 2, 1) := by decide +kernel
theorem dX5_push_20 : decode cX5_push 20 = .ok (.iconst 0, 1) := by decide +kernel
theorem dX5_push_21 : decode cX5_push 21 = .ok (.istore_n 3, 1) := by decide +kernel
theorem dX5_push_22 : decode cX5_push 22 = .ok (.iload_n 3, 1) := by decide +kernel
theorem dX5_push_23 : decode cX5_push 23 = .ok (.bipush 7, 2) := by decide +kernel
theorem dX5_push_25 : decode cX5_push 25 = .ok (.if_icmp .ge 24, 3) := by decide +kernel
theorem dX5_push_28 : decode cX5_push 28 = .ok (.aload_n 0, 1) := by decide +kernel
theorem dX5_push_29 : decode cX5_push 29 = .ok (.getfield 18, 3) := by decide +kernel
theorem dX5_push_32 : decode cX5_push 32 = .ok (.iload_n 2, 1) := by decide +kernel
theorem dX5_push_33 : decode cX5_push 33 = .ok (.iload_n 3, 1) := by decide +kernel
theorem dX5_push_34 : decode cX5_push 34 = .ok (.iadd, 1) := by decide +kernel
theorem dX5_push_35 : decode cX5_push 35 = .ok (.aload_n 1, 1) := by decide +kernel
theorem dX5_push_36 : decode cX5_push 36 = .ok (.iload_n 3, 1) := by decide +kernel
theorem dX5_push_37 : decode cX5_push 37 = .ok (.invokevirtual 22, 3) := by decide +kernel
theorem dX5_push_40 : decode cX5_push 40 = .ok (.invokestatic 28, 3) := by decide +kernel
theorem dX5_push_43 : decode cX5_push 43 = .ok (.iinc 3 1, 3) := by decide +kernel
theorem dX5_push_46 : decode cX5_push 46 = .ok (.goto (-24), 3) := by decide +kernel
theorem dX5_push_49 : decode cX5_push 49 = .ok (.aload_n 0, 1) := by decide +kernel
theorem dX5_push_50 : decode cX5_push 50 = .ok (.getfield 18, 3) := by decide +kernel
theorem dX5_push_53 : decode cX5_push 53 = .ok (.iload_n 2, 1) := by decide +kernel
theorem dX5_push_54 : decode cX5_push 54 = .ok (.bipush 7, 2) := by decide +kernel
theorem dX5_push_56 : decode cX5_push 56 = .ok (.iadd, 1) := by decide +kernel
theorem dX5_push_57 : decode cX5_push 57 = .ok (.aload_n 1, 1) := by decide +kernel
theorem dX5_push_58 : decode cX5_push 58 = .ok (.getfield 32, 3) := by decide +kernel
theorem dX5_push_61 : decode cX5_push 61 = .ok (.invokestatic 28, 3) := by decide +kernel
theorem dX5_push_64 : decode cX5_push 64 = .ok (.aload_n 0, 1) := by decide +kernel
theorem dX5_push_65 : decode cX5_push 65 = .ok (.dup, 1) := by decide +kernel
theorem dX5_push_66 : decode cX5_push 66 = .ok (.getfield 9, 3) := by decide +kernel
theorem dX5_push_69 : decode cX5_push 69 = .ok (.iconst 1, 1) := by decide +kernel
theorem dX5_push_70 : decode cX5_push 70 = .ok (.iadd, 1) := by decide +kernel
theorem dX5_push_71 : decode cX5_push 71 = .ok (.putfield 9, 3) := by decide +kernel
theorem dX5_push_74 : decode cX5_push 74 = .ok (.return_, 1) := by decide +kernel
theorem dX5_pushOverOldest_0 : decode cX5_pushOverOldest 0 = .ok (.aload_n 0, 1) := by decide +kernel
theorem dX5_pushOverOldest_1 : decode cX5_pushOverOldest 1 = .ok (.getfield 9, 3) := by decide +kernel
theorem dX5_pushOverOldest_4 : decode cX5_pushOverOldest 4 = .ok (.aload_n 0, 1) := by decide +kernel
theorem dX5_pushOverOldest_5 : decode cX5_pushOverOldest 5 = .ok (.getfield 15, 3) := by decide +kernel
theorem dX5_pushOverOldest_8 : decode cX5_pushOverOldest 8 = .ok (.if_icmp .lt 50, 3) := by decide +kernel
theorem dX5_pushOverOldest_11 : decode cX5_pushOverOldest 11 = .ok (.bipush 8, 2) := by decide +kernel
theorem dX5_pushOverOldest_13 : decode cX5_pushOverOldest 13 = .ok (.istore_n 2, 1) := by decide +kernel
theorem dX5_pushOverOldest_14 : decode cX5_pushOverOldest 14 = .ok (.iload_n 2, 1) := by decide +kernel
theorem dX5_pushOverOldest_15 : decode cX5_pushOverOldest 15 = .ok (.aload_n 0, 1) := by decide +kernel
theorem dX5_pushOverOldest_16 : decode cX5_pushOverOldest 16 = .ok (.getfield 18, 3) := by decide +kernel
theorem dX5_pushOverOldest_19 : decode cX5_pushOverOldest 19 = .ok (.arraylength, 1) := by decide +kernel
theorem dX5_pushOverOldest_20 : decode cX5_pushOverOldest 20 = .ok (.if_icmp .ge 28, 3) := by decide +kernel
theorem dX5_pushOverOldest_23 : decode cX5_pushOverOldest 23 = .ok (.aload_n 0, 1) := by decide +kernel
theorem dX5_pushOverOldest_24 : decode cX5_pushOverOldest 24 = .ok (.getfield 18, 3) := by decide +kernel
theorem dX5_pushOverOldest_27 : decode cX5_pushOverOldest 27 = .ok (.iload_n 2, 1) := by decide +kernel
theorem dX5_pushOverOldest_28 : decode cX5_pushOverOldest 28 = .ok (.bipush 8, 2) := by decide +kernel
theorem dX5_pushOverOldest_30 : decode cX5_pushOverOldest 30 = .ok (.isub, 1) := by decide +kernel
theorem dX5_pushOverOldest_31 : decode cX5_pushOverOldest 31 = .ok (.aload_n 0, 1) := by decide +kernel
theorem dX5_pushOverOldest_32 : decode cX5_pushOverOldest 32 = .ok (.getfield 18, 3) := by decide +kernel
theorem dX5_pushOverOldest_35 : decode cX5_pushOverOldest 35 = .ok (.iload_n 2, 1) := by decide +kernel
theorem dX5_pushOverOldest_36 : decode cX5_pushOverOldest 36 = .ok (.invokestatic 35, 3) := by decide +kernel
theorem dX5_pushOverOldest_39 : decode cX5_pushOverOldest 39 = .ok (.invokestatic 28, 3) := by decide +kernel
theorem dX5_pushOverOldest_42 : decode cX5_pushOverOldest 42 = .ok (.iinc 2 1, 3) := by decide +kernel
theorem dX5_pushOverOldest_45 : decode cX5_pushOverOldest 45 = .ok (.goto (-31), 3) := by decide +kernel
theorem dX5_pushOverOldest_48 : decode cX5_pushOverOldest 48 = .ok (.aload_n 0, 1) := by decide +kernel
theorem dX5_pushOverOldest_49 : decode cX5_pushOverOldest 49 = .ok (.aload_n 0, 1) := by decide +kernel
theorem dX5_pushOverOldest_50 : decode cX5_pushOverOldest 50 = .ok (.getfield 15, 3) := by decide +kernel
theorem dX5_pushOverOldest_53 : decode cX5_pushOverOldest 53 = .ok (.iconst 1, 1) := by decide +kernel
theorem dX5_pushOverOldest_54 : decode cX5_pushOverOldest 54 = .ok (.isub, 1) := by decide +kernel
theorem dX5_pushOverOldest_55 : decode cX5_pushOverOldest 55 = .ok (.putfield 9, 3) := by decide +kernel
theorem dX5_pushOverOldest_58 : decode cX5_pushOverOldest 58 = .ok (.aload_n 0, 1) := by decide +kernel
theorem dX5_pushOverOldest_59 : decode cX5_pushOverOldest 59 = .ok (.aload_n 1, 1) := by decide +kernel
theorem dX5_pushOverOldest_60 : decode cX5_pushOverOldest 60 = .ok (.invokevirtual 39, 3) := by decide +kernel
theorem dX5_pushOverOldest_63 : decode cX5_pushOverOldest 63 = .ok (.return_, 1) := by decide +kernel
theorem dX5_popInto_0 : decode cX5_popInto 0 = .ok (.aload_n 0, 1) := by decide +kernel
theorem dX5_popInto_1 : decode cX5_popInto 1 = .ok (.getfield 9, 3) := by decide +kernel
theorem dX5_popInto_4 : decode cX5_popInto 4 = .ok (.ifCond .gt 4, 3) := by decide +kernel
theorem dX5_popInto_7 : decode cX5_popInto 7 = .ok (.return_, 1) := by decide +kernel
theorem dX5_popInto_8 : decode cX5_popInto 8 = .ok (.aload_n 0, 1) := by decide +kernel
theorem dX5_popInto_9 : decode cX5_popInto 9 = .ok (.dup, 1) := by decide +kernel
theorem dX5_popInto_10 : decode cX5_popInto 10 = .ok (.getfield 9, 3) := by decide +kernel
theorem dX5_popInto_13 : decode cX5_popInto 13 = .ok (.iconst 1, 1) := by decide +kernel
theorem dX5_popInto_14 : decode cX5_popInto 14 = .ok (.isub, 1) := by decide +kernel
theorem dX5_popInto_15 : decode cX5_popInto 15 = .ok (.putfield 9, 3) := by decide +kernel
theorem dX5_popInto_18 : decode cX5_popInto 18 = .ok (.aload_n 0, 1) := by decide +kernel
theorem dX5_popInto_19 : decode cX5_popInto 19 = .ok (.getfield 9, 3) := by decide +kernel
theorem dX5_popInto_22 : decode cX5_popInto 22 = .ok (.bipush 8, 2) := by decide +kernel
theorem dX5_popInto_24 : decode cX5_popInto 24 = .ok (.imul, 1) := by decide +kernel
theorem dX5_popInto_25 : decode cX5_popInto 25 = .ok (.istore_n 2, 1) := by decide +kernel
theorem dX5_popInto_26 : decode cX5_popInto 26 = .ok (.iconst 0, 1) := by decide +kernel
theorem dX5_popInto_27 : decode cX5_popInto 27 = .ok (.istore_n 3, 1) := by decide +kernel
theorem dX5_popInto_28 : decode cX5_popInto 28 = .ok (.iload_n 3, 1) := by decide +kernel
theorem dX5_popInto_29 : decode cX5_popInto 29 = .ok (.bipush 7, 2) := by decide +kernel
theorem dX5_popInto_31 : decode cX5_popInto 31 = .ok (.if_icmp .ge 27, 3) := by decide +kernel
theorem dX5_popInto_34 : decode cX5_popInto 34 = .ok (.aload_n 1, 1) := by decide +kernel
theorem dX5_popInto_35 : decode cX5_popInto 35 = .ok (.getfield 43, 3) := by decide +kernel
theorem dX5_popInto_38 : decode cX5_popInto 38 = .ok (.iload_n 3, 1) := by decide +kernel
theorem dX5_popInto_39 : decode cX5_popInto 39 = .ok (.aload_n 0, 1) := by decide +kernel
theorem dX5_popInto_40 : decode cX5_popInto 40 = .ok (.getfield 18, 3) := by decide +kernel
theorem dX5_popInto_43 : decode cX5_popInto 43 = .ok (.iload_n 2, 1) := by decide +kernel
theorem dX5_popInto_44 : decode cX5_popInto 44 = .ok (.iload_n 3, 1) := by decide +kernel
theorem dX5_popInto_45 : decode cX5_popInto 45 = .ok (.iadd, 1) := by decide +kernel
theorem dX5_popInto_46 : decode cX5_popInto 46 = .ok (.invokestatic 35, 3) := by decide +kernel
theorem dX5_popInto_49 : decode cX5_popInto 49 = .ok (.invokestatic 28, 3) := by decide +kernel
theorem dX5_popInto_52 : decode cX5_popInto 52 = .ok (.iinc 3 1, 3) := by decide +kernel
theorem dX5_popInto_55 : decode cX5_popInto 55 = .ok (.goto (-27), 3) := by decide +kernel
theorem dX5_popInto_58 : decode cX5_popInto 58 = .ok (.aload_n 1, 1) := by decide +kernel
theorem dX5_popInto_59 : decode cX5_popInto 59 = .ok (.aload_n 0, 1) := by decide +kernel
theorem dX5_popInto_60 : decode cX5_popInto 60 = .ok (.getfield 18, 3) := by decide +kernel
theorem dX5_popInto_63 : decode cX5_popInto 63 = .ok (.iload_n 2, 1) := by decide +kernel
theorem dX5_popInto_64 : decode cX5_popInto 64 = .ok (.bipush 7, 2) := by decide +kernel
theorem dX5_popInto_66 : decode cX5_popInto 66 = .ok (.iadd, 1) := by decide +kernel
theorem dX5_popInto_67 : decode cX5_popInto 67 = .ok (.invokestatic 35, 3) := by decide +kernel
theorem dX5_popInto_70 : decode cX5_popInto 70 = .ok (.putfield 32, 3) := by decide +kernel
theorem dX5_popInto_73 : decode cX5_popInto 73 = .ok (.return_, 1) := by decide +kernel
theorem dX6_init_0 : decode cX6_init 0 = .ok (.aload_n 0, 1) := by decide +kernel
theorem dX6_init_1 : decode cX6_init 1 = .ok (.invokespecial 3, 3) := by decide +kernel
theorem dX6_init_4 : decode cX6_init 4 = .ok (.aload_n 0, 1) := by decide +kernel
theorem dX6_init_5 : decode cX6_init 5 = .ok (.iconst 5, 1) := by decide +kernel
theorem dX6_init_6 : decode cX6_init 6 = .ok (.newarray .int, 2) := by decide +kernel
theorem dX6_init_8 : decode cX6_init 8 = .ok (.putfield 9, 3) := by decide +kernel
theorem dX6_init_11 : decode cX6_init 11 = .ok (.aload_n 0, 1) := by decide +kernel
theorem dX6_init_12 : decode cX6_init 12 = .ok (.iconst 0, 1) := by decide +kernel
theorem dX6_init_13 : decode cX6_init 13 = .ok (.putfield 15, 3) := by decide +kernel
theorem dX6_init_16 : decode cX6_init 16 = .ok (.return_, 1) := by decide +kernel
theorem dX6_readAll_0 : decode cX6_readAll 0 = .ok (.aload_n 2, 1) := by decide +kernel
theorem dX6_readAll_1 : decode cX6_readAll 1 = .ok (.invokevirtual 19, 3) := by decide +kernel
theorem dX6_readAll_4 : decode cX6_readAll 4 = .ok (.aload_n 0, 1) := by decide +kernel
theorem dX6_readAll_5 : decode cX6_readAll 5 = .ok (.iconst 0, 1) := by decide +kernel
theorem dX6_readAll_6 : decode cX6_readAll 6 = .ok (.putfield 15, 3) := by decide +kernel
theorem dX6_readAll_9 : decode cX6_readAll 9 = .ok (.iconst 0, 1) := by decide +kernel
theorem dX6_readAll_10 : decode cX6_readAll 10 = .ok (.istore_n 3, 1) := by decide +kernel
theorem dX6_readAll_11 : decode cX6_readAll 11 = .ok (.iload_n 3, 1) := by decide +kernel
theorem dX6_readAll_12 : decode cX6_readAll 12 = .ok (.sipush 300, 3) := by decide +kernel
theorem dX6_readAll_15 : decode cX6_readAll 15 = .ok (.if_icmp .ge 38, 3) := by decide +kernel
theorem dX6_readAll_18 : decode cX6_readAll 18 = .ok (.aload_n 0, 1) := by decide +kernel
theorem dX6_readAll_19 : decode cX6_readAll 19 = .ok (.getfield 15, 3) := by decide +kernel
theorem dX6_readAll_22 : decode cX6_readAll 22 = .ok (.aload_n 1, 1) := by decide +kernel
theorem dX6_readAll_23 : decode cX6_readAll 23 = .ok (.getfield 24, 3) := by decide +kernel
theorem dX6_readAll_26 : decode cX6_readAll 26 = .ok (.if_icmp .ge 27, 3) := by decide +kernel
theorem dX6_readAll_29 : decode cX6_readAll 29 = .ok (.aload_n 0, 1) := by decide +kernel
theorem dX6_readAll_30 : decode cX6_readAll 30 = .ok (.getfield 15, 3) := by decide +kernel
theorem dX6_readAll_33 : decode cX6_readAll 33 = .ok (.istore 4, 2) := by decide +kernel
theorem dX6_readAll_35 : decode cX6_readAll 35 = .ok (.aload_n 0, 1) := by decide +kernel
theorem dX6_readAll_36 : decode cX6_readAll 36 = .ok (.aload_n 1, 1) := by decide +kernel
theorem dX6_readAll_37 : decode cX6_readAll 37 = .ok (.aload_n 2, 1) := by decide +kernel
theorem dX6_readAll_38 : decode cX6_readAll 38 = .ok (.invokevirtual 29, 3) := by decide +kernel
theorem dX6_readAll_41 : decode cX6_readAll 41 = .ok (.ifCond .ne 6, 3) := by decide +kernel
theorem dX6_readAll_44 : decode cX6_readAll 44 = .ok (.iload 4, 2) := by decide +kernel
theorem dX6_readAll_46 : decode cX6_readAll 46 = .ok (.ireturn, 1) := by decide +kernel
theorem dX6_readAll_47 : decode cX6_readAll 47 = .ok (.iinc 3 1, 3) := by decide +kernel
theorem dX6_readAll_50 : decode cX6_readAll 50 = .ok (.goto (-39), 3) := by decide +kernel
theorem dX6_readAll_53 : decode cX6_readAll 53 = .ok (.bipush (-4), 2) := by decide +kernel
theorem dX6_readAll_55 : decode cX6_readAll 55 = .ok (.ireturn, 1) := by decide +kernel
theorem dX6_readItem_0 : decode cX6_readItem 0 = .ok (.aload_n 1, 1) := by decide +kernel
theorem dX6_readItem_1 : decode cX6_readItem 1 = .ok (.aload_n 0, 1) := by decide +kernel
theorem dX6_readItem_2 : decode cX6_readItem 2 = .ok (.getfield 15, 3) := by decide +kernel
theorem dX6_readItem_5 : decode cX6_readItem 5 = .ok (.invokevirtual 33, 3) := by decide +kernel
theorem dX6_readItem_8 : decode cX6_readItem 8 = .ok (.istore_n 3, 1) := by decide +kernel
theorem dX6_readItem_9 : decode cX6_readItem 9 = .ok (.aload_n 0, 1) := by decide +kernel
theorem dX6_readItem_10 : decode cX6_readItem 10 = .ok (.dup, 1) := by decide +kernel
theorem dX6_readItem_11 : decode cX6_readItem 11 = .ok (.getfield 15, 3) := by decide +kernel
theorem dX6_readItem_14 : decode cX6_readItem 14 = .ok (.iconst 1, 1) := by decide +kernel
theorem dX6_readItem_15 : decode cX6_readItem 15 = .ok (.iadd, 1) := by decide +kernel
theorem dX6_readItem_16 : decode cX6_readItem 16 = .ok (.putfield 15, 3) := by decide +kernel
theorem dX6_readItem_19 : decode cX6_readItem 19 = .ok (.iload_n 3, 1) := by decide +kernel
theorem dX6_readItem_20 : decode cX6_readItem 20 = .ok (.tableswitch 158 111 115 #[98, 36, 158, 158, 128], 36) := by decide +kernel
theorem dX6_readItem_56 : decode cX6_readItem 56 = .ok (.aload_n 0, 1) := by decide +kernel
theorem dX6_readItem_57 : decode cX6_readItem 57 = .ok (.aload_n 1, 1) := by decide +kernel
theorem dX6_readItem_58 : decode cX6_readItem 58 = .ok (.iconst 5, 1) := by decide +kernel
theorem dX6_readItem_59 : decode cX6_readItem 59 = .ok (.invokevirtual 37, 3) := by decide +kernel
theorem dX6_readItem_62 : decode cX6_readItem 62 = .ok (.ifCond .eq 54, 3) := by decide +kernel
theorem dX6_readItem_65 : decode cX6_readItem 65 = .ok (.aload_n 2, 1) := by decide +kernel
theorem dX6_readItem_66 : decode cX6_readItem 66 = .ok (.aload_n 0, 1) := by decide +kernel
theorem dX6_readItem_67 : decode cX6_readItem 67 = .ok (.getfield 9, 3) := by decide +kernel
theorem dX6_readItem_70 : decode cX6_readItem 70 = .ok (.iconst 0, 1) := by decide +kernel
theorem dX6_readItem_71 : decode cX6_readItem 71 = .ok (.invokestatic 41, 3) := by decide +kernel
theorem dX6_readItem_74 : decode cX6_readItem 74 = .ok (.aload_n 0, 1) := by decide +kernel
theorem dX6_readItem_75 : decode cX6_readItem 75 = .ok (.getfield 9, 3) := by decide +kernel
theorem dX6_readItem_78 : decode cX6_readItem 78 = .ok (.iconst 1, 1) := by decide +kernel
theorem dX6_readItem_79 : decode cX6_readItem 79 = .ok (.invokestatic 41, 3) := by decide +kernel
theorem dX6_readItem_82 : decode cX6_readItem 82 = .ok (.aload_n 0, 1) := by decide +kernel
theorem dX6_readItem_83 : decode cX6_readItem 83 = .ok (.getfield 9, 3) := by decide +kernel
theorem dX6_readItem_86 : decode cX6_readItem 86 = .ok (.iconst 2, 1) := by decide +kernel
theorem dX6_readItem_87 : decode cX6_readItem 87 = .ok (.invokestatic 41, 3) := by decide +kernel
theorem dX6_readItem_90 : decode cX6_readItem 90 = .ok (.aload_n 0, 1) := by decide +kernel
theorem dX6_readItem_91 : decode cX6_readItem 91 = .ok (.getfield 9, 3) := by decide +kernel
theorem dX6_readItem_94 : decode cX6_readItem 94 = .ok (.iconst 3, 1) := by decide +kernel
theorem dX6_readItem_95 : decode cX6_readItem 95 = .ok (.invokestatic 41, 3) := by decide +kernel
theorem dX6_readItem_98 : decode cX6_readItem 98 = .ok (.aload_n 0, 1) := by decide +kernel
theorem dX6_readItem_99 : decode cX6_readItem 99 = .ok (.getfield 9, 3) := by decide +kernel
theorem dX6_readItem_102 : decode cX6_readItem 102 = .ok (.iconst 4, 1) := by decide +kernel
theorem dX6_readItem_103 : decode cX6_readItem 103 = .ok (.invokestatic 41, 3) := by decide +kernel
theorem dX6_readItem_106 : decode cX6_readItem 106 = .ok (.invokevirtual 45, 3) := by decide +kernel
theorem dX6_readItem_109 : decode cX6_readItem 109 = .ok (.ifCond .eq 7, 3) := by decide +kernel
theorem dX6_readItem_112 : decode cX6_readItem 112 = .ok (.iconst 1, 1) := by decide +kernel
theorem dX6_readItem_113 : decode cX6_readItem 113 = .ok (.goto 4, 3) := by decide +kernel
theorem dX6_readItem_116 : decode cX6_readItem 116 = .ok (.iconst 0, 1) := by decide +kernel
theorem dX6_readItem_117 : decode cX6_readItem 117 = .ok (.ireturn, 1) := by decide +kernel
theorem dX6_readItem_118 : decode cX6_readItem 118 = .ok (.aload_n 0, 1) := by decide +kernel
theorem dX6_readItem_119 : decode cX6_readItem 119 = .ok (.aload_n 1, 1) := by decide +kernel
theorem dX6_readItem_120 : decode cX6_readItem 120 = .ok (.iconst 1, 1) := by decide +kernel
theorem dX6_readItem_121 : decode cX6_readItem 121 = .ok (.invokevirtual 37, 3) := by decide +kernel
theorem dX6_readItem_124 : decode cX6_readItem 124 = .ok (.ifCond .eq 22, 3) := by decide +kernel
theorem dX6_readItem_127 : decode cX6_readItem 127 = .ok (.aload_n 2, 1) := by decide +kernel
theorem dX6_readItem_128 : decode cX6_readItem 128 = .ok (.aload_n 0, 1) := by decide +kernel
theorem dX6_readItem_129 : decode cX6_readItem 129 = .ok (.getfield 9, 3) := by decide +kernel
theorem dX6_readItem_132 : decode cX6_readItem 132 = .ok (.iconst 0, 1) := by decide +kernel
theorem dX6_readItem_133 : decode cX6_readItem 133 = .ok (.invokestatic 41, 3) := by decide +kernel
theorem dX6_readItem_136 : decode cX6_readItem 136 = .ok (.invokevirtual 49, 3) := by decide +kernel
theorem dX6_readItem_139 : decode cX6_readItem 139 = .ok (.ifCond .eq 7, 3) := by decide +kernel
theorem dX6_readItem_142 : decode cX6_readItem 142 = .ok (.iconst 1, 1) := by decide +kernel
theorem dX6_readItem_143 : decode cX6_readItem 143 = .ok (.goto 4, 3) := by decide +kernel
theorem dX6_readItem_146 : decode cX6_readItem 146 = .ok (.iconst 0, 1) := by decide +kernel
theorem dX6_readItem_147 : decode cX6_readItem 147 = .ok (.ireturn, 1) := by decide +kernel
theorem dX6_readItem_148 : decode cX6_readItem 148 = .ok (.aload_n 0, 1) := by decide +kernel
theorem dX6_readItem_149 : decode cX6_readItem 149 = .ok (.aload_n 1, 1) := by decide +kernel
theorem dX6_readItem_150 : decode cX6_readItem 150 = .ok (.iconst 1, 1) := by decide +kernel
theorem dX6_readItem_151 : decode cX6_readItem 151 = .ok (.invokevirtual 37, 3) := by decide +kernel
theorem dX6_readItem_154 : decode cX6_readItem 154 = .ok (.ifCond .eq 22, 3) := by decide +kernel
theorem dX6_readItem_157 : decode cX6_readItem 157 = .ok (.aload_n 2, 1) := by decide +kernel
theorem dX6_readItem_158 : decode cX6_readItem 158 = .ok (.aload_n 0, 1) := by decide +kernel
theorem dX6_readItem_159 : decode cX6_readItem 159 = .ok (.getfield 9, 3) := by decide +kernel
theorem dX6_readItem_162 : decode cX6_readItem 162 = .ok (.iconst 0, 1) := by decide +kernel
theorem dX6_readItem_163 : decode cX6_readItem 163 = .ok (.invokestatic 41, 3) := by decide +kernel
theorem dX6_readItem_166 : decode cX6_readItem 166 = .ok (.invokevirtual 53, 3) := by decide +kernel
theorem dX6_readItem_169 : decode cX6_readItem 169 = .ok (.ifCond .eq 7, 3) := by decide +kernel
theorem dX6_readItem_172 : decode cX6_readItem 172 = .ok (.iconst 1, 1) := by decide +kernel
theorem dX6_readItem_173 : decode cX6_readItem 173 = .ok (.goto 4, 3) := by decide +kernel
theorem dX6_readItem_176 : decode cX6_readItem 176 = .ok (.iconst 0, 1) := by decide +kernel
theorem dX6_readItem_177 : decode cX6_readItem 177 = .ok (.ireturn, 1) := by decide +kernel
theorem dX6_readItem_178 : decode cX6_readItem 178 = .ok (.iconst 0, 1) := by decide +kernel
theorem dX6_readItem_179 : decode cX6_readItem 179 = .ok (.ireturn, 1) := by decide +kernel
theorem dX6_readNumbers_0 : decode cX6_readNumbers 0 = .ok (.iconst 0, 1) := by decide +kernel
theorem dX6_readNumbers_1 : decode cX6_readNumbers 1 = .ok (.istore_n 3, 1) := by decide +kernel
theorem dX6_readNumbers_2 : decode cX6_readNumbers 2 = .ok (.iload_n 3, 1) := by decide +kernel
theorem dX6_readNumbers_3 : decode cX6_readNumbers 3 = .ok (.iload_n 2, 1) := by decide +kernel
theorem dX6_readNumbers_4 : decode cX6_readNumbers 4 = .ok (.if_icmp .ge 68, 3) := by decide +kernel
theorem dX6_readNumbers_7 : decode cX6_readNumbers 7 = .ok (.aload_n 0, 1) := by decide +kernel
theorem dX6_readNumbers_8 : decode cX6_readNumbers 8 = .ok (.aload_n 1, 1) := by decide +kernel
theorem dX6_readNumbers_9 : decode cX6_readNumbers 9 = .ok (.invokevirtual 56, 3) := by decide +kernel
theorem dX6_readNumbers_12 : decode cX6_readNumbers 12 = .ok (.istore 4, 2) := by decide +kernel
theorem dX6_readNumbers_14 : decode cX6_readNumbers 14 = .ok (.iload 4, 2) := by decide +kernel
theorem dX6_readNumbers_16 : decode cX6_readNumbers 16 = .ok (.ifCond .lt 28, 3) := by decide +kernel
theorem dX6_readNumbers_19 : decode cX6_readNumbers 19 = .ok (.aload_n 1, 1) := by decide +kernel
theorem dX6_readNumbers_20 : decode cX6_readNumbers 20 = .ok (.aload_n 0, 1) := by decide +kernel
theorem dX6_readNumbers_21 : decode cX6_readNumbers 21 = .ok (.getfield 15, 3) := by decide +kernel
theorem dX6_readNumbers_24 : decode cX6_readNumbers 24 = .ok (.invokevirtual 33, 3) := by decide +kernel
theorem dX6_readNumbers_27 : decode cX6_readNumbers 27 = .ok (.iload_n 3, 1) := by decide +kernel
theorem dX6_readNumbers_28 : decode cX6_readNumbers 28 = .ok (.iconst 1, 1) := by decide +kernel
theorem dX6_readNumbers_29 : decode cX6_readNumbers 29 = .ok (.iadd, 1) := by decide +kernel
theorem dX6_readNumbers_30 : decode cX6_readNumbers 30 = .ok (.iload_n 2, 1) := by decide +kernel
theorem dX6_readNumbers_31 : decode cX6_readNumbers 31 = .ok (.if_icmp .ge 8, 3) := by decide +kernel
theorem dX6_readNumbers_34 : decode cX6_readNumbers 34 = .ok (.bipush 44, 2) := by decide +kernel
theorem dX6_readNumbers_36 : decode cX6_readNumbers 36 = .ok (.goto 5, 3) := by decide +kernel
theorem dX6_readNumbers_39 : decode cX6_readNumbers 39 = .ok (.bipush 59, 2) := by decide +kernel
theorem dX6_readNumbers_41 : decode cX6_readNumbers 41 = .ok (.if_icmp .eq 5, 3) := by decide +kernel
theorem dX6_readNumbers_44 : decode cX6_readNumbers 44 = .ok (.iconst 0, 1) := by decide +kernel
theorem dX6_readNumbers_45 : decode cX6_readNumbers 45 = .ok (.ireturn, 1) := by decide +kernel
theorem dX6_readNumbers_46 : decode cX6_readNumbers 46 = .ok (.aload_n 0, 1) := by decide +kernel
theorem dX6_readNumbers_47 : decode cX6_readNumbers 47 = .ok (.dup, 1) := by decide +kernel
theorem dX6_readNumbers_48 : decode cX6_readNumbers 48 = .ok (.getfield 15, 3) := by decide +kernel
theorem dX6_readNumbers_51 : decode cX6_readNumbers 51 = .ok (.iconst 1, 1) := by decide +kernel
theorem dX6_readNumbers_52 : decode cX6_readNumbers 52 = .ok (.iadd, 1) := by decide +kernel
theorem dX6_readNumbers_53 : decode cX6_readNumbers 53 = .ok (.putfield 15, 3) := by decide +kernel
theorem dX6_readNumbers_56 : decode cX6_readNumbers 56 = .ok (.aload_n 0, 1) := by decide +kernel
theorem dX6_readNumbers_57 : decode cX6_readNumbers 57 = .ok (.getfield 9, 3) := by decide +kernel
theorem dX6_readNumbers_60 : decode cX6_readNumbers 60 = .ok (.iload_n 3, 1) := by decide +kernel
theorem dX6_readNumbers_61 : decode cX6_readNumbers 61 = .ok (.iload 4, 2) := by decide +kernel
theorem dX6_readNumbers_63 : decode cX6_readNumbers 63 = .ok (.invokestatic 60, 3) := by decide +kernel
theorem dX6_readNumbers_66 : decode cX6_readNumbers 66 = .ok (.iinc 3 1, 3) := by decide +kernel
theorem dX6_readNumbers_69 : decode cX6_readNumbers 69 = .ok (.goto (-67), 3) := by decide +kernel
theorem dX6_readNumbers_72 : decode cX6_readNumbers 72 = .ok (.iconst 1, 1) := by decide +kernel
theorem dX6_readNumbers_73 : decode cX6_readNumbers 73 = .ok (.ireturn, 1) := by decide +kernel
theorem dX6_readNumber_0 : decode cX6_readNumber 0 = .ok (.aload_n 1, 1) := by decide +kernel
theorem dX6_readNumber_1 : decode cX6_readNumber 1 = .ok (.aload_n 0, 1) := by decide +kernel
theorem dX6_readNumber_2 : decode cX6_readNumber 2 = .ok (.getfield 15, 3) := by decide +kernel
theorem dX6_readNumber_5 : decode cX6_readNumber 5 = .ok (.invokevirtual 33, 3) := by decide +kernel
theorem dX6_readNumber_8 : decode cX6_readNumber 8 = .ok (.invokestatic 64, 3) := by decide +kernel
theorem dX6_readNumber_11 : decode cX6_readNumber 11 = .ok (.istore_n 2, 1) := by decide +kernel
theorem dX6_readNumber_12 : decode cX6_readNumber 12 = .ok (.iload_n 2, 1) := by decide +kernel
theorem dX6_readNumber_13 : decode cX6_readNumber 13 = .ok (.ifCond .ge 5, 3) := by decide +kernel
theorem dX6_readNumber_16 : decode cX6_readNumber 16 = .ok (.iconst (-1), 1) := by decide +kernel
theorem dX6_readNumber_17 : decode cX6_readNumber 17 = .ok (.ireturn, 1) := by decide +kernel
theorem dX6_readNumber_18 : decode cX6_readNumber 18 = .ok (.aload_n 0, 1) := by decide +kernel
theorem dX6_readNumber_19 : decode cX6_readNumber 19 = .ok (.dup, 1) := by decide +kernel
theorem dX6_readNumber_20 : decode cX6_readNumber 20 = .ok (.getfield 15, 3) := by decide +kernel
theorem dX6_readNumber_23 : decode cX6_readNumber 23 = .ok (.iconst 1, 1) := by decide +kernel
theorem dX6_readNumber_24 : decode cX6_readNumber 24 = .ok (.iadd, 1) := by decide +kernel
theorem dX6_readNumber_25 : decode cX6_readNumber 25 = .ok (.putfield 15, 3) := by decide +kernel
theorem dX6_readNumber_28 : decode cX6_readNumber 28 = .ok (.aload_n 1, 1) := by decide +kernel
theorem dX6_readNumber_29 : decode cX6_readNumber 29 = .ok (.aload_n 0, 1) := by decide +kernel
theorem dX6_readNumber_30 : decode cX6_readNumber 30 = .ok (.getfield 15, 3) := by decide +kernel
theorem dX6_readNumber_33 : decode cX6_readNumber 33 = .ok (.invokevirtual 33, 3) := by decide +kernel
theorem dX6_readNumber_36 : decode cX6_readNumber 36 = .ok (.invokestatic 64, 3) := by decide +kernel
theorem dX6_readNumber_39 : decode cX6_readNumber 39 = .ok (.istore_n 3, 1) := by decide +kernel
theorem dX6_readNumber_40 : decode cX6_readNumber 40 = .ok (.iload_n 3, 1) := by decide +kernel
theorem dX6_readNumber_41 : decode cX6_readNumber 41 = .ok (.ifCond .ge 5, 3) := by decide +kernel
theorem dX6_readNumber_44 : decode cX6_readNumber 44 = .ok (.iload_n 2, 1) := by decide +kernel
theorem dX6_readNumber_45 : decode cX6_readNumber 45 = .ok (.ireturn, 1) := by decide +kernel
theorem dX6_readNumber_46 : decode cX6_readNumber 46 = .ok (.aload_n 0, 1) := by decide +kernel
theorem dX6_readNumber_47 : decode cX6_readNumber 47 = .ok (.dup, 1) := by decide +kernel
theorem dX6_readNumber_48 : decode cX6_readNumber 48 = .ok (.getfield 15, 3) := by decide +kernel
theorem dX6_readNumber_51 : decode cX6_readNumber 51 = .ok (.iconst 1, 1) := by decide +kernel
theorem dX6_readNumber_52 : decode cX6_readNumber 52 = .ok (.iadd, 1) := by decide +kernel
theorem dX6_readNumber_53 : decode cX6_readNumber 53 = .ok (.putfield 15, 3) := by decide +kernel
theorem dX6_readNumber_56 : decode cX6_readNumber 56 = .ok (.bipush 10, 2) := by decide +kernel
theorem dX6_readNumber_58 : decode cX6_readNumber 58 = .ok (.iload_n 2, 1) := by decide +kernel
theorem dX6_readNumber_59 : decode cX6_readNumber 59 = .ok (.imul, 1) := by decide +kernel
theorem dX6_readNumber_60 : decode cX6_readNumber 60 = .ok (.iload_n 3, 1) := by decide +kernel
theorem dX6_readNumber_61 : decode cX6_readNumber 61 = .ok (.iadd, 1) := by decide +kernel
theorem dX6_readNumber_62 : decode cX6_readNumber 62 = .ok (.ireturn, 1) := by decide +kernel
theorem dX6_figure_0 : decode cX6_figure 0 = .ok (.iload_n 0, 1) := by decide +kernel
theorem dX6_figure_1 : decode cX6_figure 1 = .ok (.bipush 48, 2) := by decide +kernel
theorem dX6_figure_3 : decode cX6_figure 3 = .ok (.if_icmp .lt 16, 3) := by decide +kernel
theorem dX6_figure_6 : decode cX6_figure 6 = .ok (.iload_n 0, 1) := by decide +kernel
theorem dX6_figure_7 : decode cX6_figure 7 = .ok (.bipush 57, 2) := by decide +kernel
theorem dX6_figure_9 : decode cX6_figure 9 = .ok (.if_icmp .gt 10, 3) := by decide +kernel
theorem dX6_figure_12 : decode cX6_figure 12 = .ok (.iload_n 0, 1) := by decide +kernel
theorem dX6_figure_13 : decode cX6_figure 13 = .ok (.bipush 48, 2) := by decide +kernel
theorem dX6_figure_15 : decode cX6_figure 15 = .ok (.isub, 1) := by decide +kernel
theorem dX6_figure_16 : decode cX6_figure 16 = .ok (.goto 4, 3) := by decide +kernel
theorem dX6_figure_19 : decode cX6_figure 19 = .ok (.iconst (-1), 1) := by decide +kernel
theorem dX6_figure_20 : decode cX6_figure 20 = .ok (.ireturn, 1) := by decide +kernel
theorem dX7_init_0 : decode cX7_init 0 = .ok (.aload_n 0, 1) := by decide +kernel
theorem dX7_init_1 : decode cX7_init 1 = .ok (.invokespecial 3, 3) := by decide +kernel
theorem dX7_init_4 : decode cX7_init 4 = .ok (.aload_n 0, 1) := by decide +kernel
theorem dX7_init_5 : decode cX7_init 5 = .ok (.bipush 8, 2) := by decide +kernel
theorem dX7_init_7 : decode cX7_init 7 = .ok (.newarray .int, 2) := by decide +kernel
theorem dX7_init_9 : decode cX7_init 9 = .ok (.putfield 9, 3) := by decide +kernel
theorem dX7_init_12 : decode cX7_init 12 = .ok (.aload_n 0, 1) := by decide +kernel
theorem dX7_init_13 : decode cX7_init 13 = .ok (.bipush 8, 2) := by decide +kernel
theorem dX7_init_15 : decode cX7_init 15 = .ok (.newarray .int, 2) := by decide +kernel
theorem dX7_init_17 : decode cX7_init 17 = .ok (.putfield 15, 3) := by decide +kernel
theorem dX7_init_20 : decode cX7_init 20 = .ok (.aload_n 0, 1) := by decide +kernel
theorem dX7_init_21 : decode cX7_init 21 = .ok (.bipush 8, 2) := by decide +kernel
theorem dX7_init_23 : decode cX7_init 23 = .ok (.newarray .boolean, 2) := by decide +kernel
theorem dX7_init_25 : decode cX7_init 25 = .ok (.putfield 18, 3) := by decide +kernel
theorem dX7_init_28 : decode cX7_init 28 = .ok (.aload_n 0, 1) := by decide +kernel
theorem dX7_init_29 : decode cX7_init 29 = .ok (.iconst 0, 1) := by decide +kernel
theorem dX7_init_30 : decode cX7_init 30 = .ok (.putfield 22, 3) := by decide +kernel
theorem dX7_init_33 : decode cX7_init 33 = .ok (.return_, 1) := by decide +kernel
theorem dX7_add_0 : decode cX7_add 0 = .ok (.aload_n 0, 1) := by decide +kernel
theorem dX7_add_1 : decode cX7_add 1 = .ok (.getfield 22, 3) := by decide +kernel
theorem dX7_add_4 : decode cX7_add 4 = .ok (.ifCond .lt 15, 3) := by decide +kernel
theorem dX7_add_7 : decode cX7_add 7 = .ok (.aload_n 0, 1) := by decide +kernel
theorem dX7_add_8 : decode cX7_add 8 = .ok (.getfield 22, 3) := by decide +kernel
theorem dX7_add_11 : decode cX7_add 11 = .ok (.aload_n 0, 1) := by decide +kernel
theorem dX7_add_12 : decode cX7_add 12 = .ok (.getfield 18, 3) := by decide +kernel
theorem dX7_add_15 : decode cX7_add 15 = .ok (.arraylength, 1) := by decide +kernel
theorem dX7_add_16 : decode cX7_add 16 = .ok (.if_icmp .lt 4, 3) := by decide +kernel
theorem dX7_add_19 : decode cX7_add 19 = .ok (.return_, 1) := by decide +kernel
theorem dX7_add_20 : decode cX7_add 20 = .ok (.aload_n 0, 1) := by decide +kernel
theorem dX7_add_21 : decode cX7_add 21 = .ok (.getfield 9, 3) := by decide +kernel
theorem dX7_add_24 : decode cX7_add 24 = .ok (.aload_n 0, 1) := by decide +kernel
theorem dX7_add_25 : decode cX7_add 25 = .ok (.getfield 22, 3) := by decide +kernel
theorem dX7_add_28 : decode cX7_add 28 = .ok (.iload_n 1, 1) := by decide +kernel
theorem dX7_add_29 : decode cX7_add 29 = .ok (.invokestatic 26, 3) := by decide +kernel
theorem dX7_add_32 : decode cX7_add 32 = .ok (.aload_n 0, 1) := by decide +kernel
theorem dX7_add_33 : decode cX7_add 33 = .ok (.getfield 15, 3) := by decide +kernel
theorem dX7_add_36 : decode cX7_add 36 = .ok (.aload_n 0, 1) := by decide +kernel
theorem dX7_add_37 : decode cX7_add 37 = .ok (.getfield 22, 3) := by decide +kernel
theorem dX7_add_40 : decode cX7_add 40 = .ok (.iload_n 2, 1) := by decide +kernel
theorem dX7_add_41 : decode cX7_add 41 = .ok (.invokestatic 26, 3) := by decide +kernel
theorem dX7_add_44 : decode cX7_add 44 = .ok (.aload_n 0, 1) := by decide +kernel
theorem dX7_add_45 : decode cX7_add 45 = .ok (.getfield 18, 3) := by decide +kernel
theorem dX7_add_48 : decode cX7_add 48 = .ok (.aload_n 0, 1) := by decide +kernel
theorem dX7_add_49 : decode cX7_add 49 = .ok (.getfield 22, 3) := by decide +kernel
theorem dX7_add_52 : decode cX7_add 52 = .ok (.iload_n 3, 1) := by decide +kernel
theorem dX7_add_53 : decode cX7_add 53 = .ok (.bastore, 1) := by decide +kernel
theorem dX7_add_54 : decode cX7_add 54 = .ok (.aload_n 0, 1) := by decide +kernel
theorem dX7_add_55 : decode cX7_add 55 = .ok (.dup, 1) := by decide +kernel
theorem dX7_add_56 : decode cX7_add 56 = .ok (.getfield 22, 3) := by decide +kernel
theorem dX7_add_59 : decode cX7_add 59 = .ok (.iconst 1, 1) := by decide +kernel
theorem dX7_add_60 : decode cX7_add 60 = .ok (.iadd, 1) := by decide +kernel
theorem dX7_add_61 : decode cX7_add 61 = .ok (.putfield 22, 3) := by decide +kernel
theorem dX7_add_64 : decode cX7_add 64 = .ok (.return_, 1) := by decide +kernel
theorem dX7_fit_0 : decode cX7_fit 0 = .ok (.iconst 0, 1) := by decide +kernel
theorem dX7_fit_1 : decode cX7_fit 1 = .ok (.istore 4, 2) := by decide +kernel
theorem dX7_fit_3 : decode cX7_fit 3 = .ok (.iload 4, 2) := by decide +kernel
theorem dX7_fit_5 : decode cX7_fit 5 = .ok (.aload_n 0, 1) := by decide +kernel
theorem dX7_fit_6 : decode cX7_fit 6 = .ok (.getfield 22, 3) := by decide +kernel
theorem dX7_fit_9 : decode cX7_fit 9 = .ok (.if_icmp .ge 89, 3) := by decide +kernel
theorem dX7_fit_12 : decode cX7_fit 12 = .ok (.iload 4, 2) := by decide +kernel
theorem dX7_fit_14 : decode cX7_fit 14 = .ok (.aload_n 0, 1) := by decide +kernel
theorem dX7_fit_15 : decode cX7_fit 15 = .ok (.getfield 18, 3) := by decide +kernel
theorem dX7_fit_18 : decode cX7_fit 18 = .ok (.arraylength, 1) := by decide +kernel
theorem dX7_fit_19 : decode cX7_fit 19 = .ok (.if_icmp .ge 79, 3) := by decide +kernel
theorem dX7_fit_22 : decode cX7_fit 22 = .ok (.aload_n 0, 1) := by decide +kernel
theorem dX7_fit_23 : decode cX7_fit 23 = .ok (.getfield 15, 3) := by decide +kernel
theorem dX7_fit_26 : decode cX7_fit 26 = .ok (.iload 4, 2) := by decide +kernel
theorem dX7_fit_28 : decode cX7_fit 28 = .ok (.invokestatic 30, 3) := by decide +kernel
theorem dX7_fit_31 : decode cX7_fit 31 = .ok (.istore 5, 2) := by decide +kernel
theorem dX7_fit_33 : decode cX7_fit 33 = .ok (.aload_n 3, 1) := by decide +kernel
theorem dX7_fit_34 : decode cX7_fit 34 = .ok (.iload_n 1, 1) := by decide +kernel
theorem dX7_fit_35 : decode cX7_fit 35 = .ok (.iconst 0, 1) := by decide +kernel
theorem dX7_fit_36 : decode cX7_fit 36 = .ok (.invokevirtual 34, 3) := by decide +kernel
theorem dX7_fit_39 : decode cX7_fit 39 = .ok (.iload_n 2, 1) := by decide +kernel
theorem dX7_fit_40 : decode cX7_fit 40 = .ok (.aload_n 3, 1) := by decide +kernel
theorem dX7_fit_41 : decode cX7_fit 41 = .ok (.iload_n 1, 1) := by decide +kernel
theorem dX7_fit_42 : decode cX7_fit 42 = .ok (.iconst 2, 1) := by decide +kernel
theorem dX7_fit_43 : decode cX7_fit 43 = .ok (.invokevirtual 34, 3) := by decide +kernel
theorem dX7_fit_46 : decode cX7_fit 46 = .ok (.bipush 50, 2) := by decide +kernel
theorem dX7_fit_48 : decode cX7_fit 48 = .ok (.iload 5, 2) := by decide +kernel
theorem dX7_fit_50 : decode cX7_fit 50 = .ok (.invokestatic 40, 3) := by decide +kernel
theorem dX7_fit_53 : decode cX7_fit 53 = .ok (.istore 6, 2) := by decide +kernel
theorem dX7_fit_55 : decode cX7_fit 55 = .ok (.aload_n 0, 1) := by decide +kernel
theorem dX7_fit_56 : decode cX7_fit 56 = .ok (.getfield 9, 3) := by decide +kernel
theorem dX7_fit_59 : decode cX7_fit 59 = .ok (.iload 4, 2) := by decide +kernel
theorem dX7_fit_61 : decode cX7_fit 61 = .ok (.invokestatic 30, 3) := by decide +kernel
theorem dX7_fit_64 : decode cX7_fit 64 = .ok (.iload_n 1, 1) := by decide +kernel
theorem dX7_fit_65 : decode cX7_fit 65 = .ok (.if_icmp .ne 27, 3) := by decide +kernel
theorem dX7_fit_68 : decode cX7_fit 68 = .ok (.iload 6, 2) := by decide +kernel
theorem dX7_fit_70 : decode cX7_fit 70 = .ok (.iload 5, 2) := by decide +kernel
theorem dX7_fit_72 : decode cX7_fit 72 = .ok (.if_icmp .le 7, 3) := by decide +kernel
theorem dX7_fit_75 : decode cX7_fit 75 = .ok (.iconst 1, 1) := by decide +kernel
theorem dX7_fit_76 : decode cX7_fit 76 = .ok (.goto 4, 3) := by decide +kernel
theorem dX7_fit_79 : decode cX7_fit 79 = .ok (.iconst 0, 1) := by decide +kernel
theorem dX7_fit_80 : decode cX7_fit 80 = .ok (.aload_n 0, 1) := by decide +kernel
theorem dX7_fit_81 : decode cX7_fit 81 = .ok (.getfield 18, 3) := by decide +kernel
theorem dX7_fit_84 : decode cX7_fit 84 = .ok (.iload 4, 2) := by decide +kernel
theorem dX7_fit_86 : decode cX7_fit 86 = .ok (.baload, 1) := by decide +kernel
theorem dX7_fit_87 : decode cX7_fit 87 = .ok (.if_icmp .eq 5, 3) := by decide +kernel
theorem dX7_fit_90 : decode cX7_fit 90 = .ok (.iconst 0, 1) := by decide +kernel
theorem dX7_fit_91 : decode cX7_fit 91 = .ok (.ireturn, 1) := by decide +kernel
theorem dX7_fit_92 : decode cX7_fit 92 = .ok (.iinc 4 1, 3) := by decide +kernel
theorem dX7_fit_95 : decode cX7_fit 95 = .ok (.goto (-92), 3) := by decide +kernel
theorem dX7_fit_98 : decode cX7_fit 98 = .ok (.iconst 1, 1) := by decide +kernel
theorem dX7_fit_99 : decode cX7_fit 99 = .ok (.ireturn, 1) := by decide +kernel
theorem dX8_init_0 : decode cX8_init 0 = .ok (.aload_n 0, 1) := by decide +kernel
theorem dX8_init_1 : decode cX8_init 1 = .ok (.invokespecial 3, 3) := by decide +kernel
theorem dX8_init_4 : decode cX8_init 4 = .ok (.aload_n 0, 1) := by decide +kernel
theorem dX8_init_5 : decode cX8_init 5 = .ok (.sipush 300, 3) := by decide +kernel
theorem dX8_init_8 : decode cX8_init 8 = .ok (.newarray .byte, 2) := by decide +kernel
theorem dX8_init_10 : decode cX8_init 10 = .ok (.putfield 9, 3) := by decide +kernel
theorem dX8_init_13 : decode cX8_init 13 = .ok (.aload_n 0, 1) := by decide +kernel
theorem dX8_init_14 : decode cX8_init 14 = .ok (.iconst 0, 1) := by decide +kernel
theorem dX8_init_15 : decode cX8_init 15 = .ok (.putfield 15, 3) := by decide +kernel
theorem dX8_init_18 : decode cX8_init 18 = .ok (.return_, 1) := by decide +kernel
theorem dX8_hasRoomFor_0 : decode cX8_hasRoomFor 0 = .ok (.aload_n 0, 1) := by decide +kernel
theorem dX8_hasRoomFor_1 : decode cX8_hasRoomFor 1 = .ok (.getfield 15, 3) := by decide +kernel
theorem dX8_hasRoomFor_4 : decode cX8_hasRoomFor 4 = .ok (.iload_n 1, 1) := by decide +kernel
theorem dX8_hasRoomFor_5 : decode cX8_hasRoomFor 5 = .ok (.iadd, 1) := by decide +kernel
theorem dX8_hasRoomFor_6 : decode cX8_hasRoomFor 6 = .ok (.sipush 300, 3) := by decide +kernel
theorem dX8_hasRoomFor_9 : decode cX8_hasRoomFor 9 = .ok (.if_icmp .gt 7, 3) := by decide +kernel
theorem dX8_hasRoomFor_12 : decode cX8_hasRoomFor 12 = .ok (.iconst 1, 1) := by decide +kernel
theorem dX8_hasRoomFor_13 : decode cX8_hasRoomFor 13 = .ok (.goto 4, 3) := by decide +kernel
theorem dX8_hasRoomFor_16 : decode cX8_hasRoomFor 16 = .ok (.iconst 0, 1) := by decide +kernel
theorem dX8_hasRoomFor_17 : decode cX8_hasRoomFor 17 = .ok (.ireturn, 1) := by decide +kernel
theorem dX8_append_0 : decode cX8_append 0 = .ok (.aload_n 0, 1) := by decide +kernel
theorem dX8_append_1 : decode cX8_append 1 = .ok (.getfield 15, 3) := by decide +kernel
theorem dX8_append_4 : decode cX8_append 4 = .ok (.ifCond .lt 36, 3) := by decide +kernel
theorem dX8_append_7 : decode cX8_append 7 = .ok (.aload_n 0, 1) := by decide +kernel
theorem dX8_append_8 : decode cX8_append 8 = .ok (.getfield 15, 3) := by decide +kernel
theorem dX8_append_11 : decode cX8_append 11 = .ok (.aload_n 0, 1) := by decide +kernel
theorem dX8_append_12 : decode cX8_append 12 = .ok (.getfield 9, 3) := by decide +kernel
theorem dX8_append_15 : decode cX8_append 15 = .ok (.arraylength, 1) := by decide +kernel
theorem dX8_append_16 : decode cX8_append 16 = .ok (.if_icmp .ge 24, 3) := by decide +kernel
theorem dX8_append_19 : decode cX8_append 19 = .ok (.aload_n 0, 1) := by decide +kernel
theorem dX8_append_20 : decode cX8_append 20 = .ok (.getfield 9, 3) := by decide +kernel
theorem dX8_append_23 : decode cX8_append 23 = .ok (.aload_n 0, 1) := by decide +kernel
theorem dX8_append_24 : decode cX8_append 24 = .ok (.getfield 15, 3) := by decide +kernel
theorem dX8_append_27 : decode cX8_append 27 = .ok (.iload_n 1, 1) := by decide +kernel
theorem dX8_append_28 : decode cX8_append 28 = .ok (.i2b, 1) := by decide +kernel
theorem dX8_append_29 : decode cX8_append 29 = .ok (.bastore, 1) := by decide +kernel
theorem dX8_append_30 : decode cX8_append 30 = .ok (.aload_n 0, 1) := by decide +kernel
theorem dX8_append_31 : decode cX8_append 31 = .ok (.dup, 1) := by decide +kernel
theorem dX8_append_32 : decode cX8_append 32 = .ok (.getfield 15, 3) := by decide +kernel
theorem dX8_append_35 : decode cX8_append 35 = .ok (.iconst 1, 1) := by decide +kernel
theorem dX8_append_36 : decode cX8_append 36 = .ok (.iadd, 1) := by decide +kernel
theorem dX8_append_37 : decode cX8_append 37 = .ok (.putfield 15, 3) := by decide +kernel
theorem dX8_append_40 : decode cX8_append 40 = .ok (.return_, 1) := by decide +kernel
theorem dX8_byteAt_0 : decode cX8_byteAt 0 = .ok (.iload_n 1, 1) := by decide +kernel
theorem dX8_byteAt_1 : decode cX8_byteAt 1 = .ok (.ifCond .lt 33, 3) := by decide +kernel
theorem dX8_byteAt_4 : decode cX8_byteAt 4 = .ok (.iload_n 1, 1) := by decide +kernel
theorem dX8_byteAt_5 : decode cX8_byteAt 5 = .ok (.aload_n 0, 1) := by decide +kernel
theorem dX8_byteAt_6 : decode cX8_byteAt 6 = .ok (.getfield 15, 3) := by decide +kernel
theorem dX8_byteAt_9 : decode cX8_byteAt 9 = .ok (.if_icmp .ge 25, 3) := by decide +kernel
theorem dX8_byteAt_12 : decode cX8_byteAt 12 = .ok (.iload_n 1, 1) := by decide +kernel
theorem dX8_byteAt_13 : decode cX8_byteAt 13 = .ok (.aload_n 0, 1) := by decide +kernel
theorem dX8_byteAt_14 : decode cX8_byteAt 14 = .ok (.getfield 9, 3) := by decide +kernel
theorem dX8_byteAt_17 : decode cX8_byteAt 17 = .ok (.arraylength, 1) := by decide +kernel
theorem dX8_byteAt_18 : decode cX8_byteAt 18 = .ok (.if_icmp .ge 16, 3) := by decide +kernel
theorem dX8_byteAt_21 : decode cX8_byteAt 21 = .ok (.aload_n 0, 1) := by decide +kernel
theorem dX8_byteAt_22 : decode cX8_byteAt 22 = .ok (.getfield 9, 3) := by decide +kernel
theorem dX8_byteAt_25 : decode cX8_byteAt 25 = .ok (.iload_n 1, 1) := by decide +kernel
theorem dX8_byteAt_26 : decode cX8_byteAt 26 = .ok (.baload, 1) := by decide +kernel
theorem dX8_byteAt_27 : decode cX8_byteAt 27 = .ok (.sipush 255, 3) := by decide +kernel
theorem dX8_byteAt_30 : decode cX8_byteAt 30 = .ok (.iand, 1) := by decide +kernel
theorem dX8_byteAt_31 : decode cX8_byteAt 31 = .ok (.goto 4, 3) := by decide +kernel
theorem dX8_byteAt_34 : decode cX8_byteAt 34 = .ok (.iconst (-1), 1) := by decide +kernel
theorem dX8_byteAt_35 : decode cX8_byteAt 35 = .ok (.ireturn, 1) := by decide +kernel
theorem dX8_empty_0 : decode cX8_empty 0 = .ok (.aload_n 0, 1) := by decide +kernel
theorem dX8_empty_1 : decode cX8_empty 1 = .ok (.getfield 15, 3) := by decide +kernel
theorem dX8_empty_4 : decode cX8_empty 4 = .ok (.istore_n 1, 1) := by decide +kernel
theorem dX8_empty_5 : decode cX8_empty 5 = .ok (.aload_n 0, 1) := by decide +kernel
theorem dX8_empty_6 : decode cX8_empty 6 = .ok (.iconst 0, 1) := by decide +kernel
theorem dX8_empty_7 : decode cX8_empty 7 = .ok (.putfield 15, 3) := by decide +kernel
theorem dX8_empty_10 : decode cX8_empty 10 = .ok (.iload_n 1, 1) := by decide +kernel
theorem dX8_empty_11 : decode cX8_empty 11 = .ok (.ireturn, 1) := by decide +kernel
theorem dX9_init_0 : decode cX9_init 0 = .ok (.aload_n 0, 1) := by decide +kernel
theorem dX9_init_1 : decode cX9_init 1 = .ok (.invokespecial 1, 3) := by decide +kernel
theorem dX9_init_4 : decode cX9_init 4 = .ok (.aload_n 0, 1) := by decide +kernel
theorem dX9_init_5 : decode cX9_init 5 = .ok (.new 7, 3) := by decide +kernel
theorem dX9_init_8 : decode cX9_init 8 = .ok (.dup, 1) := by decide +kernel
theorem dX9_init_9 : decode cX9_init 9 = .ok (.invokespecial 9, 3) := by decide +kernel
theorem dX9_init_12 : decode cX9_init 12 = .ok (.putfield 10, 3) := by decide +kernel
theorem dX9_init_15 : decode cX9_init 15 = .ok (.aload_n 0, 1) := by decide +kernel
theorem dX9_init_16 : decode cX9_init 16 = .ok (.new 16, 3) := by decide +kernel
theorem dX9_init_19 : decode cX9_init 19 = .ok (.dup, 1) := by decide +kernel
theorem dX9_init_20 : decode cX9_init 20 = .ok (.invokespecial 18, 3) := by decide +kernel
theorem dX9_init_23 : decode cX9_init 23 = .ok (.putfield 19, 3) := by decide +kernel
theorem dX9_init_26 : decode cX9_init 26 = .ok (.aload_n 0, 1) := by decide +kernel
theorem dX9_init_27 : decode cX9_init 27 = .ok (.new 23, 3) := by decide +kernel
theorem dX9_init_30 : decode cX9_init 30 = .ok (.dup, 1) := by decide +kernel
theorem dX9_init_31 : decode cX9_init 31 = .ok (.invokespecial 25, 3) := by decide +kernel
theorem dX9_init_34 : decode cX9_init 34 = .ok (.putfield 26, 3) := by decide +kernel
theorem dX9_init_37 : decode cX9_init 37 = .ok (.aload_n 0, 1) := by decide +kernel
theorem dX9_init_38 : decode cX9_init 38 = .ok (.new 30, 3) := by decide +kernel
theorem dX9_init_41 : decode cX9_init 41 = .ok (.dup, 1) := by decide +kernel
theorem dX9_init_42 : decode cX9_init 42 = .ok (.invokespecial 32, 3) := by decide +kernel
theorem dX9_init_45 : decode cX9_init 45 = .ok (.putfield 33, 3) := by decide +kernel
theorem dX9_init_48 : decode cX9_init 48 = .ok (.aload_n 0, 1) := by decide +kernel
theorem dX9_init_49 : decode cX9_init 49 = .ok (.new 37, 3) := by decide +kernel
theorem dX9_init_52 : decode cX9_init 52 = .ok (.dup, 1) := by decide +kernel
theorem dX9_init_53 : decode cX9_init 53 = .ok (.aload_n 0, 1) := by decide +kernel
theorem dX9_init_54 : decode cX9_init 54 = .ok (.getfield 33, 3) := by decide +kernel
theorem dX9_init_57 : decode cX9_init 57 = .ok (.invokespecial 39, 3) := by decide +kernel
theorem dX9_init_60 : decode cX9_init 60 = .ok (.putfield 42, 3) := by decide +kernel
theorem dX9_init_63 : decode cX9_init 63 = .ok (.aload_n 0, 1) := by decide +kernel
theorem dX9_init_64 : decode cX9_init 64 = .ok (.new 46, 3) := by decide +kernel
theorem dX9_init_67 : decode cX9_init 67 = .ok (.dup, 1) := by decide +kernel
theorem dX9_init_68 : decode cX9_init 68 = .ok (.aload_n 0, 1) := by decide +kernel
theorem dX9_init_69 : decode cX9_init 69 = .ok (.getfield 33, 3) := by decide +kernel
theorem dX9_init_72 : decode cX9_init 72 = .ok (.invokespecial 48, 3) := by decide +kernel
theorem dX9_init_75 : decode cX9_init 75 = .ok (.putfield 49, 3) := by decide +kernel
theorem dX9_init_78 : decode cX9_init 78 = .ok (.aload_n 0, 1) := by decide +kernel
theorem dX9_init_79 : decode cX9_init 79 = .ok (.new 53, 3) := by decide +kernel
theorem dX9_init_82 : decode cX9_init 82 = .ok (.dup, 1) := by decide +kernel
theorem dX9_init_83 : decode cX9_init 83 = .ok (.invokespecial 55, 3) := by decide +kernel
theorem dX9_init_86 : decode cX9_init 86 = .ok (.putfield 56, 3) := by decide +kernel
theorem dX9_init_89 : decode cX9_init 89 = .ok (.aload_n 0, 1) := by decide +kernel
theorem dX9_init_90 : decode cX9_init 90 = .ok (.new 60, 3) := by decide +kernel
theorem dX9_init_93 : decode cX9_init 93 = .ok (.dup, 1) := by decide +kernel
theorem dX9_init_94 : decode cX9_init 94 = .ok (.bipush 8, 2) := by decide +kernel
theorem dX9_init_96 : decode cX9_init 96 = .ok (.invokespecial 62, 3) := by decide +kernel
theorem dX9_init_99 : decode cX9_init 99 = .ok (.putfield 65, 3) := by decide +kernel
theorem dX9_init_102 : decode cX9_init 102 = .ok (.aload_n 0, 1) := by decide +kernel
theorem dX9_init_103 : decode cX9_init 103 = .ok (.new 60, 3) := by decide +kernel
theorem dX9_init_106 : decode cX9_init 106 = .ok (.dup, 1) := by decide +kernel
theorem dX9_init_107 : decode cX9_init 107 = .ok (.iconst 2, 1) := by decide +kernel
theorem dX9_init_108 : decode cX9_init 108 = .ok (.invokespecial 62, 3) := by decide +kernel
theorem dX9_init_111 : decode cX9_init 111 = .ok (.putfield 69, 3) := by decide +kernel
theorem dX9_init_114 : decode cX9_init 114 = .ok (.aload_n 0, 1) := by decide +kernel
theorem dX9_init_115 : decode cX9_init 115 = .ok (.new 72, 3) := by decide +kernel
theorem dX9_init_118 : decode cX9_init 118 = .ok (.dup, 1) := by decide +kernel
theorem dX9_init_119 : decode cX9_init 119 = .ok (.invokespecial 74, 3) := by decide +kernel
theorem dX9_init_122 : decode cX9_init 122 = .ok (.putfield 75, 3) := by decide +kernel
theorem dX9_init_125 : decode cX9_init 125 = .ok (.aload_n 0, 1) := by decide +kernel
theorem dX9_init_126 : decode cX9_init 126 = .ok (.getfield 26, 3) := by decide +kernel
theorem dX9_init_129 : decode cX9_init 129 = .ok (.iconst 0, 1) := by decide +kernel
theorem dX9_init_130 : decode cX9_init 130 = .ok (.bipush 9, 2) := by decide +kernel
theorem dX9_init_132 : decode cX9_init 132 = .ok (.bipush 9, 2) := by decide +kernel
theorem dX9_init_134 : decode cX9_init 134 = .ok (.iconst 0, 1) := by decide +kernel
theorem dX9_init_135 : decode cX9_init 135 = .ok (.bipush 9, 2) := by decide +kernel
theorem dX9_init_137 : decode cX9_init 137 = .ok (.invokevirtual 79, 3) := by decide +kernel
theorem dX9_init_140 : decode cX9_init 140 = .ok (.pop, 1) := by decide +kernel
theorem dX9_init_141 : decode cX9_init 141 = .ok (.aload_n 0, 1) := by decide +kernel
theorem dX9_init_142 : decode cX9_init 142 = .ok (.getfield 26, 3) := by decide +kernel
theorem dX9_init_145 : decode cX9_init 145 = .ok (.iconst 0, 1) := by decide +kernel
theorem dX9_init_146 : decode cX9_init 146 = .ok (.iconst 5, 1) := by decide +kernel
theorem dX9_init_147 : decode cX9_init 147 = .ok (.bipush 9, 2) := by decide +kernel
theorem dX9_init_149 : decode cX9_init 149 = .ok (.iconst 1, 1) := by decide +kernel
theorem dX9_init_150 : decode cX9_init 150 = .ok (.bipush 9, 2) := by decide +kernel
theorem dX9_init_152 : decode cX9_init 152 = .ok (.invokevirtual 79, 3) := by decide +kernel
theorem dX9_init_155 : decode cX9_init 155 = .ok (.pop, 1) := by decide +kernel
theorem dX9_init_156 : decode cX9_init 156 = .ok (.aload_n 0, 1) := by decide +kernel
theorem dX9_init_157 : decode cX9_init 157 = .ok (.getfield 26, 3) := by decide +kernel
theorem dX9_init_160 : decode cX9_init 160 = .ok (.iconst 2, 1) := by decide +kernel
theorem dX9_init_161 : decode cX9_init 161 = .ok (.bipush 7, 2) := by decide +kernel
theorem dX9_init_163 : decode cX9_init 163 = .ok (.bipush 9, 2) := by decide +kernel
theorem dX9_init_165 : decode cX9_init 165 = .ok (.iconst 2, 1) := by decide +kernel
theorem dX9_init_166 : decode cX9_init 166 = .ok (.bipush 9, 2) := by decide +kernel
theorem dX9_init_168 : decode cX9_init 168 = .ok (.invokevirtual 79, 3) := by decide +kernel
theorem dX9_init_171 : decode cX9_init 171 = .ok (.pop, 1) := by decide +kernel
theorem dX9_init_172 : decode cX9_init 172 = .ok (.aload_n 0, 1) := by decide +kernel
theorem dX9_init_173 : decode cX9_init 173 = .ok (.invokevirtual 83, 3) := by decide +kernel
theorem dX9_init_176 : decode cX9_init 176 = .ok (.return_, 1) := by decide +kernel
theorem dX9_write_0 : decode cX9_write 0 = .ok (.iload_n 1, 1) := by decide +kernel
theorem dX9_write_1 : decode cX9_write 1 = .ok (.iconst 1, 1) := by decide +kernel
theorem dX9_write_2 : decode cX9_write 2 = .ok (.if_icmp .lt 9, 3) := by decide +kernel
theorem dX9_write_5 : decode cX9_write 5 = .ok (.iload_n 1, 1) := by decide +kernel
theorem dX9_write_6 : decode cX9_write 6 = .ok (.bipush 8, 2) := by decide +kernel
theorem dX9_write_8 : decode cX9_write 8 = .ok (.if_icmp .le 5, 3) := by decide +kernel
theorem dX9_write_11 : decode cX9_write 11 = .ok (.iconst (-1), 1) := by decide +kernel
theorem dX9_write_12 : decode cX9_write 12 = .ok (.ireturn, 1) := by decide +kernel
theorem dX9_write_13 : decode cX9_write 13 = .ok (.aload_n 0, 1) := by decide +kernel
theorem dX9_write_14 : decode cX9_write 14 = .ok (.getfield 10, 3) := by decide +kernel
theorem dX9_write_17 : decode cX9_write 17 = .ok (.iload_n 1, 1) := by decide +kernel
theorem dX9_write_18 : decode cX9_write 18 = .ok (.invokevirtual 86, 3) := by decide +kernel
theorem dX9_write_21 : decode cX9_write 21 = .ok (.ifCond .ne 6, 3) := by decide +kernel
theorem dX9_write_24 : decode cX9_write 24 = .ok (.bipush (-3), 2) := by decide +kernel
theorem dX9_write_26 : decode cX9_write 26 = .ok (.ireturn, 1) := by decide +kernel
theorem dX9_write_27 : decode cX9_write 27 = .ok (.iload_n 1, 1) := by decide +kernel
theorem dX9_write_28 : decode cX9_write 28 = .ok (.iconst 1, 1) := by decide +kernel
theorem dX9_write_29 : decode cX9_write 29 = .ok (.isub, 1) := by decide +kernel
theorem dX9_write_30 : decode cX9_write 30 = .ok (.istore 4, 2) := by decide +kernel
theorem dX9_write_32 : decode cX9_write 32 = .ok (.iload 4, 2) := by decide +kernel
theorem dX9_write_34 : decode cX9_write 34 = .ok (.ifCond .lt 28, 3) := by decide +kernel
theorem dX9_write_37 : decode cX9_write 37 = .ok (.aload_n 0, 1) := by decide +kernel
theorem dX9_write_38 : decode cX9_write 38 = .ok (.getfield 10, 3) := by decide +kernel
theorem dX9_write_41 : decode cX9_write 41 = .ok (.lload_n 2, 1) := by decide +kernel
theorem dX9_write_42 : decode cX9_write 42 = .ok (.bipush 8, 2) := by decide +kernel
theorem dX9_write_44 : decode cX9_write 44 = .ok (.iload 4, 2) := by decide +kernel
theorem dX9_write_46 : decode cX9_write 46 = .ok (.imul, 1) := by decide +kernel
theorem dX9_write_47 : decode cX9_write 47 = .ok (.lushr, 1) := by decide +kernel
theorem dX9_write_48 : decode cX9_write 48 = .ok (.l2i, 1) := by decide +kernel
theorem dX9_write_49 : decode cX9_write 49 = .ok (.sipush 255, 3) := by decide +kernel
theorem dX9_write_52 : decode cX9_write 52 = .ok (.iand, 1) := by decide +kernel
theorem dX9_write_53 : decode cX9_write 53 = .ok (.invokevirtual 90, 3) := by decide +kernel
theorem dX9_write_56 : decode cX9_write 56 = .ok (.iinc 4 (-1), 3) := by decide +kernel
theorem dX9_write_59 : decode cX9_write 59 = .ok (.goto (-27), 3) := by decide +kernel
theorem dX9_write_62 : decode cX9_write 62 = .ok (.aload_n 0, 1) := by decide +kernel
theorem dX9_write_63 : decode cX9_write 63 = .ok (.getfield 10, 3) := by decide +kernel
theorem dX9_write_66 : decode cX9_write 66 = .ok (.getfield 93, 3) := by decide +kernel
theorem dX9_write_69 : decode cX9_write 69 = .ok (.ireturn, 1) := by decide +kernel
theorem dX9_wipe_0 : decode cX9_wipe 0 = .ok (.aload_n 0, 1) := by decide +kernel
theorem dX9_wipe_1 : decode cX9_wipe 1 = .ok (.getfield 10, 3) := by decide +kernel
theorem dX9_wipe_4 : decode cX9_wipe 4 = .ok (.invokevirtual 97, 3) := by decide +kernel
theorem dX9_wipe_7 : decode cX9_wipe 7 = .ok (.ireturn, 1) := by decide +kernel
theorem dX9_fault_0 : decode cX9_fault 0 = .ok (.aload_n 0, 1) := by decide +kernel
theorem dX9_fault_1 : decode cX9_fault 1 = .ok (.getfield 19, 3) := by decide +kernel
theorem dX9_fault_4 : decode cX9_fault 4 = .ok (.aload_n 0, 1) := by decide +kernel
theorem dX9_fault_5 : decode cX9_fault 5 = .ok (.getfield 10, 3) := by decide +kernel
theorem dX9_fault_8 : decode cX9_fault 8 = .ok (.aload_n 0, 1) := by decide +kernel
theorem dX9_fault_9 : decode cX9_fault 9 = .ok (.getfield 26, 3) := by decide +kernel
theorem dX9_fault_12 : decode cX9_fault 12 = .ok (.invokevirtual 101, 3) := by decide +kernel
theorem dX9_fault_15 : decode cX9_fault 15 = .ok (.ireturn, 1) := by decide +kernel
theorem dX9_lay_0 : decode cX9_lay 0 = .ok (.aload_n 0, 1) := by decide +kernel
theorem dX9_lay_1 : decode cX9_lay 1 = .ok (.getfield 19, 3) := by decide +kernel
theorem dX9_lay_4 : decode cX9_lay 4 = .ok (.aload_n 0, 1) := by decide +kernel
theorem dX9_lay_5 : decode cX9_lay 5 = .ok (.getfield 10, 3) := by decide +kernel
theorem dX9_lay_8 : decode cX9_lay 8 = .ok (.aload_n 0, 1) := by decide +kernel
theorem dX9_lay_9 : decode cX9_lay 9 = .ok (.getfield 26, 3) := by decide +kernel
theorem dX9_lay_12 : decode cX9_lay 12 = .ok (.invokevirtual 101, 3) := by decide +kernel
theorem dX9_lay_15 : decode cX9_lay 15 = .ok (.bipush (-4), 2) := by decide +kernel
theorem dX9_lay_17 : decode cX9_lay 17 = .ok (.if_icmp .ne 13, 3) := by decide +kernel
theorem dX9_lay_20 : decode cX9_lay 20 = .ok (.aload_n 0, 1) := by decide +kernel
theorem dX9_lay_21 : decode cX9_lay 21 = .ok (.getfield 26, 3) := by decide +kernel
theorem dX9_lay_24 : decode cX9_lay 24 = .ok (.getfield 105, 3) := by decide +kernel
theorem dX9_lay_27 : decode cX9_lay 27 = .ok (.ifCond .ne 6, 3) := by decide +kernel
theorem dX9_lay_30 : decode cX9_lay 30 = .ok (.bipush (-2), 2) := by decide +kernel
theorem dX9_lay_32 : decode cX9_lay 32 = .ok (.ireturn, 1) := by decide +kernel
theorem dX9_lay_33 : decode cX9_lay 33 = .ok (.aload_n 0, 1) := by decide +kernel
theorem dX9_lay_34 : decode cX9_lay 34 = .ok (.invokevirtual 83, 3) := by decide +kernel
theorem dX9_lay_37 : decode cX9_lay 37 = .ok (.aload_n 0, 1) := by decide +kernel
theorem dX9_lay_38 : decode cX9_lay 38 = .ok (.getfield 33, 3) := by decide +kernel
theorem dX9_lay_41 : decode cX9_lay 41 = .ok (.getfield 108, 3) := by decide +kernel
theorem dX9_lay_44 : decode cX9_lay 44 = .ok (.getfield 105, 3) := by decide +kernel
theorem dX9_lay_47 : decode cX9_lay 47 = .ok (.ireturn, 1) := by decide +kernel
theorem dX9_person_0 : decode cX9_person 0 = .ok (.aload_n 0, 1) := by decide +kernel
theorem dX9_person_1 : decode cX9_person 1 = .ok (.iload_n 1, 1) := by decide +kernel
theorem dX9_person_2 : decode cX9_person 2 = .ok (.invokevirtual 111, 3) := by decide +kernel
theorem dX9_person_5 : decode cX9_person 5 = .ok (.ifCond .eq 12, 3) := by decide +kernel
theorem dX9_person_8 : decode cX9_person 8 = .ok (.iload_n 2, 1) := by decide +kernel
theorem dX9_person_9 : decode cX9_person 9 = .ok (.ifCond .lt 8, 3) := by decide +kernel
theorem dX9_person_12 : decode cX9_person 12 = .ok (.iload_n 2, 1) := by decide +kernel
theorem dX9_person_13 : decode cX9_person 13 = .ok (.iconst 5, 1) := by decide +kernel
theorem dX9_person_14 : decode cX9_person 14 = .ok (.if_icmp .le 5, 3) := by decide +kernel
theorem dX9_person_17 : decode cX9_person 17 = .ok (.iconst (-1), 1) := by decide +kernel
theorem dX9_person_18 : decode cX9_person 18 = .ok (.ireturn, 1) := by decide +kernel
theorem dX9_person_19 : decode cX9_person 19 = .ok (.iload_n 2, 1) := by decide +kernel
theorem dX9_person_20 : decode cX9_person 20 = .ok (.iconst 4, 1) := by decide +kernel
theorem dX9_person_21 : decode cX9_person 21 = .ok (.if_icmp .ne 16, 3) := by decide +kernel
theorem dX9_person_24 : decode cX9_person 24 = .ok (.aload_n 0, 1) := by decide +kernel
theorem dX9_person_25 : decode cX9_person 25 = .ok (.getfield 56, 3) := by decide +kernel
theorem dX9_person_28 : decode cX9_person 28 = .ok (.iload_n 1, 1) := by decide +kernel
theorem dX9_person_29 : decode cX9_person 29 = .ok (.invokevirtual 114, 3) := by decide +kernel
theorem dX9_person_32 : decode cX9_person 32 = .ok (.sipush 1000, 3) := by decide +kernel
theorem dX9_person_35 : decode cX9_person 35 = .ok (.iadd, 1) := by decide +kernel
theorem dX9_person_36 : decode cX9_person 36 = .ok (.ireturn, 1) := by decide +kernel
theorem dX9_person_37 : decode cX9_person 37 = .ok (.iload_n 2, 1) := by decide +kernel
theorem dX9_person_38 : decode cX9_person 38 = .ok (.iconst 5, 1) := by decide +kernel
theorem dX9_person_39 : decode cX9_person 39 = .ok (.if_icmp .ne 20, 3) := by decide +kernel
theorem dX9_person_42 : decode cX9_person 42 = .ok (.aload_n 0, 1) := by decide +kernel
theorem dX9_person_43 : decode cX9_person 43 = .ok (.getfield 56, 3) := by decide +kernel
theorem dX9_person_46 : decode cX9_person 46 = .ok (.iload_n 1, 1) := by decide +kernel
theorem dX9_person_47 : decode cX9_person 47 = .ok (.invokevirtual 118, 3) := by decide +kernel
theorem dX9_person_50 : decode cX9_person 50 = .ok (.ifCond .eq 7, 3) := by decide +kernel
theorem dX9_person_53 : decode cX9_person 53 = .ok (.iconst 1, 1) := by decide +kernel
theorem dX9_person_54 : decode cX9_person 54 = .ok (.goto 4, 3) := by decide +kernel
theorem dX9_person_57 : decode cX9_person 57 = .ok (.iconst 0, 1) := by decide +kernel
theorem dX9_person_58 : decode cX9_person 58 = .ok (.ireturn, 1) := by decide +kernel
theorem dX9_person_59 : decode cX9_person 59 = .ok (.aload_n 0, 1) := by decide +kernel
theorem dX9_person_60 : decode cX9_person 60 = .ok (.getfield 33, 3) := by decide +kernel
theorem dX9_person_63 : decode cX9_person 63 = .ok (.getfield 108, 3) := by decide +kernel
theorem dX9_person_66 : decode cX9_person 66 = .ok (.iload_n 1, 1) := by decide +kernel
theorem dX9_person_67 : decode cX9_person 67 = .ok (.iload_n 2, 1) := by decide +kernel
theorem dX9_person_68 : decode cX9_person 68 = .ok (.invokevirtual 121, 3) := by decide +kernel
theorem dX9_person_71 : decode cX9_person 71 = .ok (.ireturn, 1) := by decide +kernel
theorem dX9_worth_0 : decode cX9_worth 0 = .ok (.aload_n 0, 1) := by decide +kernel
theorem dX9_worth_1 : decode cX9_worth 1 = .ok (.iload_n 1, 1) := by decide +kernel
theorem dX9_worth_2 : decode cX9_worth 2 = .ok (.invokevirtual 111, 3) := by decide +kernel
theorem dX9_worth_5 : decode cX9_worth 5 = .ok (.ifCond .eq 11, 3) := by decide +kernel
theorem dX9_worth_8 : decode cX9_worth 8 = .ok (.aload_n 0, 1) := by decide +kernel
theorem dX9_worth_9 : decode cX9_worth 9 = .ok (.iload_n 2, 1) := by decide +kernel
theorem dX9_worth_10 : decode cX9_worth 10 = .ok (.invokevirtual 125, 3) := by decide +kernel
theorem dX9_worth_13 : decode cX9_worth 13 = .ok (.ifCond .ne 5, 3) := by decide +kernel
theorem dX9_worth_16 : decode cX9_worth 16 = .ok (.iconst (-1), 1) := by decide +kernel
theorem dX9_worth_17 : decode cX9_worth 17 = .ok (.ireturn, 1) := by decide +kernel
theorem dX9_worth_18 : decode cX9_worth 18 = .ok (.aload_n 0, 1) := by decide +kernel
theorem dX9_worth_19 : decode cX9_worth 19 = .ok (.getfield 33, 3) := by decide +kernel
theorem dX9_worth_22 : decode cX9_worth 22 = .ok (.iload_n 1, 1) := by decide +kernel
theorem dX9_worth_23 : decode cX9_worth 23 = .ok (.iload_n 2, 1) := by decide +kernel
theorem dX9_worth_24 : decode cX9_worth 24 = .ok (.aload_n 0, 1) := by decide +kernel
theorem dX9_worth_25 : decode cX9_worth 25 = .ok (.invokevirtual 128, 3) := by decide +kernel
theorem dX9_worth_28 : decode cX9_worth 28 = .ok (.invokevirtual 131, 3) := by decide +kernel
theorem dX9_worth_31 : decode cX9_worth 31 = .ok (.sipush 1000, 3) := by decide +kernel
theorem dX9_worth_34 : decode cX9_worth 34 = .ok (.iadd, 1) := by decide +kernel
theorem dX9_worth_35 : decode cX9_worth 35 = .ok (.ireturn, 1) := by decide +kernel
theorem dX9_buy_0 : decode cX9_buy 0 = .ok (.aload_n 0, 1) := by decide +kernel
theorem dX9_buy_1 : decode cX9_buy 1 = .ok (.iload_n 1, 1) := by decide +kernel
theorem dX9_buy_2 : decode cX9_buy 2 = .ok (.invokevirtual 125, 3) := by decide +kernel
theorem dX9_buy_5 : decode cX9_buy 5 = .ok (.ifCond .eq 7, 3) := by decide +kernel
theorem dX9_buy_8 : decode cX9_buy 8 = .ok (.iload_n 1, 1) := by decide +kernel
theorem dX9_buy_9 : decode cX9_buy 9 = .ok (.ifCond .ne 5, 3) := by decide +kernel
theorem dX9_buy_12 : decode cX9_buy 12 = .ok (.iconst (-1), 1) := by decide +kernel
theorem dX9_buy_13 : decode cX9_buy 13 = .ok (.ireturn, 1) := by decide +kernel
theorem dX9_buy_14 : decode cX9_buy 14 = .ok (.aload_n 0, 1) := by decide +kernel
theorem dX9_buy_15 : decode cX9_buy 15 = .ok (.getfield 56, 3) := by decide +kernel
theorem dX9_buy_18 : decode cX9_buy 18 = .ok (.getfield 135, 3) := by decide +kernel
theorem dX9_buy_21 : decode cX9_buy 21 = .ok (.iload_n 1, 1) := by decide +kernel
theorem dX9_buy_22 : decode cX9_buy 22 = .ok (.iand, 1) := by decide +kernel
theorem dX9_buy_23 : decode cX9_buy 23 = .ok (.ifCond .ne 11, 3) := by decide +kernel
theorem dX9_buy_26 : decode cX9_buy 26 = .ok (.aload_n 0, 1) := by decide +kernel
theorem dX9_buy_27 : decode cX9_buy 27 = .ok (.iload_n 1, 1) := by decide +kernel
theorem dX9_buy_28 : decode cX9_buy 28 = .ok (.invokevirtual 138, 3) := by decide +kernel
theorem dX9_buy_31 : decode cX9_buy 31 = .ok (.ifCond .ne 6, 3) := by decide +kernel
theorem dX9_buy_34 : decode cX9_buy 34 = .ok (.bipush (-2), 2) := by decide +kernel
theorem dX9_buy_36 : decode cX9_buy 36 = .ok (.ireturn, 1) := by decide +kernel
theorem dX9_buy_37 : decode cX9_buy 37 = .ok (.aload_n 0, 1) := by decide +kernel
theorem dX9_buy_38 : decode cX9_buy 38 = .ok (.getfield 65, 3) := by decide +kernel
theorem dX9_buy_41 : decode cX9_buy 41 = .ok (.aload_n 0, 1) := by decide +kernel
theorem dX9_buy_42 : decode cX9_buy 42 = .ok (.getfield 56, 3) := by decide +kernel
theorem dX9_buy_45 : decode cX9_buy 45 = .ok (.invokevirtual 141, 3) := by decide +kernel
theorem dX9_buy_48 : decode cX9_buy 48 = .ok (.aload_n 0, 1) := by decide +kernel
theorem dX9_buy_49 : decode cX9_buy 49 = .ok (.getfield 56, 3) := by decide +kernel
theorem dX9_buy_52 : decode cX9_buy 52 = .ok (.getfield 135, 3) := by decide +kernel
theorem dX9_buy_55 : decode cX9_buy 55 = .ok (.iload_n 1, 1) := by decide +kernel
theorem dX9_buy_56 : decode cX9_buy 56 = .ok (.ior, 1) := by decide +kernel
theorem dX9_buy_57 : decode cX9_buy 57 = .ok (.istore_n 2, 1) := by decide +kernel
theorem dX9_buy_58 : decode cX9_buy 58 = .ok (.iconst 0, 1) := by decide +kernel
theorem dX9_buy_59 : decode cX9_buy 59 = .ok (.istore_n 3, 1) := by decide +kernel
theorem dX9_buy_60 : decode cX9_buy 60 = .ok (.iconst 0, 1) := by decide +kernel
theorem dX9_buy_61 : decode cX9_buy 61 = .ok (.istore 4, 2) := by decide +kernel
theorem dX9_buy_63 : decode cX9_buy 63 = .ok (.iload 4, 2) := by decide +kernel
theorem dX9_buy_65 : decode cX9_buy 65 = .ok (.aload_n 0, 1) := by decide +kernel
theorem dX9_buy_66 : decode cX9_buy 66 = .ok (.getfield 33, 3) := by decide +kernel
theorem dX9_buy_69 : decode cX9_buy 69 = .ok (.getfield 108, 3) := by decide +kernel
theorem dX9_buy_72 : decode cX9_buy 72 = .ok (.getfield 105, 3) := by decide +kernel
theorem dX9_buy_75 : decode cX9_buy 75 = .ok (.if_icmp .ge 47, 3) := by decide +kernel
theorem dX9_buy_78 : decode cX9_buy 78 = .ok (.iload_n 1, 1) := by decide +kernel
theorem dX9_buy_79 : decode cX9_buy 79 = .ok (.iload 4, 2) := by decide +kernel
theorem dX9_buy_81 : decode cX9_buy 81 = .ok (.invokestatic 145, 3) := by decide +kernel
theorem dX9_buy_84 : decode cX9_buy 84 = .ok (.ifCond .eq 32, 3) := by decide +kernel
theorem dX9_buy_87 : decode cX9_buy 87 = .ok (.aload_n 0, 1) := by decide +kernel
theorem dX9_buy_88 : decode cX9_buy 88 = .ok (.getfield 33, 3) := by decide +kernel
theorem dX9_buy_91 : decode cX9_buy 91 = .ok (.iload 4, 2) := by decide +kernel
theorem dX9_buy_93 : decode cX9_buy 93 = .ok (.iload_n 2, 1) := by decide +kernel
theorem dX9_buy_94 : decode cX9_buy 94 = .ok (.invokevirtual 149, 3) := by decide +kernel
theorem dX9_buy_97 : decode cX9_buy 97 = .ok (.istore 5, 2) := by decide +kernel
theorem dX9_buy_99 : decode cX9_buy 99 = .ok (.aload_n 0, 1) := by decide +kernel
theorem dX9_buy_100 : decode cX9_buy 100 = .ok (.getfield 56, 3) := by decide +kernel
theorem dX9_buy_103 : decode cX9_buy 103 = .ok (.iload 4, 2) := by decide +kernel
theorem dX9_buy_105 : decode cX9_buy 105 = .ok (.iload 5, 2) := by decide +kernel
theorem dX9_buy_107 : decode cX9_buy 107 = .ok (.ineg, 1) := by decide +kernel
theorem dX9_buy_108 : decode cX9_buy 108 = .ok (.invokevirtual 152, 3) := by decide +kernel
theorem dX9_buy_111 : decode cX9_buy 111 = .ok (.iload_n 3, 1) := by decide +kernel
theorem dX9_buy_112 : decode cX9_buy 112 = .ok (.iload 5, 2) := by decide +kernel
theorem dX9_buy_114 : decode cX9_buy 114 = .ok (.iadd, 1) := by decide +kernel
theorem dX9_buy_115 : decode cX9_buy 115 = .ok (.istore_n 3, 1) := by decide +kernel
theorem dX9_buy_116 : decode cX9_buy 116 = .ok (.iinc 4 1, 3) := by decide +kernel
theorem dX9_buy_119 : decode cX9_buy 119 = .ok (.goto (-56), 3) := by decide +kernel
theorem dX9_buy_122 : decode cX9_buy 122 = .ok (.aload_n 0, 1) := by decide +kernel
theorem dX9_buy_123 : decode cX9_buy 123 = .ok (.getfield 56, 3) := by decide +kernel
theorem dX9_buy_126 : decode cX9_buy 126 = .ok (.iload_n 2, 1) := by decide +kernel
theorem dX9_buy_127 : decode cX9_buy 127 = .ok (.putfield 135, 3) := by decide +kernel
theorem dX9_buy_130 : decode cX9_buy 130 = .ok (.iload_n 3, 1) := by decide +kernel
theorem dX9_buy_131 : decode cX9_buy 131 = .ok (.ireturn, 1) := by decide +kernel
theorem dX9_toss_0 : decode cX9_toss 0 = .ok (.aload_n 0, 1) := by decide +kernel
theorem dX9_toss_1 : decode cX9_toss 1 = .ok (.iload_n 1, 1) := by decide +kernel
theorem dX9_toss_2 : decode cX9_toss 2 = .ok (.invokevirtual 111, 3) := by decide +kernel
theorem dX9_toss_5 : decode cX9_toss 5 = .ok (.ifCond .ne 5, 3) := by decide +kernel
theorem dX9_toss_8 : decode cX9_toss 8 = .ok (.iconst (-1), 1) := by decide +kernel
theorem dX9_toss_9 : decode cX9_toss 9 = .ok (.ireturn, 1) := by decide +kernel
theorem dX9_toss_10 : decode cX9_toss 10 = .ok (.aload_n 0, 1) := by decide +kernel
theorem dX9_toss_11 : decode cX9_toss 11 = .ok (.getfield 56, 3) := by decide +kernel
theorem dX9_toss_14 : decode cX9_toss 14 = .ok (.iload_n 1, 1) := by decide +kernel
theorem dX9_toss_15 : decode cX9_toss 15 = .ok (.invokevirtual 118, 3) := by decide +kernel
theorem dX9_toss_18 : decode cX9_toss 18 = .ok (.ifCond .ne 6, 3) := by decide +kernel
theorem dX9_toss_21 : decode cX9_toss 21 = .ok (.bipush (-2), 2) := by decide +kernel
theorem dX9_toss_23 : decode cX9_toss 23 = .ok (.ireturn, 1) := by decide +kernel
theorem dX9_toss_24 : decode cX9_toss 24 = .ok (.aload_n 0, 1) := by decide +kernel
theorem dX9_toss_25 : decode cX9_toss 25 = .ok (.getfield 65, 3) := by decide +kernel
theorem dX9_toss_28 : decode cX9_toss 28 = .ok (.aload_n 0, 1) := by decide +kernel
theorem dX9_toss_29 : decode cX9_toss 29 = .ok (.getfield 56, 3) := by decide +kernel
theorem dX9_toss_32 : decode cX9_toss 32 = .ok (.invokevirtual 141, 3) := by decide +kernel
theorem dX9_toss_35 : decode cX9_toss 35 = .ok (.aload_n 0, 1) := by decide +kernel
theorem dX9_toss_36 : decode cX9_toss 36 = .ok (.getfield 56, 3) := by decide +kernel
theorem dX9_toss_39 : decode cX9_toss 39 = .ok (.dup, 1) := by decide +kernel
theorem dX9_toss_40 : decode cX9_toss 40 = .ok (.getfield 135, 3) := by decide +kernel
theorem dX9_toss_43 : decode cX9_toss 43 = .ok (.iload_n 1, 1) := by decide +kernel
theorem dX9_toss_44 : decode cX9_toss 44 = .ok (.invokestatic 156, 3) := by decide +kernel
theorem dX9_toss_47 : decode cX9_toss 47 = .ok (.iconst (-1), 1) := by decide +kernel
theorem dX9_toss_48 : decode cX9_toss 48 = .ok (.ixor, 1) := by decide +kernel
theorem dX9_toss_49 : decode cX9_toss 49 = .ok (.iand, 1) := by decide +kernel
theorem dX9_toss_50 : decode cX9_toss 50 = .ok (.putfield 135, 3) := by decide +kernel
theorem dX9_toss_53 : decode cX9_toss 53 = .ok (.aload_n 0, 1) := by decide +kernel
theorem dX9_toss_54 : decode cX9_toss 54 = .ok (.getfield 56, 3) := by decide +kernel
theorem dX9_toss_57 : decode cX9_toss 57 = .ok (.getfield 135, 3) := by decide +kernel
theorem dX9_toss_60 : decode cX9_toss 60 = .ok (.invokestatic 159, 3) := by decide +kernel
theorem dX9_toss_63 : decode cX9_toss 63 = .ok (.ireturn, 1) := by decide +kernel
theorem dX9_sell_0 : decode cX9_sell 0 = .ok (.aload_n 0, 1) := by decide +kernel
theorem dX9_sell_1 : decode cX9_sell 1 = .ok (.iload_n 1, 1) := by decide +kernel
theorem dX9_sell_2 : decode cX9_sell 2 = .ok (.invokevirtual 111, 3) := by decide +kernel
theorem dX9_sell_5 : decode cX9_sell 5 = .ok (.ifCond .eq 16, 3) := by decide +kernel
theorem dX9_sell_8 : decode cX9_sell 8 = .ok (.aload_n 0, 1) := by decide +kernel
theorem dX9_sell_9 : decode cX9_sell 9 = .ok (.iload_n 2, 1) := by decide +kernel
theorem dX9_sell_10 : decode cX9_sell 10 = .ok (.invokevirtual 111, 3) := by decide +kernel
theorem dX9_sell_13 : decode cX9_sell 13 = .ok (.ifCond .eq 8, 3) := by decide +kernel
theorem dX9_sell_16 : decode cX9_sell 16 = .ok (.iload_n 1, 1) := by decide +kernel
theorem dX9_sell_17 : decode cX9_sell 17 = .ok (.iload_n 2, 1) := by decide +kernel
theorem dX9_sell_18 : decode cX9_sell 18 = .ok (.if_icmp .ne 5, 3) := by decide +kernel
theorem dX9_sell_21 : decode cX9_sell 21 = .ok (.iconst (-1), 1) := by decide +kernel
theorem dX9_sell_22 : decode cX9_sell 22 = .ok (.ireturn, 1) := by decide +kernel
theorem dX9_sell_23 : decode cX9_sell 23 = .ok (.aload_n 0, 1) := by decide +kernel
theorem dX9_sell_24 : decode cX9_sell 24 = .ok (.getfield 56, 3) := by decide +kernel
theorem dX9_sell_27 : decode cX9_sell 27 = .ok (.iload_n 1, 1) := by decide +kernel
theorem dX9_sell_28 : decode cX9_sell 28 = .ok (.invokevirtual 118, 3) := by decide +kernel
theorem dX9_sell_31 : decode cX9_sell 31 = .ok (.ifCond .eq 14, 3) := by decide +kernel
theorem dX9_sell_34 : decode cX9_sell 34 = .ok (.aload_n 0, 1) := by decide +kernel
theorem dX9_sell_35 : decode cX9_sell 35 = .ok (.getfield 56, 3) := by decide +kernel
theorem dX9_sell_38 : decode cX9_sell 38 = .ok (.iload_n 2, 1) := by decide +kernel
theorem dX9_sell_39 : decode cX9_sell 39 = .ok (.invokevirtual 118, 3) := by decide +kernel
theorem dX9_sell_42 : decode cX9_sell 42 = .ok (.ifCond .eq 6, 3) := by decide +kernel
theorem dX9_sell_45 : decode cX9_sell 45 = .ok (.bipush (-2), 2) := by decide +kernel
theorem dX9_sell_47 : decode cX9_sell 47 = .ok (.ireturn, 1) := by decide +kernel
theorem dX9_sell_48 : decode cX9_sell 48 = .ok (.aload_n 0, 1) := by decide +kernel
theorem dX9_sell_49 : decode cX9_sell 49 = .ok (.getfield 56, 3) := by decide +kernel
theorem dX9_sell_52 : decode cX9_sell 52 = .ok (.getfield 135, 3) := by decide +kernel
theorem dX9_sell_55 : decode cX9_sell 55 = .ok (.iload_n 1, 1) := by decide +kernel
theorem dX9_sell_56 : decode cX9_sell 56 = .ok (.invokestatic 156, 3) := by decide +kernel
theorem dX9_sell_59 : decode cX9_sell 59 = .ok (.iconst (-1), 1) := by decide +kernel
theorem dX9_sell_60 : decode cX9_sell 60 = .ok (.ixor, 1) := by decide +kernel
theorem dX9_sell_61 : decode cX9_sell 61 = .ok (.iand, 1) := by decide +kernel
theorem dX9_sell_62 : decode cX9_sell 62 = .ok (.istore_n 3, 1) := by decide +kernel
theorem dX9_sell_63 : decode cX9_sell 63 = .ok (.aload_n 0, 1) := by decide +kernel
theorem dX9_sell_64 : decode cX9_sell 64 = .ok (.getfield 33, 3) := by decide +kernel
theorem dX9_sell_67 : decode cX9_sell 67 = .ok (.iload_n 2, 1) := by decide +kernel
theorem dX9_sell_68 : decode cX9_sell 68 = .ok (.iload_n 3, 1) := by decide +kernel
theorem dX9_sell_69 : decode cX9_sell 69 = .ok (.invokevirtual 149, 3) := by decide +kernel
theorem dX9_sell_72 : decode cX9_sell 72 = .ok (.istore 4, 2) := by decide +kernel
theorem dX9_sell_74 : decode cX9_sell 74 = .ok (.aload_n 0, 1) := by decide +kernel
theorem dX9_sell_75 : decode cX9_sell 75 = .ok (.getfield 56, 3) := by decide +kernel
theorem dX9_sell_78 : decode cX9_sell 78 = .ok (.iload_n 2, 1) := by decide +kernel
theorem dX9_sell_79 : decode cX9_sell 79 = .ok (.invokevirtual 114, 3) := by decide +kernel
theorem dX9_sell_82 : decode cX9_sell 82 = .ok (.iload 4, 2) := by decide +kernel
theorem dX9_sell_84 : decode cX9_sell 84 = .ok (.if_icmp .ge 6, 3) := by decide +kernel
theorem dX9_sell_87 : decode cX9_sell 87 = .ok (.bipush (-2), 2) := by decide +kernel
theorem dX9_sell_89 : decode cX9_sell 89 = .ok (.ireturn, 1) := by decide +kernel
theorem dX9_sell_90 : decode cX9_sell 90 = .ok (.aload_n 0, 1) := by decide +kernel
theorem dX9_sell_91 : decode cX9_sell 91 = .ok (.getfield 65, 3) := by decide +kernel
theorem dX9_sell_94 : decode cX9_sell 94 = .ok (.aload_n 0, 1) := by decide +kernel
theorem dX9_sell_95 : decode cX9_sell 95 = .ok (.getfield 56, 3) := by decide +kernel
theorem dX9_sell_98 : decode cX9_sell 98 = .ok (.invokevirtual 141, 3) := by decide +kernel
theorem dX9_sell_101 : decode cX9_sell 101 = .ok (.aload_n 0, 1) := by decide +kernel
theorem dX9_sell_102 : decode cX9_sell 102 = .ok (.getfield 56, 3) := by decide +kernel
theorem dX9_sell_105 : decode cX9_sell 105 = .ok (.iload_n 3, 1) := by decide +kernel
theorem dX9_sell_106 : decode cX9_sell 106 = .ok (.iload_n 2, 1) := by decide +kernel
theorem dX9_sell_107 : decode cX9_sell 107 = .ok (.invokestatic 156, 3) := by decide +kernel
theorem dX9_sell_110 : decode cX9_sell 110 = .ok (.ior, 1) := by decide +kernel
theorem dX9_sell_111 : decode cX9_sell 111 = .ok (.putfield 135, 3) := by decide +kernel
theorem dX9_sell_114 : decode cX9_sell 114 = .ok (.aload_n 0, 1) := by decide +kernel
theorem dX9_sell_115 : decode cX9_sell 115 = .ok (.getfield 56, 3) := by decide +kernel
theorem dX9_sell_118 : decode cX9_sell 118 = .ok (.iload_n 2, 1) := by decide +kernel
theorem dX9_sell_119 : decode cX9_sell 119 = .ok (.iload 4, 2) := by decide +kernel
theorem dX9_sell_121 : decode cX9_sell 121 = .ok (.ineg, 1) := by decide +kernel
theorem dX9_sell_122 : decode cX9_sell 122 = .ok (.invokevirtual 152, 3) := by decide +kernel
theorem dX9_sell_125 : decode cX9_sell 125 = .ok (.aload_n 0, 1) := by decide +kernel
theorem dX9_sell_126 : decode cX9_sell 126 = .ok (.getfield 56, 3) := by decide +kernel
theorem dX9_sell_129 : decode cX9_sell 129 = .ok (.iload_n 1, 1) := by decide +kernel
theorem dX9_sell_130 : decode cX9_sell 130 = .ok (.iload 4, 2) := by decide +kernel
theorem dX9_sell_132 : decode cX9_sell 132 = .ok (.invokevirtual 152, 3) := by decide +kernel
theorem dX9_sell_135 : decode cX9_sell 135 = .ok (.iload 4, 2) := by decide +kernel
theorem dX9_sell_137 : decode cX9_sell 137 = .ok (.ireturn, 1) := by decide +kernel
theorem dX9_undo_0 : decode cX9_undo 0 = .ok (.aload_n 0, 1) := by decide +kernel
theorem dX9_undo_1 : decode cX9_undo 1 = .ok (.getfield 65, 3) := by decide +kernel
theorem dX9_undo_4 : decode cX9_undo 4 = .ok (.getfield 164, 3) := by decide +kernel
theorem dX9_undo_7 : decode cX9_undo 7 = .ok (.ifCond .ne 6, 3) := by decide +kernel
theorem dX9_undo_10 : decode cX9_undo 10 = .ok (.bipush (-2), 2) := by decide +kernel
theorem dX9_undo_12 : decode cX9_undo 12 = .ok (.ireturn, 1) := by decide +kernel
theorem dX9_undo_13 : decode cX9_undo 13 = .ok (.aload_n 0, 1) := by decide +kernel
theorem dX9_undo_14 : decode cX9_undo 14 = .ok (.getfield 65, 3) := by decide +kernel
theorem dX9_undo_17 : decode cX9_undo 17 = .ok (.aload_n 0, 1) := by decide +kernel
theorem dX9_undo_18 : decode cX9_undo 18 = .ok (.getfield 56, 3) := by decide +kernel
theorem dX9_undo_21 : decode cX9_undo 21 = .ok (.invokevirtual 165, 3) := by decide +kernel
theorem dX9_undo_24 : decode cX9_undo 24 = .ok (.aload_n 0, 1) := by decide +kernel
theorem dX9_undo_25 : decode cX9_undo 25 = .ok (.getfield 65, 3) := by decide +kernel
theorem dX9_undo_28 : decode cX9_undo 28 = .ok (.getfield 164, 3) := by decide +kernel
theorem dX9_undo_31 : decode cX9_undo 31 = .ok (.ireturn, 1) := by decide +kernel
theorem dX9_price_0 : decode cX9_price 0 = .ok (.aload_n 0, 1) := by decide +kernel
theorem dX9_price_1 : decode cX9_price 1 = .ok (.iload_n 1, 1) := by decide +kernel
theorem dX9_price_2 : decode cX9_price 2 = .ok (.invokevirtual 111, 3) := by decide +kernel
theorem dX9_price_5 : decode cX9_price 5 = .ok (.ifCond .ne 5, 3) := by decide +kernel
theorem dX9_price_8 : decode cX9_price 8 = .ok (.iconst (-1), 1) := by decide +kernel
theorem dX9_price_9 : decode cX9_price 9 = .ok (.ireturn, 1) := by decide +kernel
theorem dX9_price_10 : decode cX9_price 10 = .ok (.aload_n 0, 1) := by decide +kernel
theorem dX9_price_11 : decode cX9_price 11 = .ok (.getfield 56, 3) := by decide +kernel
theorem dX9_price_14 : decode cX9_price 14 = .ok (.iload_n 1, 1) := by decide +kernel
theorem dX9_price_15 : decode cX9_price 15 = .ok (.invokevirtual 118, 3) := by decide +kernel
theorem dX9_price_18 : decode cX9_price 18 = .ok (.ifCond .eq 8, 3) := by decide +kernel
theorem dX9_price_21 : decode cX9_price 21 = .ok (.bipush (-2), 2) := by decide +kernel
theorem dX9_price_23 : decode cX9_price 23 = .ok (.goto 18, 3) := by decide +kernel
theorem dX9_price_26 : decode cX9_price 26 = .ok (.aload_n 0, 1) := by decide +kernel
theorem dX9_price_27 : decode cX9_price 27 = .ok (.getfield 33, 3) := by decide +kernel
theorem dX9_price_30 : decode cX9_price 30 = .ok (.iload_n 1, 1) := by decide +kernel
theorem dX9_price_31 : decode cX9_price 31 = .ok (.aload_n 0, 1) := by decide +kernel
theorem dX9_price_32 : decode cX9_price 32 = .ok (.getfield 56, 3) := by decide +kernel
theorem dX9_price_35 : decode cX9_price 35 = .ok (.getfield 135, 3) := by decide +kernel
theorem dX9_price_38 : decode cX9_price 38 = .ok (.invokevirtual 149, 3) := by decide +kernel
theorem dX9_price_41 : decode cX9_price 41 = .ok (.ireturn, 1) := by decide +kernel
theorem dX9_would_0 : decode cX9_would 0 = .ok (.iload_n 1, 1) := by decide +kernel
theorem dX9_would_1 : decode cX9_would 1 = .ok (.invokestatic 168, 3) := by decide +kernel
theorem dX9_would_4 : decode cX9_would 4 = .ok (.ifCond .ne 5, 3) := by decide +kernel
theorem dX9_would_7 : decode cX9_would 7 = .ok (.iconst (-1), 1) := by decide +kernel
theorem dX9_would_8 : decode cX9_would 8 = .ok (.ireturn, 1) := by decide +kernel
theorem dX9_would_9 : decode cX9_would 9 = .ok (.aload_n 0, 1) := by decide +kernel
theorem dX9_would_10 : decode cX9_would 10 = .ok (.getfield 33, 3) := by decide +kernel
theorem dX9_would_13 : decode cX9_would 13 = .ok (.aload_n 0, 1) := by decide +kernel
theorem dX9_would_14 : decode cX9_would 14 = .ok (.getfield 56, 3) := by decide +kernel
theorem dX9_would_17 : decode cX9_would 17 = .ok (.getfield 135, 3) := by decide +kernel
theorem dX9_would_20 : decode cX9_would 20 = .ok (.aload_n 0, 1) := by decide +kernel
theorem dX9_would_21 : decode cX9_would 21 = .ok (.invokevirtual 128, 3) := by decide +kernel
theorem dX9_would_24 : decode cX9_would 24 = .ok (.invokevirtual 171, 3) := by decide +kernel
theorem dX9_would_27 : decode cX9_would 27 = .ok (.istore_n 2, 1) := by decide +kernel
theorem dX9_would_28 : decode cX9_would 28 = .ok (.iload_n 2, 1) := by decide +kernel
theorem dX9_would_29 : decode cX9_would 29 = .ok (.iload_n 1, 1) := by decide +kernel
theorem dX9_would_30 : decode cX9_would 30 = .ok (.ifCond .ne 15, 3) := by decide +kernel
theorem dX9_would_33 : decode cX9_would 33 = .ok (.aload_n 0, 1) := by decide +kernel
theorem dX9_would_34 : decode cX9_would 34 = .ok (.getfield 56, 3) := by decide +kernel
theorem dX9_would_37 : decode cX9_would 37 = .ok (.getfield 135, 3) := by decide +kernel
theorem dX9_would_40 : decode cX9_would 40 = .ok (.iconst (-1), 1) := by decide +kernel
theorem dX9_would_41 : decode cX9_would 41 = .ok (.ixor, 1) := by decide +kernel
theorem dX9_would_42 : decode cX9_would 42 = .ok (.goto 10, 3) := by decide +kernel
theorem dX9_would_45 : decode cX9_would 45 = .ok (.aload_n 0, 1) := by decide +kernel
theorem dX9_would_46 : decode cX9_would 46 = .ok (.getfield 56, 3) := by decide +kernel
theorem dX9_would_49 : decode cX9_would 49 = .ok (.getfield 135, 3) := by decide +kernel
theorem dX9_would_52 : decode cX9_would 52 = .ok (.iand, 1) := by decide +kernel
theorem dX9_would_53 : decode cX9_would 53 = .ok (.ireturn, 1) := by decide +kernel
theorem dX9_behind_0 : decode cX9_behind 0 = .ok (.iload_n 1, 1) := by decide +kernel
theorem dX9_behind_1 : decode cX9_behind 1 = .ok (.ifCond .lt 9, 3) := by decide +kernel
theorem dX9_behind_4 : decode cX9_behind 4 = .ok (.iload_n 1, 1) := by decide +kernel
theorem dX9_behind_5 : decode cX9_behind 5 = .ok (.bipush 60, 2) := by decide +kernel
theorem dX9_behind_7 : decode cX9_behind 7 = .ok (.if_icmp .le 5, 3) := by decide +kernel
theorem dX9_behind_10 : decode cX9_behind 10 = .ok (.iconst (-1), 1) := by decide +kernel
theorem dX9_behind_11 : decode cX9_behind 11 = .ok (.ireturn, 1) := by decide +kernel
theorem dX9_behind_12 : decode cX9_behind 12 = .ok (.aload_n 0, 1) := by decide +kernel
theorem dX9_behind_13 : decode cX9_behind 13 = .ok (.getfield 42, 3) := by decide +kernel
theorem dX9_behind_16 : decode cX9_behind 16 = .ok (.aload_n 0, 1) := by decide +kernel
theorem dX9_behind_17 : decode cX9_behind 17 = .ok (.getfield 56, 3) := by decide +kernel
theorem dX9_behind_20 : decode cX9_behind 20 = .ok (.getfield 135, 3) := by decide +kernel
theorem dX9_behind_23 : decode cX9_behind 23 = .ok (.iload_n 1, 1) := by decide +kernel
theorem dX9_behind_24 : decode cX9_behind 24 = .ok (.iload_n 2, 1) := by decide +kernel
theorem dX9_behind_25 : decode cX9_behind 25 = .ok (.invokevirtual 174, 3) := by decide +kernel
theorem dX9_behind_28 : decode cX9_behind 28 = .ok (.ireturn, 1) := by decide +kernel
theorem dX9_rest_0 : decode cX9_rest 0 = .ok (.iload_n 2, 1) := by decide +kernel
theorem dX9_rest_1 : decode cX9_rest 1 = .ok (.invokestatic 168, 3) := by decide +kernel
theorem dX9_rest_4 : decode cX9_rest 4 = .ok (.ifCond .ne 5, 3) := by decide +kernel
theorem dX9_rest_7 : decode cX9_rest 7 = .ok (.iconst (-1), 1) := by decide +kernel
theorem dX9_rest_8 : decode cX9_rest 8 = .ok (.ireturn, 1) := by decide +kernel
theorem dX9_rest_9 : decode cX9_rest 9 = .ok (.iload_n 2, 1) := by decide +kernel
theorem dX9_rest_10 : decode cX9_rest 10 = .ok (.ifCond .ne 21, 3) := by decide +kernel
theorem dX9_rest_13 : decode cX9_rest 13 = .ok (.aload_n 0, 1) := by decide +kernel
theorem dX9_rest_14 : decode cX9_rest 14 = .ok (.getfield 42, 3) := by decide +kernel
theorem dX9_rest_17 : decode cX9_rest 17 = .ok (.aload_n 0, 1) := by decide +kernel
theorem dX9_rest_18 : decode cX9_rest 18 = .ok (.getfield 56, 3) := by decide +kernel
theorem dX9_rest_21 : decode cX9_rest 21 = .ok (.getfield 135, 3) := by decide +kernel
theorem dX9_rest_24 : decode cX9_rest 24 = .ok (.iload_n 1, 1) := by decide +kernel
theorem dX9_rest_25 : decode cX9_rest 25 = .ok (.invokevirtual 178, 3) := by decide +kernel
theorem dX9_rest_28 : decode cX9_rest 28 = .ok (.goto 18, 3) := by decide +kernel
theorem dX9_rest_31 : decode cX9_rest 31 = .ok (.aload_n 0, 1) := by decide +kernel
theorem dX9_rest_32 : decode cX9_rest 32 = .ok (.getfield 42, 3) := by decide +kernel
theorem dX9_rest_35 : decode cX9_rest 35 = .ok (.aload_n 0, 1) := by decide +kernel
theorem dX9_rest_36 : decode cX9_rest 36 = .ok (.getfield 56, 3) := by decide +kernel
theorem dX9_rest_39 : decode cX9_rest 39 = .ok (.getfield 135, 3) := by decide +kernel
theorem dX9_rest_42 : decode cX9_rest 42 = .ok (.iload_n 1, 1) := by decide +kernel
theorem dX9_rest_43 : decode cX9_rest 43 = .ok (.invokevirtual 182, 3) := by decide +kernel
theorem dX9_rest_46 : decode cX9_rest 46 = .ok (.ireturn, 1) := by decide +kernel
theorem dX9_rests_0 : decode cX9_rests 0 = .ok (.iload_n 1, 1) := by decide +kernel
theorem dX9_rests_1 : decode cX9_rests 1 = .ok (.iconst (-1), 1) := by decide +kernel
theorem dX9_rests_2 : decode cX9_rests 2 = .ok (.if_icmp .ge 5, 3) := by decide +kernel
theorem dX9_rests_5 : decode cX9_rests 5 = .ok (.iconst (-1), 1) := by decide +kernel
theorem dX9_rests_6 : decode cX9_rests 6 = .ok (.ireturn, 1) := by decide +kernel
theorem dX9_rests_7 : decode cX9_rests 7 = .ok (.iload_n 1, 1) := by decide +kernel
theorem dX9_rests_8 : decode cX9_rests 8 = .ok (.iconst (-1), 1) := by decide +kernel
theorem dX9_rests_9 : decode cX9_rests 9 = .ok (.if_icmp .ne 13, 3) := by decide +kernel
theorem dX9_rests_12 : decode cX9_rests 12 = .ok (.aload_n 0, 1) := by decide +kernel
theorem dX9_rests_13 : decode cX9_rests 13 = .ok (.getfield 42, 3) := by decide +kernel
theorem dX9_rests_16 : decode cX9_rests 16 = .ok (.invokevirtual 185, 3) := by decide +kernel
theorem dX9_rests_19 : decode cX9_rests 19 = .ok (.goto 11, 3) := by decide +kernel
theorem dX9_rests_22 : decode cX9_rests 22 = .ok (.aload_n 0, 1) := by decide +kernel
theorem dX9_rests_23 : decode cX9_rests 23 = .ok (.getfield 42, 3) := by decide +kernel
theorem dX9_rests_26 : decode cX9_rests 26 = .ok (.iload_n 1, 1) := by decide +kernel
theorem dX9_rests_27 : decode cX9_rests 27 = .ok (.invokevirtual 188, 3) := by decide +kernel
theorem dX9_rests_30 : decode cX9_rests 30 = .ok (.ireturn, 1) := by decide +kernel
theorem dX9_tip_0 : decode cX9_tip 0 = .ok (.aload_n 0, 1) := by decide +kernel
theorem dX9_tip_1 : decode cX9_tip 1 = .ok (.iload_n 1, 1) := by decide +kernel
theorem dX9_tip_2 : decode cX9_tip 2 = .ok (.invokevirtual 125, 3) := by decide +kernel
theorem dX9_tip_5 : decode cX9_tip 5 = .ok (.ifCond .eq 10, 3) := by decide +kernel
theorem dX9_tip_8 : decode cX9_tip 8 = .ok (.iload_n 3, 1) := by decide +kernel
theorem dX9_tip_9 : decode cX9_tip 9 = .ok (.invokestatic 168, 3) := by decide +kernel
theorem dX9_tip_12 : decode cX9_tip 12 = .ok (.ifCond .ne 5, 3) := by decide +kernel
theorem dX9_tip_15 : decode cX9_tip 15 = .ok (.iconst (-1), 1) := by decide +kernel
theorem dX9_tip_16 : decode cX9_tip 16 = .ok (.ireturn, 1) := by decide +kernel
theorem dX9_tip_17 : decode cX9_tip 17 = .ok (.aload_n 0, 1) := by decide +kernel
theorem dX9_tip_18 : decode cX9_tip 18 = .ok (.getfield 42, 3) := by decide +kernel
theorem dX9_tip_21 : decode cX9_tip 21 = .ok (.aload_n 0, 1) := by decide +kernel
theorem dX9_tip_22 : decode cX9_tip 22 = .ok (.getfield 56, 3) := by decide +kernel
theorem dX9_tip_25 : decode cX9_tip 25 = .ok (.getfield 135, 3) := by decide +kernel
theorem dX9_tip_28 : decode cX9_tip 28 = .ok (.iload_n 1, 1) := by decide +kernel
theorem dX9_tip_29 : decode cX9_tip 29 = .ok (.iload_n 2, 1) := by decide +kernel
theorem dX9_tip_30 : decode cX9_tip 30 = .ok (.invokevirtual 191, 3) := by decide +kernel
theorem dX9_tip_33 : decode cX9_tip 33 = .ok (.istore 4, 2) := by decide +kernel
theorem dX9_tip_35 : decode cX9_tip 35 = .ok (.iload 4, 2) := by decide +kernel
theorem dX9_tip_37 : decode cX9_tip 37 = .ok (.ifCond .lt 8, 3) := by decide +kernel
theorem dX9_tip_40 : decode cX9_tip 40 = .ok (.iload_n 3, 1) := by decide +kernel
theorem dX9_tip_41 : decode cX9_tip 41 = .ok (.iconst 1, 1) := by decide +kernel
theorem dX9_tip_42 : decode cX9_tip 42 = .ok (.if_icmp .ne 8, 3) := by decide +kernel
theorem dX9_tip_45 : decode cX9_tip 45 = .ok (.iload 4, 2) := by decide +kernel
theorem dX9_tip_47 : decode cX9_tip 47 = .ok (.goto 8, 3) := by decide +kernel
theorem dX9_tip_50 : decode cX9_tip 50 = .ok (.iload 4, 2) := by decide +kernel
theorem dX9_tip_52 : decode cX9_tip 52 = .ok (.invokestatic 159, 3) := by decide +kernel
theorem dX9_tip_55 : decode cX9_tip 55 = .ok (.ireturn, 1) := by decide +kernel
theorem dX9_place_0 : decode cX9_place 0 = .ok (.aload_n 0, 1) := by decide +kernel
theorem dX9_place_1 : decode cX9_place 1 = .ok (.iload_n 1, 1) := by decide +kernel
theorem dX9_place_2 : decode cX9_place 2 = .ok (.invokevirtual 111, 3) := by decide +kernel
theorem dX9_place_5 : decode cX9_place 5 = .ok (.ifCond .eq 10, 3) := by decide +kernel
theorem dX9_place_8 : decode cX9_place 8 = .ok (.iload_n 2, 1) := by decide +kernel
theorem dX9_place_9 : decode cX9_place 9 = .ok (.invokestatic 168, 3) := by decide +kernel
theorem dX9_place_12 : decode cX9_place 12 = .ok (.ifCond .ne 5, 3) := by decide +kernel
theorem dX9_place_15 : decode cX9_place 15 = .ok (.iconst (-1), 1) := by decide +kernel
theorem dX9_place_16 : decode cX9_place 16 = .ok (.ireturn, 1) := by decide +kernel
theorem dX9_place_17 : decode cX9_place 17 = .ok (.aload_n 0, 1) := by decide +kernel
theorem dX9_place_18 : decode cX9_place 18 = .ok (.getfield 56, 3) := by decide +kernel
theorem dX9_place_21 : decode cX9_place 21 = .ok (.iload_n 1, 1) := by decide +kernel
theorem dX9_place_22 : decode cX9_place 22 = .ok (.invokevirtual 118, 3) := by decide +kernel
theorem dX9_place_25 : decode cX9_place 25 = .ok (.ifCond .eq 6, 3) := by decide +kernel
theorem dX9_place_28 : decode cX9_place 28 = .ok (.bipush (-2), 2) := by decide +kernel
theorem dX9_place_30 : decode cX9_place 30 = .ok (.ireturn, 1) := by decide +kernel
theorem dX9_place_31 : decode cX9_place 31 = .ok (.aload_n 0, 1) := by decide +kernel
theorem dX9_place_32 : decode cX9_place 32 = .ok (.getfield 49, 3) := by decide +kernel
theorem dX9_place_35 : decode cX9_place 35 = .ok (.iload_n 1, 1) := by decide +kernel
theorem dX9_place_36 : decode cX9_place 36 = .ok (.aload_n 0, 1) := by decide +kernel
theorem dX9_place_37 : decode cX9_place 37 = .ok (.getfield 56, 3) := by decide +kernel
theorem dX9_place_40 : decode cX9_place 40 = .ok (.getfield 135, 3) := by decide +kernel
theorem dX9_place_43 : decode cX9_place 43 = .ok (.invokevirtual 194, 3) := by decide +kernel
theorem dX9_place_46 : decode cX9_place 46 = .ok (.istore_n 3, 1) := by decide +kernel
theorem dX9_place_47 : decode cX9_place 47 = .ok (.iload_n 2, 1) := by decide +kernel
theorem dX9_place_48 : decode cX9_place 48 = .ok (.ifCond .ne 7, 3) := by decide +kernel
theorem dX9_place_51 : decode cX9_place 51 = .ok (.iload_n 3, 1) := by decide +kernel
theorem dX9_place_52 : decode cX9_place 52 = .ok (.goto 23, 3) := by decide +kernel
theorem dX9_place_55 : decode cX9_place 55 = .ok (.aload_n 0, 1) := by decide +kernel
theorem dX9_place_56 : decode cX9_place 56 = .ok (.getfield 49, 3) := by decide +kernel
theorem dX9_place_59 : decode cX9_place 59 = .ok (.iload_n 1, 1) := by decide +kernel
theorem dX9_place_60 : decode cX9_place 60 = .ok (.iload_n 3, 1) := by decide +kernel
theorem dX9_place_61 : decode cX9_place 61 = .ok (.aload_n 0, 1) := by decide +kernel
theorem dX9_place_62 : decode cX9_place 62 = .ok (.getfield 56, 3) := by decide +kernel
theorem dX9_place_65 : decode cX9_place 65 = .ok (.getfield 135, 3) := by decide +kernel
theorem dX9_place_68 : decode cX9_place 68 = .ok (.invokevirtual 197, 3) := by decide +kernel
theorem dX9_place_71 : decode cX9_place 71 = .ok (.sipush 1000, 3) := by decide +kernel
theorem dX9_place_74 : decode cX9_place 74 = .ok (.iadd, 1) := by decide +kernel
theorem dX9_place_75 : decode cX9_place 75 = .ok (.ireturn, 1) := by decide +kernel
theorem dX9_burn_0 : decode cX9_burn 0 = .ok (.aload_n 0, 1) := by decide +kernel
theorem dX9_burn_1 : decode cX9_burn 1 = .ok (.iload_n 1, 1) := by decide +kernel
theorem dX9_burn_2 : decode cX9_burn 2 = .ok (.invokevirtual 111, 3) := by decide +kernel
theorem dX9_burn_5 : decode cX9_burn 5 = .ok (.ifCond .ne 5, 3) := by decide +kernel
theorem dX9_burn_8 : decode cX9_burn 8 = .ok (.iconst (-1), 1) := by decide +kernel
theorem dX9_burn_9 : decode cX9_burn 9 = .ok (.ireturn, 1) := by decide +kernel
theorem dX9_burn_10 : decode cX9_burn 10 = .ok (.aload_n 0, 1) := by decide +kernel
theorem dX9_burn_11 : decode cX9_burn 11 = .ok (.getfield 56, 3) := by decide +kernel
theorem dX9_burn_14 : decode cX9_burn 14 = .ok (.iload_n 1, 1) := by decide +kernel
theorem dX9_burn_15 : decode cX9_burn 15 = .ok (.invokevirtual 118, 3) := by decide +kernel
theorem dX9_burn_18 : decode cX9_burn 18 = .ok (.ifCond .eq 8, 3) := by decide +kernel
theorem dX9_burn_21 : decode cX9_burn 21 = .ok (.bipush (-2), 2) := by decide +kernel
theorem dX9_burn_23 : decode cX9_burn 23 = .ok (.goto 18, 3) := by decide +kernel
theorem dX9_burn_26 : decode cX9_burn 26 = .ok (.aload_n 0, 1) := by decide +kernel
theorem dX9_burn_27 : decode cX9_burn 27 = .ok (.getfield 49, 3) := by decide +kernel
theorem dX9_burn_30 : decode cX9_burn 30 = .ok (.iload_n 1, 1) := by decide +kernel
theorem dX9_burn_31 : decode cX9_burn 31 = .ok (.aload_n 0, 1) := by decide +kernel
theorem dX9_burn_32 : decode cX9_burn 32 = .ok (.getfield 56, 3) := by decide +kernel
theorem dX9_burn_35 : decode cX9_burn 35 = .ok (.getfield 135, 3) := by decide +kernel
theorem dX9_burn_38 : decode cX9_burn 38 = .ok (.invokevirtual 200, 3) := by decide +kernel
theorem dX9_burn_41 : decode cX9_burn 41 = .ok (.ireturn, 1) := by decide +kernel
theorem dX9_share_0 : decode cX9_share 0 = .ok (.aload_n 0, 1) := by decide +kernel
theorem dX9_share_1 : decode cX9_share 1 = .ok (.getfield 49, 3) := by decide +kernel
theorem dX9_share_4 : decode cX9_share 4 = .ok (.aload_n 0, 1) := by decide +kernel
theorem dX9_share_5 : decode cX9_share 5 = .ok (.getfield 56, 3) := by decide +kernel
theorem dX9_share_8 : decode cX9_share 8 = .ok (.getfield 135, 3) := by decide +kernel
theorem dX9_share_11 : decode cX9_share 11 = .ok (.invokevirtual 203, 3) := by decide +kernel
theorem dX9_share_14 : decode cX9_share 14 = .ok (.ireturn, 1) := by decide +kernel
theorem dX9_seen_0 : decode cX9_seen 0 = .ok (.aload_n 0, 1) := by decide +kernel
theorem dX9_seen_1 : decode cX9_seen 1 = .ok (.iload_n 1, 1) := by decide +kernel
theorem dX9_seen_2 : decode cX9_seen 2 = .ok (.invokevirtual 111, 3) := by decide +kernel
theorem dX9_seen_5 : decode cX9_seen 5 = .ok (.ifCond .eq 13, 3) := by decide +kernel
theorem dX9_seen_8 : decode cX9_seen 8 = .ok (.iload_n 2, 1) := by decide +kernel
theorem dX9_seen_9 : decode cX9_seen 9 = .ok (.ifCond .lt 9, 3) := by decide +kernel
theorem dX9_seen_12 : decode cX9_seen 12 = .ok (.iload_n 2, 1) := by decide +kernel
theorem dX9_seen_13 : decode cX9_seen 13 = .ok (.bipush 7, 2) := by decide +kernel
theorem dX9_seen_15 : decode cX9_seen 15 = .ok (.if_icmp .le 5, 3) := by decide +kernel
theorem dX9_seen_18 : decode cX9_seen 18 = .ok (.iconst (-1), 1) := by decide +kernel
theorem dX9_seen_19 : decode cX9_seen 19 = .ok (.ireturn, 1) := by decide +kernel
theorem dX9_seen_20 : decode cX9_seen 20 = .ok (.aload_n 0, 1) := by decide +kernel
theorem dX9_seen_21 : decode cX9_seen 21 = .ok (.getfield 75, 3) := by decide +kernel
theorem dX9_seen_24 : decode cX9_seen 24 = .ok (.getfield 206, 3) := by decide +kernel
theorem dX9_seen_27 : decode cX9_seen 27 = .ok (.bipush 8, 2) := by decide +kernel
theorem dX9_seen_29 : decode cX9_seen 29 = .ok (.if_icmp .lt 6, 3) := by decide +kernel
theorem dX9_seen_32 : decode cX9_seen 32 = .ok (.bipush (-3), 2) := by decide +kernel
theorem dX9_seen_34 : decode cX9_seen 34 = .ok (.ireturn, 1) := by decide +kernel
theorem dX9_seen_35 : decode cX9_seen 35 = .ok (.aload_n 0, 1) := by decide +kernel
theorem dX9_seen_36 : decode cX9_seen 36 = .ok (.getfield 75, 3) := by decide +kernel
theorem dX9_seen_39 : decode cX9_seen 39 = .ok (.iload_n 1, 1) := by decide +kernel
theorem dX9_seen_40 : decode cX9_seen 40 = .ok (.iload_n 2, 1) := by decide +kernel
theorem dX9_seen_41 : decode cX9_seen 41 = .ok (.iload_n 3, 1) := by decide +kernel
theorem dX9_seen_42 : decode cX9_seen 42 = .ok (.invokevirtual 207, 3) := by decide +kernel
theorem dX9_seen_45 : decode cX9_seen 45 = .ok (.aload_n 0, 1) := by decide +kernel
theorem dX9_seen_46 : decode cX9_seen 46 = .ok (.getfield 75, 3) := by decide +kernel
theorem dX9_seen_49 : decode cX9_seen 49 = .ok (.getfield 206, 3) := by decide +kernel
theorem dX9_seen_52 : decode cX9_seen 52 = .ok (.ireturn, 1) := by decide +kernel
theorem dX9_forget_0 : decode cX9_forget 0 = .ok (.aload_n 0, 1) := by decide +kernel
theorem dX9_forget_1 : decode cX9_forget 1 = .ok (.getfield 75, 3) := by decide +kernel
theorem dX9_forget_4 : decode cX9_forget 4 = .ok (.getfield 206, 3) := by decide +kernel
theorem dX9_forget_7 : decode cX9_forget 7 = .ok (.istore_n 1, 1) := by decide +kernel
theorem dX9_forget_8 : decode cX9_forget 8 = .ok (.aload_n 0, 1) := by decide +kernel
theorem dX9_forget_9 : decode cX9_forget 9 = .ok (.getfield 75, 3) := by decide +kernel
theorem dX9_forget_12 : decode cX9_forget 12 = .ok (.iconst 0, 1) := by decide +kernel
theorem dX9_forget_13 : decode cX9_forget 13 = .ok (.putfield 206, 3) := by decide +kernel
theorem dX9_forget_16 : decode cX9_forget 16 = .ok (.iload_n 1, 1) := by decide +kernel
theorem dX9_forget_17 : decode cX9_forget 17 = .ok (.ireturn, 1) := by decide +kernel
theorem dX9_likes_0 : decode cX9_likes 0 = .ok (.aload_n 0, 1) := by decide +kernel
theorem dX9_likes_1 : decode cX9_likes 1 = .ok (.iload_n 1, 1) := by decide +kernel
theorem dX9_likes_2 : decode cX9_likes 2 = .ok (.invokevirtual 111, 3) := by decide +kernel
theorem dX9_likes_5 : decode cX9_likes 5 = .ok (.ifCond .eq 10, 3) := by decide +kernel
theorem dX9_likes_8 : decode cX9_likes 8 = .ok (.iload_n 2, 1) := by decide +kernel
theorem dX9_likes_9 : decode cX9_likes 9 = .ok (.invokestatic 168, 3) := by decide +kernel
theorem dX9_likes_12 : decode cX9_likes 12 = .ok (.ifCond .ne 5, 3) := by decide +kernel
theorem dX9_likes_15 : decode cX9_likes 15 = .ok (.iconst (-1), 1) := by decide +kernel
theorem dX9_likes_16 : decode cX9_likes 16 = .ok (.ireturn, 1) := by decide +kernel
theorem dX9_likes_17 : decode cX9_likes 17 = .ok (.iconst 0, 1) := by decide +kernel
theorem dX9_likes_18 : decode cX9_likes 18 = .ok (.istore_n 3, 1) := by decide +kernel
theorem dX9_likes_19 : decode cX9_likes 19 = .ok (.bipush (-4), 2) := by decide +kernel
theorem dX9_likes_21 : decode cX9_likes 21 = .ok (.istore 4, 2) := by decide +kernel
theorem dX9_likes_23 : decode cX9_likes 23 = .ok (.bipush 99, 2) := by decide +kernel
theorem dX9_likes_25 : decode cX9_likes 25 = .ok (.istore 5, 2) := by decide +kernel
theorem dX9_likes_27 : decode cX9_likes 27 = .ok (.iload 5, 2) := by decide +kernel
theorem dX9_likes_29 : decode cX9_likes 29 = .ok (.ifCond .lt 36, 3) := by decide +kernel
theorem dX9_likes_32 : decode cX9_likes 32 = .ok (.aload_n 0, 1) := by decide +kernel
theorem dX9_likes_33 : decode cX9_likes 33 = .ok (.getfield 75, 3) := by decide +kernel
theorem dX9_likes_36 : decode cX9_likes 36 = .ok (.iload_n 1, 1) := by decide +kernel
theorem dX9_likes_37 : decode cX9_likes 37 = .ok (.iload 5, 2) := by decide +kernel
theorem dX9_likes_39 : decode cX9_likes 39 = .ok (.aload_n 0, 1) := by decide +kernel
theorem dX9_likes_40 : decode cX9_likes 40 = .ok (.getfield 33, 3) := by decide +kernel
theorem dX9_likes_43 : decode cX9_likes 43 = .ok (.getfield 108, 3) := by decide +kernel
theorem dX9_likes_46 : decode cX9_likes 46 = .ok (.invokevirtual 210, 3) := by decide +kernel
theorem dX9_likes_49 : decode cX9_likes 49 = .ok (.ifCond .eq 10, 3) := by decide +kernel
theorem dX9_likes_52 : decode cX9_likes 52 = .ok (.iinc 3 1, 3) := by decide +kernel
theorem dX9_likes_55 : decode cX9_likes 55 = .ok (.iload 5, 2) := by decide +kernel
theorem dX9_likes_57 : decode cX9_likes 57 = .ok (.istore 4, 2) := by decide +kernel
theorem dX9_likes_59 : decode cX9_likes 59 = .ok (.iinc 5 (-1), 3) := by decide +kernel
theorem dX9_likes_62 : decode cX9_likes 62 = .ok (.goto (-35), 3) := by decide +kernel
theorem dX9_likes_65 : decode cX9_likes 65 = .ok (.iload_n 2, 1) := by decide +kernel
theorem dX9_likes_66 : decode cX9_likes 66 = .ok (.ifCond .ne 7, 3) := by decide +kernel
theorem dX9_likes_69 : decode cX9_likes 69 = .ok (.iload_n 3, 1) := by decide +kernel
theorem dX9_likes_70 : decode cX9_likes 70 = .ok (.goto 5, 3) := by decide +kernel
theorem dX9_likes_73 : decode cX9_likes 73 = .ok (.iload 4, 2) := by decide +kernel
theorem dX9_likes_75 : decode cX9_likes 75 = .ok (.ireturn, 1) := by decide +kernel
theorem dX9_year_0 : decode cX9_year 0 = .ok (.iload_n 1, 1) := by decide +kernel
theorem dX9_year_1 : decode cX9_year 1 = .ok (.ifCond .lt 28, 3) := by decide +kernel
theorem dX9_year_4 : decode cX9_year 4 = .ok (.iload_n 1, 1) := by decide +kernel
theorem dX9_year_5 : decode cX9_year 5 = .ok (.sipush 9999, 3) := by decide +kernel
theorem dX9_year_8 : decode cX9_year 8 = .ok (.if_icmp .gt 21, 3) := by decide +kernel
theorem dX9_year_11 : decode cX9_year 11 = .ok (.iload_n 2, 1) := by decide +kernel
theorem dX9_year_12 : decode cX9_year 12 = .ok (.iconst 1, 1) := by decide +kernel
theorem dX9_year_13 : decode cX9_year 13 = .ok (.if_icmp .lt 16, 3) := by decide +kernel
theorem dX9_year_16 : decode cX9_year 16 = .ok (.iload_n 2, 1) := by decide +kernel
theorem dX9_year_17 : decode cX9_year 17 = .ok (.bipush 100, 2) := by decide +kernel
theorem dX9_year_19 : decode cX9_year 19 = .ok (.if_icmp .gt 10, 3) := by decide +kernel
theorem dX9_year_22 : decode cX9_year 22 = .ok (.iload_n 3, 1) := by decide +kernel
theorem dX9_year_23 : decode cX9_year 23 = .ok (.invokestatic 168, 3) := by decide +kernel
theorem dX9_year_26 : decode cX9_year 26 = .ok (.ifCond .ne 5, 3) := by decide +kernel
theorem dX9_year_29 : decode cX9_year 29 = .ok (.iconst (-1), 1) := by decide +kernel
theorem dX9_year_30 : decode cX9_year 30 = .ok (.ireturn, 1) := by decide +kernel
theorem dX9_year_31 : decode cX9_year 31 = .ok (.iload_n 3, 1) := by decide +kernel
theorem dX9_year_32 : decode cX9_year 32 = .ok (.ifCond .ne 22, 3) := by decide +kernel
theorem dX9_year_35 : decode cX9_year 35 = .ok (.aload_n 0, 1) := by decide +kernel
theorem dX9_year_36 : decode cX9_year 36 = .ok (.getfield 42, 3) := by decide +kernel
theorem dX9_year_39 : decode cX9_year 39 = .ok (.aload_n 0, 1) := by decide +kernel
theorem dX9_year_40 : decode cX9_year 40 = .ok (.getfield 56, 3) := by decide +kernel
theorem dX9_year_43 : decode cX9_year 43 = .ok (.getfield 135, 3) := by decide +kernel
theorem dX9_year_46 : decode cX9_year 46 = .ok (.iload_n 1, 1) := by decide +kernel
theorem dX9_year_47 : decode cX9_year 47 = .ok (.iload_n 2, 1) := by decide +kernel
theorem dX9_year_48 : decode cX9_year 48 = .ok (.invokevirtual 214, 3) := by decide +kernel
theorem dX9_year_51 : decode cX9_year 51 = .ok (.goto 19, 3) := by decide +kernel
theorem dX9_year_54 : decode cX9_year 54 = .ok (.aload_n 0, 1) := by decide +kernel
theorem dX9_year_55 : decode cX9_year 55 = .ok (.getfield 42, 3) := by decide +kernel
theorem dX9_year_58 : decode cX9_year 58 = .ok (.aload_n 0, 1) := by decide +kernel
theorem dX9_year_59 : decode cX9_year 59 = .ok (.getfield 56, 3) := by decide +kernel
theorem dX9_year_62 : decode cX9_year 62 = .ok (.getfield 135, 3) := by decide +kernel
theorem dX9_year_65 : decode cX9_year 65 = .ok (.iload_n 1, 1) := by decide +kernel
theorem dX9_year_66 : decode cX9_year 66 = .ok (.iload_n 2, 1) := by decide +kernel
theorem dX9_year_67 : decode cX9_year 67 = .ok (.invokevirtual 217, 3) := by decide +kernel
theorem dX9_year_70 : decode cX9_year 70 = .ok (.ireturn, 1) := by decide +kernel
theorem dX9_keep_0 : decode cX9_keep 0 = .ok (.aload_n 0, 1) := by decide +kernel
theorem dX9_keep_1 : decode cX9_keep 1 = .ok (.getfield 69, 3) := by decide +kernel
theorem dX9_keep_4 : decode cX9_keep 4 = .ok (.getfield 164, 3) := by decide +kernel
theorem dX9_keep_7 : decode cX9_keep 7 = .ok (.iconst 2, 1) := by decide +kernel
theorem dX9_keep_8 : decode cX9_keep 8 = .ok (.if_icmp .lt 6, 3) := by decide +kernel
theorem dX9_keep_11 : decode cX9_keep 11 = .ok (.bipush (-3), 2) := by decide +kernel
theorem dX9_keep_13 : decode cX9_keep 13 = .ok (.ireturn, 1) := by decide +kernel
theorem dX9_keep_14 : decode cX9_keep 14 = .ok (.aload_n 0, 1) := by decide +kernel
theorem dX9_keep_15 : decode cX9_keep 15 = .ok (.getfield 69, 3) := by decide +kernel
theorem dX9_keep_18 : decode cX9_keep 18 = .ok (.aload_n 0, 1) := by decide +kernel
theorem dX9_keep_19 : decode cX9_keep 19 = .ok (.getfield 56, 3) := by decide +kernel
theorem dX9_keep_22 : decode cX9_keep 22 = .ok (.invokevirtual 220, 3) := by decide +kernel
theorem dX9_keep_25 : decode cX9_keep 25 = .ok (.aload_n 0, 1) := by decide +kernel
theorem dX9_keep_26 : decode cX9_keep 26 = .ok (.getfield 69, 3) := by decide +kernel
theorem dX9_keep_29 : decode cX9_keep 29 = .ok (.getfield 164, 3) := by decide +kernel
theorem dX9_keep_32 : decode cX9_keep 32 = .ok (.ireturn, 1) := by decide +kernel
theorem dX9_back_0 : decode cX9_back 0 = .ok (.aload_n 0, 1) := by decide +kernel
theorem dX9_back_1 : decode cX9_back 1 = .ok (.getfield 69, 3) := by decide +kernel
theorem dX9_back_4 : decode cX9_back 4 = .ok (.getfield 164, 3) := by decide +kernel
theorem dX9_back_7 : decode cX9_back 7 = .ok (.ifCond .ne 6, 3) := by decide +kernel
theorem dX9_back_10 : decode cX9_back 10 = .ok (.bipush (-2), 2) := by decide +kernel
theorem dX9_back_12 : decode cX9_back 12 = .ok (.ireturn, 1) := by decide +kernel
theorem dX9_back_13 : decode cX9_back 13 = .ok (.aload_n 0, 1) := by decide +kernel
theorem dX9_back_14 : decode cX9_back 14 = .ok (.getfield 69, 3) := by decide +kernel
theorem dX9_back_17 : decode cX9_back 17 = .ok (.aload_n 0, 1) := by decide +kernel
theorem dX9_back_18 : decode cX9_back 18 = .ok (.getfield 56, 3) := by decide +kernel
theorem dX9_back_21 : decode cX9_back 21 = .ok (.invokevirtual 165, 3) := by decide +kernel
theorem dX9_back_24 : decode cX9_back 24 = .ok (.aload_n 0, 1) := by decide +kernel
theorem dX9_back_25 : decode cX9_back 25 = .ok (.getfield 65, 3) := by decide +kernel
theorem dX9_back_28 : decode cX9_back 28 = .ok (.iconst 0, 1) := by decide +kernel
theorem dX9_back_29 : decode cX9_back 29 = .ok (.putfield 164, 3) := by decide +kernel
theorem dX9_back_32 : decode cX9_back 32 = .ok (.aload_n 0, 1) := by decide +kernel
theorem dX9_back_33 : decode cX9_back 33 = .ok (.getfield 69, 3) := by decide +kernel
theorem dX9_back_36 : decode cX9_back 36 = .ok (.getfield 164, 3) := by decide +kernel
theorem dX9_back_39 : decode cX9_back 39 = .ok (.ireturn, 1) := by decide +kernel
theorem dX9_count_0 : decode cX9_count 0 = .ok (.iload_n 1, 1) := by decide +kernel
theorem dX9_count_1 : decode cX9_count 1 = .ok (.tableswitch 99 0 6 #[43, 54, 62, 67, 75, 83, 91], 43) := by decide +kernel
theorem dX9_count_44 : decode cX9_count 44 = .ok (.aload_n 0, 1) := by decide +kernel
theorem dX9_count_45 : decode cX9_count 45 = .ok (.getfield 33, 3) := by decide +kernel
theorem dX9_count_48 : decode cX9_count 48 = .ok (.getfield 108, 3) := by decide +kernel
theorem dX9_count_51 : decode cX9_count 51 = .ok (.getfield 105, 3) := by decide +kernel
theorem dX9_count_54 : decode cX9_count 54 = .ok (.ireturn, 1) := by decide +kernel
theorem dX9_count_55 : decode cX9_count 55 = .ok (.aload_n 0, 1) := by decide +kernel
theorem dX9_count_56 : decode cX9_count 56 = .ok (.getfield 56, 3) := by decide +kernel
theorem dX9_count_59 : decode cX9_count 59 = .ok (.getfield 135, 3) := by decide +kernel
theorem dX9_count_62 : decode cX9_count 62 = .ok (.ireturn, 1) := by decide +kernel
theorem dX9_count_63 : decode cX9_count 63 = .ok (.aload_n 0, 1) := by decide +kernel
theorem dX9_count_64 : decode cX9_count 64 = .ok (.invokevirtual 128, 3) := by decide +kernel
theorem dX9_count_67 : decode cX9_count 67 = .ok (.ireturn, 1) := by decide +kernel
theorem dX9_count_68 : decode cX9_count 68 = .ok (.aload_n 0, 1) := by decide +kernel
theorem dX9_count_69 : decode cX9_count 69 = .ok (.getfield 75, 3) := by decide +kernel
theorem dX9_count_72 : decode cX9_count 72 = .ok (.getfield 206, 3) := by decide +kernel
theorem dX9_count_75 : decode cX9_count 75 = .ok (.ireturn, 1) := by decide +kernel
theorem dX9_count_76 : decode cX9_count 76 = .ok (.aload_n 0, 1) := by decide +kernel
theorem dX9_count_77 : decode cX9_count 77 = .ok (.getfield 65, 3) := by decide +kernel
theorem dX9_count_80 : decode cX9_count 80 = .ok (.getfield 164, 3) := by decide +kernel
theorem dX9_count_83 : decode cX9_count 83 = .ok (.ireturn, 1) := by decide +kernel
