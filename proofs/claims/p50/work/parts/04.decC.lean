theorem dJ9_floorDiv_7cf53_0 : decode cJ9_floorDiv_7cf53 0 = .ok (.iload_n 0, 1) := by decide +kernel
theorem dJ9_floorDiv_7cf53_1 : decode cJ9_floorDiv_7cf53 1 = .ok (.iload_n 1, 1) := by decide +kernel
theorem dJ9_floorDiv_7cf53_2 : decode cJ9_floorDiv_7cf53 2 = .ok (.idiv, 1) := by decide +kernel
theorem dJ9_floorDiv_7cf53_3 : decode cJ9_floorDiv_7cf53 3 = .ok (.istore_n 2, 1) := by decide +kernel
theorem dJ9_floorDiv_7cf53_4 : decode cJ9_floorDiv_7cf53 4 = .ok (.iload_n 0, 1) := by decide +kernel
theorem dJ9_floorDiv_7cf53_5 : decode cJ9_floorDiv_7cf53 5 = .ok (.iload_n 1, 1) := by decide +kernel
theorem dJ9_floorDiv_7cf53_6 : decode cJ9_floorDiv_7cf53 6 = .ok (.ixor, 1) := by decide +kernel
theorem dJ9_floorDiv_7cf53_7 : decode cJ9_floorDiv_7cf53 7 = .ok (.ifCond .ge 14, 3) := by decide +kernel
theorem dJ9_floorDiv_7cf53_10 : decode cJ9_floorDiv_7cf53 10 = .ok (.iload_n 2, 1) := by decide +kernel
theorem dJ9_floorDiv_7cf53_11 : decode cJ9_floorDiv_7cf53 11 = .ok (.iload_n 1, 1) := by decide +kernel
theorem dJ9_floorDiv_7cf53_12 : decode cJ9_floorDiv_7cf53 12 = .ok (.imul, 1) := by decide +kernel
theorem dJ9_floorDiv_7cf53_13 : decode cJ9_floorDiv_7cf53 13 = .ok (.iload_n 0, 1) := by decide +kernel
theorem dJ9_floorDiv_7cf53_14 : decode cJ9_floorDiv_7cf53 14 = .ok (.if_icmp .eq 7, 3) := by decide +kernel
theorem dJ9_floorDiv_7cf53_17 : decode cJ9_floorDiv_7cf53 17 = .ok (.iload_n 2, 1) := by decide +kernel
theorem dJ9_floorDiv_7cf53_18 : decode cJ9_floorDiv_7cf53 18 = .ok (.iconst 1, 1) := by decide +kernel
theorem dJ9_floorDiv_7cf53_19 : decode cJ9_floorDiv_7cf53 19 = .ok (.isub, 1) := by decide +kernel
theorem dJ9_floorDiv_7cf53_20 : decode cJ9_floorDiv_7cf53 20 = .ok (.ireturn, 1) := by decide +kernel
theorem dJ9_floorDiv_7cf53_21 : decode cJ9_floorDiv_7cf53 21 = .ok (.iload_n 2, 1) := by decide +kernel
theorem dJ9_floorDiv_7cf53_22 : decode cJ9_floorDiv_7cf53 22 = .ok (.ireturn, 1) := by decide +kernel
theorem dJ9_floorMod_7cf53_0 : decode cJ9_floorMod_7cf53 0 = .ok (.iload_n 0, 1) := by decide +kernel
theorem dJ9_floorMod_7cf53_1 : decode cJ9_floorMod_7cf53 1 = .ok (.iload_n 1, 1) := by decide +kernel
theorem dJ9_floorMod_7cf53_2 : decode cJ9_floorMod_7cf53 2 = .ok (.irem, 1) := by decide +kernel
theorem dJ9_floorMod_7cf53_3 : decode cJ9_floorMod_7cf53 3 = .ok (.istore_n 2, 1) := by decide +kernel
theorem dJ9_floorMod_7cf53_4 : decode cJ9_floorMod_7cf53 4 = .ok (.iload_n 0, 1) := by decide +kernel
theorem dJ9_floorMod_7cf53_5 : decode cJ9_floorMod_7cf53 5 = .ok (.iload_n 1, 1) := by decide +kernel
theorem dJ9_floorMod_7cf53_6 : decode cJ9_floorMod_7cf53 6 = .ok (.ixor, 1) := by decide +kernel
theorem dJ9_floorMod_7cf53_7 : decode cJ9_floorMod_7cf53 7 = .ok (.ifCond .ge 11, 3) := by decide +kernel
theorem dJ9_floorMod_7cf53_10 : decode cJ9_floorMod_7cf53 10 = .ok (.iload_n 2, 1) := by decide +kernel
theorem dJ9_floorMod_7cf53_11 : decode cJ9_floorMod_7cf53 11 = .ok (.ifCond .eq 7, 3) := by decide +kernel
theorem dJ9_floorMod_7cf53_14 : decode cJ9_floorMod_7cf53 14 = .ok (.iload_n 2, 1) := by decide +kernel
theorem dJ9_floorMod_7cf53_15 : decode cJ9_floorMod_7cf53 15 = .ok (.iload_n 1, 1) := by decide +kernel
theorem dJ9_floorMod_7cf53_16 : decode cJ9_floorMod_7cf53 16 = .ok (.iadd, 1) := by decide +kernel
theorem dJ9_floorMod_7cf53_17 : decode cJ9_floorMod_7cf53 17 = .ok (.ireturn, 1) := by decide +kernel
theorem dJ9_floorMod_7cf53_18 : decode cJ9_floorMod_7cf53 18 = .ok (.iload_n 2, 1) := by decide +kernel
theorem dJ9_floorMod_7cf53_19 : decode cJ9_floorMod_7cf53 19 = .ok (.ireturn, 1) := by decide +kernel
theorem dJ9_abs_0f7a4_0 : decode cJ9_abs_0f7a4 0 = .ok (.iload_n 0, 1) := by decide +kernel
theorem dJ9_abs_0f7a4_1 : decode cJ9_abs_0f7a4 1 = .ok (.ifCond .ge 8, 3) := by decide +kernel
theorem dJ9_abs_0f7a4_4 : decode cJ9_abs_0f7a4 4 = .ok (.iload_n 0, 1) := by decide +kernel
theorem dJ9_abs_0f7a4_5 : decode cJ9_abs_0f7a4 5 = .ok (.ineg, 1) := by decide +kernel
theorem dJ9_abs_0f7a4_6 : decode cJ9_abs_0f7a4 6 = .ok (.goto 4, 3) := by decide +kernel
theorem dJ9_abs_0f7a4_9 : decode cJ9_abs_0f7a4 9 = .ok (.iload_n 0, 1) := by decide +kernel
theorem dJ9_abs_0f7a4_10 : decode cJ9_abs_0f7a4 10 = .ok (.ireturn, 1) := by decide +kernel
theorem dJ9_max_7cf53_0 : decode cJ9_max_7cf53 0 = .ok (.iload_n 0, 1) := by decide +kernel
theorem dJ9_max_7cf53_1 : decode cJ9_max_7cf53 1 = .ok (.iload_n 1, 1) := by decide +kernel
theorem dJ9_max_7cf53_2 : decode cJ9_max_7cf53 2 = .ok (.if_icmp .lt 7, 3) := by decide +kernel
theorem dJ9_max_7cf53_5 : decode cJ9_max_7cf53 5 = .ok (.iload_n 0, 1) := by decide +kernel
theorem dJ9_max_7cf53_6 : decode cJ9_max_7cf53 6 = .ok (.goto 4, 3) := by decide +kernel
theorem dJ9_max_7cf53_9 : decode cJ9_max_7cf53 9 = .ok (.iload_n 1, 1) := by decide +kernel
theorem dJ9_max_7cf53_10 : decode cJ9_max_7cf53 10 = .ok (.ireturn, 1) := by decide +kernel
theorem dJ9_min_7cf53_0 : decode cJ9_min_7cf53 0 = .ok (.iload_n 0, 1) := by decide +kernel
theorem dJ9_min_7cf53_1 : decode cJ9_min_7cf53 1 = .ok (.iload_n 1, 1) := by decide +kernel
theorem dJ9_min_7cf53_2 : decode cJ9_min_7cf53 2 = .ok (.if_icmp .gt 7, 3) := by decide +kernel
theorem dJ9_min_7cf53_5 : decode cJ9_min_7cf53 5 = .ok (.iload_n 0, 1) := by decide +kernel
theorem dJ9_min_7cf53_6 : decode cJ9_min_7cf53 6 = .ok (.goto 4, 3) := by decide +kernel
theorem dJ9_min_7cf53_9 : decode cJ9_min_7cf53 9 = .ok (.iload_n 1, 1) := by decide +kernel
theorem dJ9_min_7cf53_10 : decode cJ9_min_7cf53 10 = .ok (.ireturn, 1) := by decide +kernel
theorem dL_below_0 : decode cL_below 0 = .ok (.iload_n 0, 1) := by decide +kernel
theorem dL_below_1 : decode cL_below 1 = .ok (.ldc 7, 2) := by decide +kernel
theorem dL_below_3 : decode cL_below 3 = .ok (.iand, 1) := by decide +kernel
theorem dL_below_4 : decode cL_below 4 = .ok (.iload_n 1, 1) := by decide +kernel
theorem dL_below_5 : decode cL_below 5 = .ok (.irem, 1) := by decide +kernel
theorem dL_below_6 : decode cL_below 6 = .ok (.ireturn, 1) := by decide +kernel
theorem dL_cell_0 : decode cL_cell 0 = .ok (.iload_n 1, 1) := by decide +kernel
theorem dL_cell_1 : decode cL_cell 1 = .ok (.aload_n 0, 1) := by decide +kernel
theorem dL_cell_2 : decode cL_cell 2 = .ok (.arraylength, 1) := by decide +kernel
theorem dL_cell_3 : decode cL_cell 3 = .ok (.if_icmp .ge 9, 3) := by decide +kernel
theorem dL_cell_6 : decode cL_cell 6 = .ok (.aload_n 0, 1) := by decide +kernel
theorem dL_cell_7 : decode cL_cell 7 = .ok (.iload_n 1, 1) := by decide +kernel
theorem dL_cell_8 : decode cL_cell 8 = .ok (.iaload, 1) := by decide +kernel
theorem dL_cell_9 : decode cL_cell 9 = .ok (.goto 9, 3) := by decide +kernel
theorem dL_cell_12 : decode cL_cell 12 = .ok (.ldc 8, 2) := by decide +kernel
theorem dL_cell_14 : decode cL_cell 14 = .ok (.iload_n 1, 1) := by decide +kernel
theorem dL_cell_15 : decode cL_cell 15 = .ok (.iconst 3, 1) := by decide +kernel
theorem dL_cell_16 : decode cL_cell 16 = .ok (.iadd, 1) := by decide +kernel
theorem dL_cell_17 : decode cL_cell 17 = .ok (.imul, 1) := by decide +kernel
theorem dL_cell_18 : decode cL_cell 18 = .ok (.ireturn, 1) := by decide +kernel
theorem dL_pattern_0 : decode cL_pattern 0 = .ok (.iload_n 1, 1) := by decide +kernel
theorem dL_pattern_1 : decode cL_pattern 1 = .ok (.iconst 3, 1) := by decide +kernel
theorem dL_pattern_2 : decode cL_pattern 2 = .ok (.ishr, 1) := by decide +kernel
theorem dL_pattern_3 : decode cL_pattern 3 = .ok (.bipush 17, 2) := by decide +kernel
theorem dL_pattern_5 : decode cL_pattern 5 = .ok (.invokestatic 9, 3) := by decide +kernel
theorem dL_pattern_8 : decode cL_pattern 8 = .ok (.istore_n 3, 1) := by decide +kernel
theorem dL_pattern_9 : decode cL_pattern 9 = .ok (.iload_n 3, 1) := by decide +kernel
theorem dL_pattern_10 : decode cL_pattern 10 = .ok (.bipush 16, 2) := by decide +kernel
theorem dL_pattern_12 : decode cL_pattern 12 = .ok (.if_icmp .ne 7, 3) := by decide +kernel
theorem dL_pattern_15 : decode cL_pattern 15 = .ok (.iconst 0, 1) := by decide +kernel
theorem dL_pattern_16 : decode cL_pattern 16 = .ok (.goto 30, 3) := by decide +kernel
theorem dL_pattern_19 : decode cL_pattern 19 = .ok (.iload_n 2, 1) := by decide +kernel
theorem dL_pattern_20 : decode cL_pattern 20 = .ok (.ifCond .ne 11, 3) := by decide +kernel
theorem dL_pattern_23 : decode cL_pattern 23 = .ok (.iload_n 1, 1) := by decide +kernel
theorem dL_pattern_24 : decode cL_pattern 24 = .ok (.iconst 3, 1) := by decide +kernel
theorem dL_pattern_25 : decode cL_pattern 25 = .ok (.invokestatic 9, 3) := by decide +kernel
theorem dL_pattern_28 : decode cL_pattern 28 = .ok (.ifCond .le 17, 3) := by decide +kernel
theorem dL_pattern_31 : decode cL_pattern 31 = .ok (.iconst 1, 1) := by decide +kernel
theorem dL_pattern_32 : decode cL_pattern 32 = .ok (.iload_n 1, 1) := by decide +kernel
theorem dL_pattern_33 : decode cL_pattern 33 = .ok (.bipush 8, 2) := by decide +kernel
theorem dL_pattern_35 : decode cL_pattern 35 = .ok (.ishr, 1) := by decide +kernel
theorem dL_pattern_36 : decode cL_pattern 36 = .ok (.bipush 12, 2) := by decide +kernel
theorem dL_pattern_38 : decode cL_pattern 38 = .ok (.invokestatic 9, 3) := by decide +kernel
theorem dL_pattern_41 : decode cL_pattern 41 = .ok (.iadd, 1) := by decide +kernel
theorem dL_pattern_42 : decode cL_pattern 42 = .ok (.goto 4, 3) := by decide +kernel
theorem dL_pattern_45 : decode cL_pattern 45 = .ok (.iconst 0, 1) := by decide +kernel
theorem dL_pattern_46 : decode cL_pattern 46 = .ok (.istore 4, 2) := by decide +kernel
theorem dL_pattern_48 : decode cL_pattern 48 = .ok (.iload_n 3, 1) := by decide +kernel
theorem dL_pattern_49 : decode cL_pattern 49 = .ok (.bipush 16, 2) := by decide +kernel
theorem dL_pattern_51 : decode cL_pattern 51 = .ok (.if_icmp .ne 18, 3) := by decide +kernel
theorem dL_pattern_54 : decode cL_pattern 54 = .ok (.iconst 1, 1) := by decide +kernel
theorem dL_pattern_55 : decode cL_pattern 55 = .ok (.iload_n 1, 1) := by decide +kernel
theorem dL_pattern_56 : decode cL_pattern 56 = .ok (.bipush 12, 2) := by decide +kernel
theorem dL_pattern_58 : decode cL_pattern 58 = .ok (.ishr, 1) := by decide +kernel
theorem dL_pattern_59 : decode cL_pattern 59 = .ok (.sipush 200, 3) := by decide +kernel
theorem dL_pattern_62 : decode cL_pattern 62 = .ok (.invokestatic 9, 3) := by decide +kernel
theorem dL_pattern_65 : decode cL_pattern 65 = .ok (.iadd, 1) := by decide +kernel
theorem dL_pattern_66 : decode cL_pattern 66 = .ok (.goto 32, 3) := by decide +kernel
theorem dL_pattern_69 : decode cL_pattern 69 = .ok (.iload_n 3, 1) := by decide +kernel
theorem dL_pattern_70 : decode cL_pattern 70 = .ok (.iconst 2, 1) := by decide +kernel
theorem dL_pattern_71 : decode cL_pattern 71 = .ok (.if_icmp .ge 17, 3) := by decide +kernel
theorem dL_pattern_74 : decode cL_pattern 74 = .ok (.iconst 1, 1) := by decide +kernel
theorem dL_pattern_75 : decode cL_pattern 75 = .ok (.iload_n 1, 1) := by decide +kernel
theorem dL_pattern_76 : decode cL_pattern 76 = .ok (.bipush 12, 2) := by decide +kernel
theorem dL_pattern_78 : decode cL_pattern 78 = .ok (.ishr, 1) := by decide +kernel
theorem dL_pattern_79 : decode cL_pattern 79 = .ok (.bipush 31, 2) := by decide +kernel
theorem dL_pattern_81 : decode cL_pattern 81 = .ok (.invokestatic 9, 3) := by decide +kernel
theorem dL_pattern_84 : decode cL_pattern 84 = .ok (.iadd, 1) := by decide +kernel
theorem dL_pattern_85 : decode cL_pattern 85 = .ok (.goto 13, 3) := by decide +kernel
theorem dL_pattern_88 : decode cL_pattern 88 = .ok (.iconst 1, 1) := by decide +kernel
theorem dL_pattern_89 : decode cL_pattern 89 = .ok (.iload_n 1, 1) := by decide +kernel
theorem dL_pattern_90 : decode cL_pattern 90 = .ok (.bipush 12, 2) := by decide +kernel
theorem dL_pattern_92 : decode cL_pattern 92 = .ok (.ishr, 1) := by decide +kernel
theorem dL_pattern_93 : decode cL_pattern 93 = .ok (.iconst 5, 1) := by decide +kernel
theorem dL_pattern_94 : decode cL_pattern 94 = .ok (.invokestatic 9, 3) := by decide +kernel
theorem dL_pattern_97 : decode cL_pattern 97 = .ok (.iadd, 1) := by decide +kernel
theorem dL_pattern_98 : decode cL_pattern 98 = .ok (.istore 5, 2) := by decide +kernel
theorem dL_pattern_100 : decode cL_pattern 100 = .ok (.aload_n 0, 1) := by decide +kernel
theorem dL_pattern_101 : decode cL_pattern 101 = .ok (.iload 4, 2) := by decide +kernel
theorem dL_pattern_103 : decode cL_pattern 103 = .ok (.iload_n 3, 1) := by decide +kernel
theorem dL_pattern_104 : decode cL_pattern 104 = .ok (.iload 5, 2) := by decide +kernel
theorem dL_pattern_106 : decode cL_pattern 106 = .ok (.invokevirtual 15, 3) := by decide +kernel
theorem dL_pattern_109 : decode cL_pattern 109 = .ok (.ireturn, 1) := by decide +kernel
theorem dL_law_0 : decode cL_law 0 = .ok (.new 16, 3) := by decide +kernel
theorem dL_law_3 : decode cL_law 3 = .ok (.dup, 1) := by decide +kernel
theorem dL_law_4 : decode cL_law 4 = .ok (.invokespecial 21, 3) := by decide +kernel
theorem dL_law_7 : decode cL_law 7 = .ok (.astore_n 1, 1) := by decide +kernel
theorem dL_law_8 : decode cL_law 8 = .ok (.iconst 1, 1) := by decide +kernel
theorem dL_law_9 : decode cL_law 9 = .ok (.aload_n 0, 1) := by decide +kernel
theorem dL_law_10 : decode cL_law 10 = .ok (.iconst 0, 1) := by decide +kernel
theorem dL_law_11 : decode cL_law 11 = .ok (.invokestatic 22, 3) := by decide +kernel
theorem dL_law_14 : decode cL_law 14 = .ok (.iconst 5, 1) := by decide +kernel
theorem dL_law_15 : decode cL_law 15 = .ok (.invokestatic 9, 3) := by decide +kernel
theorem dL_law_18 : decode cL_law 18 = .ok (.iadd, 1) := by decide +kernel
theorem dL_law_19 : decode cL_law 19 = .ok (.istore_n 2, 1) := by decide +kernel
theorem dL_law_20 : decode cL_law 20 = .ok (.iconst 0, 1) := by decide +kernel
theorem dL_law_21 : decode cL_law 21 = .ok (.istore_n 3, 1) := by decide +kernel
theorem dL_law_22 : decode cL_law 22 = .ok (.iload_n 3, 1) := by decide +kernel
theorem dL_law_23 : decode cL_law 23 = .ok (.iload_n 2, 1) := by decide +kernel
theorem dL_law_24 : decode cL_law 24 = .ok (.if_icmp .ge 22, 3) := by decide +kernel
theorem dL_law_27 : decode cL_law 27 = .ok (.aload_n 1, 1) := by decide +kernel
theorem dL_law_28 : decode cL_law 28 = .ok (.aload_n 0, 1) := by decide +kernel
theorem dL_law_29 : decode cL_law 29 = .ok (.iconst 1, 1) := by decide +kernel
theorem dL_law_30 : decode cL_law 30 = .ok (.iload_n 3, 1) := by decide +kernel
theorem dL_law_31 : decode cL_law 31 = .ok (.iadd, 1) := by decide +kernel
theorem dL_law_32 : decode cL_law 32 = .ok (.invokestatic 22, 3) := by decide +kernel
theorem dL_law_35 : decode cL_law 35 = .ok (.iconst 1, 1) := by decide +kernel
theorem dL_law_36 : decode cL_law 36 = .ok (.invokestatic 26, 3) := by decide +kernel
theorem dL_law_39 : decode cL_law 39 = .ok (.pop, 1) := by decide +kernel
theorem dL_law_40 : decode cL_law 40 = .ok (.iinc 3 1, 3) := by decide +kernel
theorem dL_law_43 : decode cL_law 43 = .ok (.goto (-21), 3) := by decide +kernel
theorem dL_law_46 : decode cL_law 46 = .ok (.iconst 1, 1) := by decide +kernel
theorem dL_law_47 : decode cL_law 47 = .ok (.aload_n 0, 1) := by decide +kernel
theorem dL_law_48 : decode cL_law 48 = .ok (.bipush 6, 2) := by decide +kernel
theorem dL_law_50 : decode cL_law 50 = .ok (.invokestatic 22, 3) := by decide +kernel
theorem dL_law_53 : decode cL_law 53 = .ok (.iconst 3, 1) := by decide +kernel
theorem dL_law_54 : decode cL_law 54 = .ok (.invokestatic 9, 3) := by decide +kernel
theorem dL_law_57 : decode cL_law 57 = .ok (.iadd, 1) := by decide +kernel
theorem dL_law_58 : decode cL_law 58 = .ok (.istore_n 3, 1) := by decide +kernel
theorem dL_law_59 : decode cL_law 59 = .ok (.iconst 0, 1) := by decide +kernel
theorem dL_law_60 : decode cL_law 60 = .ok (.istore 4, 2) := by decide +kernel
theorem dL_law_62 : decode cL_law 62 = .ok (.iload 4, 2) := by decide +kernel
theorem dL_law_64 : decode cL_law 64 = .ok (.iload_n 3, 1) := by decide +kernel
theorem dL_law_65 : decode cL_law 65 = .ok (.if_icmp .ge 155, 3) := by decide +kernel
theorem dL_law_68 : decode cL_law 68 = .ok (.aload_n 1, 1) := by decide +kernel
theorem dL_law_69 : decode cL_law 69 = .ok (.aload_n 0, 1) := by decide +kernel
theorem dL_law_70 : decode cL_law 70 = .ok (.bipush 7, 2) := by decide +kernel
theorem dL_law_72 : decode cL_law 72 = .ok (.iload 4, 2) := by decide +kernel
theorem dL_law_74 : decode cL_law 74 = .ok (.iadd, 1) := by decide +kernel
theorem dL_law_75 : decode cL_law 75 = .ok (.invokestatic 22, 3) := by decide +kernel
theorem dL_law_78 : decode cL_law 78 = .ok (.sipush 1681, 3) := by decide +kernel
theorem dL_law_81 : decode cL_law 81 = .ok (.invokestatic 9, 3) := by decide +kernel
theorem dL_law_84 : decode cL_law 84 = .ok (.sipush 840, 3) := by decide +kernel
theorem dL_law_87 : decode cL_law 87 = .ok (.isub, 1) := by decide +kernel
theorem dL_law_88 : decode cL_law 88 = .ok (.invokevirtual 30, 3) := by decide +kernel
theorem dL_law_91 : decode cL_law 91 = .ok (.pop, 1) := by decide +kernel
theorem dL_law_92 : decode cL_law 92 = .ok (.aload_n 0, 1) := by decide +kernel
theorem dL_law_93 : decode cL_law 93 = .ok (.bipush 10, 2) := by decide +kernel
theorem dL_law_95 : decode cL_law 95 = .ok (.invokestatic 22, 3) := by decide +kernel
theorem dL_law_98 : decode cL_law 98 = .ok (.iconst 2, 1) := by decide +kernel
theorem dL_law_99 : decode cL_law 99 = .ok (.iload 4, 2) := by decide +kernel
theorem dL_law_101 : decode cL_law 101 = .ok (.imul, 1) := by decide +kernel
theorem dL_law_102 : decode cL_law 102 = .ok (.ishr, 1) := by decide +kernel
theorem dL_law_103 : decode cL_law 103 = .ok (.iconst 4, 1) := by decide +kernel
theorem dL_law_104 : decode cL_law 104 = .ok (.invokestatic 9, 3) := by decide +kernel
theorem dL_law_107 : decode cL_law 107 = .ok (.istore 5, 2) := by decide +kernel
theorem dL_law_109 : decode cL_law 109 = .ok (.iload 5, 2) := by decide +kernel
theorem dL_law_111 : decode cL_law 111 = .ok (.ifCond .le 103, 3) := by decide +kernel
theorem dL_law_114 : decode cL_law 114 = .ok (.aload_n 0, 1) := by decide +kernel
theorem dL_law_115 : decode cL_law 115 = .ok (.bipush 10, 2) := by decide +kernel
theorem dL_law_117 : decode cL_law 117 = .ok (.iload 5, 2) := by decide +kernel
theorem dL_law_119 : decode cL_law 119 = .ok (.iadd, 1) := by decide +kernel
theorem dL_law_120 : decode cL_law 120 = .ok (.iload 4, 2) := by decide +kernel
theorem dL_law_122 : decode cL_law 122 = .ok (.iadd, 1) := by decide +kernel
theorem dL_law_123 : decode cL_law 123 = .ok (.invokestatic 22, 3) := by decide +kernel
theorem dL_law_126 : decode cL_law 126 = .ok (.istore 6, 2) := by decide +kernel
theorem dL_law_128 : decode cL_law 128 = .ok (.sipush 1900, 3) := by decide +kernel
theorem dL_law_131 : decode cL_law 131 = .ok (.iload 6, 2) := by decide +kernel
theorem dL_law_133 : decode cL_law 133 = .ok (.sipush 200, 3) := by decide +kernel
theorem dL_law_136 : decode cL_law 136 = .ok (.invokestatic 9, 3) := by decide +kernel
theorem dL_law_139 : decode cL_law 139 = .ok (.iadd, 1) := by decide +kernel
theorem dL_law_140 : decode cL_law 140 = .ok (.istore 7, 2) := by decide +kernel
theorem dL_law_142 : decode cL_law 142 = .ok (.aload_n 1, 1) := by decide +kernel
theorem dL_law_143 : decode cL_law 143 = .ok (.iload 4, 2) := by decide +kernel
theorem dL_law_145 : decode cL_law 145 = .ok (.iload 7, 2) := by decide +kernel
theorem dL_law_147 : decode cL_law 147 = .ok (.sipush 2099, 3) := by decide +kernel
theorem dL_law_150 : decode cL_law 150 = .ok (.iload 7, 2) := by decide +kernel
theorem dL_law_152 : decode cL_law 152 = .ok (.iload 6, 2) := by decide +kernel
theorem dL_law_154 : decode cL_law 154 = .ok (.iconst 3, 1) := by decide +kernel
theorem dL_law_155 : decode cL_law 155 = .ok (.ishr, 1) := by decide +kernel
theorem dL_law_156 : decode cL_law 156 = .ok (.bipush 30, 2) := by decide +kernel
theorem dL_law_158 : decode cL_law 158 = .ok (.invokestatic 9, 3) := by decide +kernel
theorem dL_law_161 : decode cL_law 161 = .ok (.iadd, 1) := by decide +kernel
theorem dL_law_162 : decode cL_law 162 = .ok (.invokestatic 34, 3) := by decide +kernel
theorem dL_law_165 : decode cL_law 165 = .ok (.iload 6, 2) := by decide +kernel
theorem dL_law_167 : decode cL_law 167 = .ok (.iconst 5, 1) := by decide +kernel
theorem dL_law_168 : decode cL_law 168 = .ok (.ishr, 1) := by decide +kernel
theorem dL_law_169 : decode cL_law 169 = .ok (.iload_n 2, 1) := by decide +kernel
theorem dL_law_170 : decode cL_law 170 = .ok (.invokestatic 9, 3) := by decide +kernel
theorem dL_law_173 : decode cL_law 173 = .ok (.iload 6, 2) := by decide +kernel
theorem dL_law_175 : decode cL_law 175 = .ok (.bipush 7, 2) := by decide +kernel
theorem dL_law_177 : decode cL_law 177 = .ok (.ishr, 1) := by decide +kernel
theorem dL_law_178 : decode cL_law 178 = .ok (.sipush 1440, 3) := by decide +kernel
theorem dL_law_181 : decode cL_law 181 = .ok (.invokestatic 9, 3) := by decide +kernel
theorem dL_law_184 : decode cL_law 184 = .ok (.iload 6, 2) := by decide +kernel
theorem dL_law_186 : decode cL_law 186 = .ok (.bipush 9, 2) := by decide +kernel
theorem dL_law_188 : decode cL_law 188 = .ok (.ishr, 1) := by decide +kernel
theorem dL_law_189 : decode cL_law 189 = .ok (.iconst 3, 1) := by decide +kernel
theorem dL_law_190 : decode cL_law 190 = .ok (.invokestatic 9, 3) := by decide +kernel
theorem dL_law_193 : decode cL_law 193 = .ok (.iload 6, 2) := by decide +kernel
theorem dL_law_195 : decode cL_law 195 = .ok (.bipush 11, 2) := by decide +kernel
theorem dL_law_197 : decode cL_law 197 = .ok (.ishr, 1) := by decide +kernel
theorem dL_law_198 : decode cL_law 198 = .ok (.sipush 181, 3) := by decide +kernel
theorem dL_law_201 : decode cL_law 201 = .ok (.invokestatic 9, 3) := by decide +kernel
theorem dL_law_204 : decode cL_law 204 = .ok (.invokevirtual 39, 3) := by decide +kernel
theorem dL_law_207 : decode cL_law 207 = .ok (.pop, 1) := by decide +kernel
theorem dL_law_208 : decode cL_law 208 = .ok (.iinc 5 (-1), 3) := by decide +kernel
theorem dL_law_211 : decode cL_law 211 = .ok (.goto (-102), 3) := by decide +kernel
theorem dL_law_214 : decode cL_law 214 = .ok (.iinc 4 1, 3) := by decide +kernel
theorem dL_law_217 : decode cL_law 217 = .ok (.goto (-155), 3) := by decide +kernel
theorem dL_law_220 : decode cL_law 220 = .ok (.iconst 0, 1) := by decide +kernel
theorem dL_law_221 : decode cL_law 221 = .ok (.istore 4, 2) := by decide +kernel
theorem dL_law_223 : decode cL_law 223 = .ok (.iload 4, 2) := by decide +kernel
theorem dL_law_225 : decode cL_law 225 = .ok (.iconst 2, 1) := by decide +kernel
theorem dL_law_226 : decode cL_law 226 = .ok (.if_icmp .ge 113, 3) := by decide +kernel
theorem dL_law_229 : decode cL_law 229 = .ok (.aload_n 0, 1) := by decide +kernel
theorem dL_law_230 : decode cL_law 230 = .ok (.bipush 17, 2) := by decide +kernel
theorem dL_law_232 : decode cL_law 232 = .ok (.iload 4, 2) := by decide +kernel
theorem dL_law_234 : decode cL_law 234 = .ok (.iadd, 1) := by decide +kernel
theorem dL_law_235 : decode cL_law 235 = .ok (.invokestatic 22, 3) := by decide +kernel
theorem dL_law_238 : decode cL_law 238 = .ok (.istore 5, 2) := by decide +kernel
theorem dL_law_240 : decode cL_law 240 = .ok (.aload_n 1, 1) := by decide +kernel
theorem dL_law_241 : decode cL_law 241 = .ok (.iload 5, 2) := by decide +kernel
theorem dL_law_243 : decode cL_law 243 = .ok (.iload_n 3, 1) := by decide +kernel
theorem dL_law_244 : decode cL_law 244 = .ok (.invokestatic 9, 3) := by decide +kernel
theorem dL_law_247 : decode cL_law 247 = .ok (.iload 5, 2) := by decide +kernel
theorem dL_law_249 : decode cL_law 249 = .ok (.iconst 1, 1) := by decide +kernel
theorem dL_law_250 : decode cL_law 250 = .ok (.ishr, 1) := by decide +kernel
theorem dL_law_251 : decode cL_law 251 = .ok (.ldc 43, 2) := by decide +kernel
theorem dL_law_253 : decode cL_law 253 = .ok (.invokestatic 9, 3) := by decide +kernel
theorem dL_law_256 : decode cL_law 256 = .ok (.iload 5, 2) := by decide +kernel
theorem dL_law_258 : decode cL_law 258 = .ok (.iconst 3, 1) := by decide +kernel
theorem dL_law_259 : decode cL_law 259 = .ok (.ishr, 1) := by decide +kernel
theorem dL_law_260 : decode cL_law 260 = .ok (.iconst 4, 1) := by decide +kernel
theorem dL_law_261 : decode cL_law 261 = .ok (.invokestatic 9, 3) := by decide +kernel
theorem dL_law_264 : decode cL_law 264 = .ok (.iconst 1, 1) := by decide +kernel
theorem dL_law_265 : decode cL_law 265 = .ok (.iload 5, 2) := by decide +kernel
theorem dL_law_267 : decode cL_law 267 = .ok (.iconst 5, 1) := by decide +kernel
theorem dL_law_268 : decode cL_law 268 = .ok (.ishr, 1) := by decide +kernel
theorem dL_law_269 : decode cL_law 269 = .ok (.bipush 60, 2) := by decide +kernel
theorem dL_law_271 : decode cL_law 271 = .ok (.invokestatic 9, 3) := by decide +kernel
theorem dL_law_274 : decode cL_law 274 = .ok (.iadd, 1) := by decide +kernel
theorem dL_law_275 : decode cL_law 275 = .ok (.iload 5, 2) := by decide +kernel
theorem dL_law_277 : decode cL_law 277 = .ok (.bipush 9, 2) := by decide +kernel
theorem dL_law_279 : decode cL_law 279 = .ok (.ishr, 1) := by decide +kernel
theorem dL_law_280 : decode cL_law 280 = .ok (.sipush 128, 3) := by decide +kernel
theorem dL_law_283 : decode cL_law 283 = .ok (.invokestatic 9, 3) := by decide +kernel
theorem dL_law_286 : decode cL_law 286 = .ok (.invokevirtual 44, 3) := by decide +kernel
theorem dL_law_289 : decode cL_law 289 = .ok (.pop, 1) := by decide +kernel
theorem dL_law_290 : decode cL_law 290 = .ok (.iload 5, 2) := by decide +kernel
theorem dL_law_292 : decode cL_law 292 = .ok (.iconst 2, 1) := by decide +kernel
theorem dL_law_293 : decode cL_law 293 = .ok (.ishr, 1) := by decide +kernel
theorem dL_law_294 : decode cL_law 294 = .ok (.iconst 2, 1) := by decide +kernel
theorem dL_law_295 : decode cL_law 295 = .ok (.invokestatic 9, 3) := by decide +kernel
theorem dL_law_298 : decode cL_law 298 = .ok (.ifCond .ne 18, 3) := by decide +kernel
theorem dL_law_301 : decode cL_law 301 = .ok (.aload_n 1, 1) := by decide +kernel
theorem dL_law_302 : decode cL_law 302 = .ok (.iload 4, 2) := by decide +kernel
theorem dL_law_304 : decode cL_law 304 = .ok (.iload 5, 2) := by decide +kernel
theorem dL_law_306 : decode cL_law 306 = .ok (.iconst 4, 1) := by decide +kernel
theorem dL_law_307 : decode cL_law 307 = .ok (.ishr, 1) := by decide +kernel
theorem dL_law_308 : decode cL_law 308 = .ok (.iload_n 2, 1) := by decide +kernel
theorem dL_law_309 : decode cL_law 309 = .ok (.invokestatic 9, 3) := by decide +kernel
theorem dL_law_312 : decode cL_law 312 = .ok (.invokevirtual 48, 3) := by decide +kernel
theorem dL_law_315 : decode cL_law 315 = .ok (.pop, 1) := by decide +kernel
theorem dL_law_316 : decode cL_law 316 = .ok (.aload_n 1, 1) := by decide +kernel
theorem dL_law_317 : decode cL_law 317 = .ok (.iload 4, 2) := by decide +kernel
theorem dL_law_319 : decode cL_law 319 = .ok (.iload 5, 2) := by decide +kernel
theorem dL_law_321 : decode cL_law 321 = .ok (.bipush 6, 2) := by decide +kernel
theorem dL_law_323 : decode cL_law 323 = .ok (.ishr, 1) := by decide +kernel
theorem dL_law_324 : decode cL_law 324 = .ok (.bipush 40, 2) := by decide +kernel
theorem dL_law_326 : decode cL_law 326 = .ok (.invokestatic 9, 3) := by decide +kernel
theorem dL_law_329 : decode cL_law 329 = .ok (.invokevirtual 51, 3) := by decide +kernel
theorem dL_law_332 : decode cL_law 332 = .ok (.pop, 1) := by decide +kernel
theorem dL_law_333 : decode cL_law 333 = .ok (.iinc 4 1, 3) := by decide +kernel
theorem dL_law_336 : decode cL_law 336 = .ok (.goto (-113), 3) := by decide +kernel
theorem dL_law_339 : decode cL_law 339 = .ok (.iconst 0, 1) := by decide +kernel
theorem dL_law_340 : decode cL_law 340 = .ok (.istore 4, 2) := by decide +kernel
theorem dL_law_342 : decode cL_law 342 = .ok (.iload 4, 2) := by decide +kernel
theorem dL_law_344 : decode cL_law 344 = .ok (.iconst 3, 1) := by decide +kernel
theorem dL_law_345 : decode cL_law 345 = .ok (.if_icmp .ge 48, 3) := by decide +kernel
theorem dL_law_348 : decode cL_law 348 = .ok (.aload_n 1, 1) := by decide +kernel
theorem dL_law_349 : decode cL_law 349 = .ok (.sipush 1900, 3) := by decide +kernel
theorem dL_law_352 : decode cL_law 352 = .ok (.sipush 2099, 3) := by decide +kernel
theorem dL_law_355 : decode cL_law 355 = .ok (.aload_n 0, 1) := by decide +kernel
theorem dL_law_356 : decode cL_law 356 = .ok (.bipush 19, 2) := by decide +kernel
theorem dL_law_358 : decode cL_law 358 = .ok (.invokestatic 22, 3) := by decide +kernel
theorem dL_law_361 : decode cL_law 361 = .ok (.iload 4, 2) := by decide +kernel
theorem dL_law_363 : decode cL_law 363 = .ok (.ishr, 1) := by decide +kernel
theorem dL_law_364 : decode cL_law 364 = .ok (.iload_n 2, 1) := by decide +kernel
theorem dL_law_365 : decode cL_law 365 = .ok (.invokestatic 9, 3) := by decide +kernel
theorem dL_law_368 : decode cL_law 368 = .ok (.aload_n 0, 1) := by decide +kernel
theorem dL_law_369 : decode cL_law 369 = .ok (.bipush 20, 2) := by decide +kernel
theorem dL_law_371 : decode cL_law 371 = .ok (.invokestatic 22, 3) := by decide +kernel
theorem dL_law_374 : decode cL_law 374 = .ok (.iconst 2, 1) := by decide +kernel
theorem dL_law_375 : decode cL_law 375 = .ok (.iload 4, 2) := by decide +kernel
theorem dL_law_377 : decode cL_law 377 = .ok (.imul, 1) := by decide +kernel
theorem dL_law_378 : decode cL_law 378 = .ok (.ishr, 1) := by decide +kernel
theorem dL_law_379 : decode cL_law 379 = .ok (.iconst 4, 1) := by decide +kernel
theorem dL_law_380 : decode cL_law 380 = .ok (.invokestatic 9, 3) := by decide +kernel
theorem dL_law_383 : decode cL_law 383 = .ok (.invokevirtual 54, 3) := by decide +kernel
theorem dL_law_386 : decode cL_law 386 = .ok (.pop, 1) := by decide +kernel
theorem dL_law_387 : decode cL_law 387 = .ok (.iinc 4 1, 3) := by decide +kernel
theorem dL_law_390 : decode cL_law 390 = .ok (.goto (-48), 3) := by decide +kernel
theorem dL_law_393 : decode cL_law 393 = .ok (.aload_n 1, 1) := by decide +kernel
theorem dL_law_394 : decode cL_law 394 = .ok (.iconst 1, 1) := by decide +kernel
theorem dL_law_395 : decode cL_law 395 = .ok (.aload_n 0, 1) := by decide +kernel
theorem dL_law_396 : decode cL_law 396 = .ok (.bipush 21, 2) := by decide +kernel
theorem dL_law_398 : decode cL_law 398 = .ok (.invokestatic 22, 3) := by decide +kernel
theorem dL_law_401 : decode cL_law 401 = .ok (.bipush 127, 2) := by decide +kernel
theorem dL_law_403 : decode cL_law 403 = .ok (.invokestatic 9, 3) := by decide +kernel
theorem dL_law_406 : decode cL_law 406 = .ok (.iadd, 1) := by decide +kernel
theorem dL_law_407 : decode cL_law 407 = .ok (.invokevirtual 58, 3) := by decide +kernel
theorem dL_law_410 : decode cL_law 410 = .ok (.pop, 1) := by decide +kernel
theorem dL_law_411 : decode cL_law 411 = .ok (.aload_n 1, 1) := by decide +kernel
theorem dL_law_412 : decode cL_law 412 = .ok (.invokevirtual 61, 3) := by decide +kernel
theorem dL_law_415 : decode cL_law 415 = .ok (.lstore 4, 2) := by decide +kernel
theorem dL_law_417 : decode cL_law 417 = .ok (.iconst 0, 1) := by decide +kernel
theorem dL_law_418 : decode cL_law 418 = .ok (.istore 6, 2) := by decide +kernel
theorem dL_law_420 : decode cL_law 420 = .ok (.iload 6, 2) := by decide +kernel
theorem dL_law_422 : decode cL_law 422 = .ok (.bipush 10, 2) := by decide +kernel
theorem dL_law_424 : decode cL_law 424 = .ok (.if_icmp .ge 69, 3) := by decide +kernel
theorem dL_law_427 : decode cL_law 427 = .ok (.aload_n 0, 1) := by decide +kernel
theorem dL_law_428 : decode cL_law 428 = .ok (.bipush 22, 2) := by decide +kernel
theorem dL_law_430 : decode cL_law 430 = .ok (.iload 6, 2) := by decide +kernel
theorem dL_law_432 : decode cL_law 432 = .ok (.iadd, 1) := by decide +kernel
theorem dL_law_433 : decode cL_law 433 = .ok (.invokestatic 22, 3) := by decide +kernel
theorem dL_law_436 : decode cL_law 436 = .ok (.istore 7, 2) := by decide +kernel
theorem dL_law_438 : decode cL_law 438 = .ok (.aload_n 1, 1) := by decide +kernel
theorem dL_law_439 : decode cL_law 439 = .ok (.iload 7, 2) := by decide +kernel
theorem dL_law_441 : decode cL_law 441 = .ok (.iload_n 3, 1) := by decide +kernel
theorem dL_law_442 : decode cL_law 442 = .ok (.invokestatic 9, 3) := by decide +kernel
theorem dL_law_445 : decode cL_law 445 = .ok (.iload 7, 2) := by decide +kernel
theorem dL_law_447 : decode cL_law 447 = .ok (.iconst 2, 1) := by decide +kernel
theorem dL_law_448 : decode cL_law 448 = .ok (.ishr, 1) := by decide +kernel
theorem dL_law_449 : decode cL_law 449 = .ok (.ldc 43, 2) := by decide +kernel
theorem dL_law_451 : decode cL_law 451 = .ok (.invokestatic 9, 3) := by decide +kernel
theorem dL_law_454 : decode cL_law 454 = .ok (.invokestatic 65, 3) := by decide +kernel
theorem dL_law_457 : decode cL_law 457 = .ok (.ifCond .eq 28, 3) := by decide +kernel
theorem dL_law_460 : decode cL_law 460 = .ok (.aload_n 1, 1) := by decide +kernel
theorem dL_law_461 : decode cL_law 461 = .ok (.iload 7, 2) := by decide +kernel
theorem dL_law_463 : decode cL_law 463 = .ok (.iconst 4, 1) := by decide +kernel
theorem dL_law_464 : decode cL_law 464 = .ok (.ishr, 1) := by decide +kernel
theorem dL_law_465 : decode cL_law 465 = .ok (.iload_n 2, 1) := by decide +kernel
theorem dL_law_466 : decode cL_law 466 = .ok (.invokestatic 9, 3) := by decide +kernel
theorem dL_law_469 : decode cL_law 469 = .ok (.iload 7, 2) := by decide +kernel
theorem dL_law_471 : decode cL_law 471 = .ok (.bipush 6, 2) := by decide +kernel
theorem dL_law_473 : decode cL_law 473 = .ok (.ishr, 1) := by decide +kernel
theorem dL_law_474 : decode cL_law 474 = .ok (.ldc 69, 2) := by decide +kernel
theorem dL_law_476 : decode cL_law 476 = .ok (.invokestatic 9, 3) := by decide +kernel
theorem dL_law_479 : decode cL_law 479 = .ok (.invokestatic 70, 3) := by decide +kernel
theorem dL_law_482 : decode cL_law 482 = .ok (.ifCond .ne 5, 3) := by decide +kernel
theorem dL_law_485 : decode cL_law 485 = .ok (.iconst 0, 1) := by decide +kernel
theorem dL_law_486 : decode cL_law 486 = .ok (.ireturn, 1) := by decide +kernel
theorem dL_law_487 : decode cL_law 487 = .ok (.iinc 6 1, 3) := by decide +kernel
theorem dL_law_490 : decode cL_law 490 = .ok (.goto (-70), 3) := by decide +kernel
theorem dL_law_493 : decode cL_law 493 = .ok (.aload_n 1, 1) := by decide +kernel
theorem dL_law_494 : decode cL_law 494 = .ok (.iconst 0, 1) := by decide +kernel
theorem dL_law_495 : decode cL_law 495 = .ok (.invokestatic 73, 3) := by decide +kernel
theorem dL_law_498 : decode cL_law 498 = .ok (.ifCond .eq 62, 3) := by decide +kernel
theorem dL_law_501 : decode cL_law 501 = .ok (.aload_n 1, 1) := by decide +kernel
theorem dL_law_502 : decode cL_law 502 = .ok (.iconst 1, 1) := by decide +kernel
theorem dL_law_503 : decode cL_law 503 = .ok (.invokestatic 73, 3) := by decide +kernel
theorem dL_law_506 : decode cL_law 506 = .ok (.ifCond .eq 54, 3) := by decide +kernel
theorem dL_law_509 : decode cL_law 509 = .ok (.aload_n 1, 1) := by decide +kernel
theorem dL_law_510 : decode cL_law 510 = .ok (.iconst 0, 1) := by decide +kernel
theorem dL_law_511 : decode cL_law 511 = .ok (.iconst 1, 1) := by decide +kernel
theorem dL_law_512 : decode cL_law 512 = .ok (.invokevirtual 77, 3) := by decide +kernel
theorem dL_law_515 : decode cL_law 515 = .ok (.aload_n 1, 1) := by decide +kernel
theorem dL_law_516 : decode cL_law 516 = .ok (.iconst 1, 1) := by decide +kernel
theorem dL_law_517 : decode cL_law 517 = .ok (.iconst 0, 1) := by decide +kernel
theorem dL_law_518 : decode cL_law 518 = .ok (.invokevirtual 77, 3) := by decide +kernel
theorem dL_law_521 : decode cL_law 521 = .ok (.if_icmp .ne 39, 3) := by decide +kernel
theorem dL_law_524 : decode cL_law 524 = .ok (.aload_n 1, 1) := by decide +kernel
theorem dL_law_525 : decode cL_law 525 = .ok (.iconst 0, 1) := by decide +kernel
theorem dL_law_526 : decode cL_law 526 = .ok (.iconst 1, 1) := by decide +kernel
theorem dL_law_527 : decode cL_law 527 = .ok (.invokevirtual 77, 3) := by decide +kernel
theorem dL_law_530 : decode cL_law 530 = .ok (.aload_n 1, 1) := by decide +kernel
theorem dL_law_531 : decode cL_law 531 = .ok (.iconst 0, 1) := by decide +kernel
theorem dL_law_532 : decode cL_law 532 = .ok (.invokevirtual 80, 3) := by decide +kernel
theorem dL_law_535 : decode cL_law 535 = .ok (.aload_n 1, 1) := by decide +kernel
theorem dL_law_536 : decode cL_law 536 = .ok (.iconst 1, 1) := by decide +kernel
theorem dL_law_537 : decode cL_law 537 = .ok (.invokevirtual 80, 3) := by decide +kernel
theorem dL_law_540 : decode cL_law 540 = .ok (.invokestatic 34, 3) := by decide +kernel
theorem dL_law_543 : decode cL_law 543 = .ok (.if_icmp .gt 17, 3) := by decide +kernel
theorem dL_law_546 : decode cL_law 546 = .ok (.aload_n 1, 1) := by decide +kernel
theorem dL_law_547 : decode cL_law 547 = .ok (.invokevirtual 61, 3) := by decide +kernel
theorem dL_law_550 : decode cL_law 550 = .ok (.lload 4, 2) := by decide +kernel
theorem dL_law_552 : decode cL_law 552 = .ok (.lcmp, 1) := by decide +kernel
theorem dL_law_553 : decode cL_law 553 = .ok (.ifCond .ne 7, 3) := by decide +kernel
theorem dL_law_556 : decode cL_law 556 = .ok (.iconst 1, 1) := by decide +kernel
theorem dL_law_557 : decode cL_law 557 = .ok (.goto 4, 3) := by decide +kernel
theorem dL_law_560 : decode cL_law 560 = .ok (.iconst 0, 1) := by decide +kernel
theorem dL_law_561 : decode cL_law 561 = .ok (.ireturn, 1) := by decide +kernel
theorem dL_areClocksSound_0 : decode cL_areClocksSound 0 = .ok (.aload_n 0, 1) := by decide +kernel
theorem dL_areClocksSound_1 : decode cL_areClocksSound 1 = .ok (.iload_n 1, 1) := by decide +kernel
theorem dL_areClocksSound_2 : decode cL_areClocksSound 2 = .ok (.iload_n 2, 1) := by decide +kernel
theorem dL_areClocksSound_3 : decode cL_areClocksSound 3 = .ok (.invokevirtual 83, 3) := by decide +kernel
theorem dL_areClocksSound_6 : decode cL_areClocksSound 6 = .ok (.istore_n 3, 1) := by decide +kernel
theorem dL_areClocksSound_7 : decode cL_areClocksSound 7 = .ok (.aload_n 0, 1) := by decide +kernel
theorem dL_areClocksSound_8 : decode cL_areClocksSound 8 = .ok (.iload_n 1, 1) := by decide +kernel
theorem dL_areClocksSound_9 : decode cL_areClocksSound 9 = .ok (.iload_n 3, 1) := by decide +kernel
theorem dL_areClocksSound_10 : decode cL_areClocksSound 10 = .ok (.invokevirtual 86, 3) := by decide +kernel
theorem dL_areClocksSound_13 : decode cL_areClocksSound 13 = .ok (.istore 4, 2) := by decide +kernel
theorem dL_areClocksSound_15 : decode cL_areClocksSound 15 = .ok (.aload_n 0, 1) := by decide +kernel
theorem dL_areClocksSound_16 : decode cL_areClocksSound 16 = .ok (.iload_n 1, 1) := by decide +kernel
theorem dL_areClocksSound_17 : decode cL_areClocksSound 17 = .ok (.iload_n 3, 1) := by decide +kernel
theorem dL_areClocksSound_18 : decode cL_areClocksSound 18 = .ok (.invokevirtual 89, 3) := by decide +kernel
theorem dL_areClocksSound_21 : decode cL_areClocksSound 21 = .ok (.istore 5, 2) := by decide +kernel
theorem dL_areClocksSound_23 : decode cL_areClocksSound 23 = .ok (.aload_n 0, 1) := by decide +kernel
theorem dL_areClocksSound_24 : decode cL_areClocksSound 24 = .ok (.iload_n 1, 1) := by decide +kernel
theorem dL_areClocksSound_25 : decode cL_areClocksSound 25 = .ok (.iload_n 3, 1) := by decide +kernel
theorem dL_areClocksSound_26 : decode cL_areClocksSound 26 = .ok (.invokevirtual 92, 3) := by decide +kernel
theorem dL_areClocksSound_29 : decode cL_areClocksSound 29 = .ok (.iconst 1, 1) := by decide +kernel
theorem dL_areClocksSound_30 : decode cL_areClocksSound 30 = .ok (.if_icmp .lt 67, 3) := by decide +kernel
theorem dL_areClocksSound_33 : decode cL_areClocksSound 33 = .ok (.iload 4, 2) := by decide +kernel
theorem dL_areClocksSound_35 : decode cL_areClocksSound 35 = .ok (.iload_n 2, 1) := by decide +kernel
theorem dL_areClocksSound_36 : decode cL_areClocksSound 36 = .ok (.if_icmp .gt 61, 3) := by decide +kernel
theorem dL_areClocksSound_39 : decode cL_areClocksSound 39 = .ok (.iload 5, 2) := by decide +kernel
theorem dL_areClocksSound_41 : decode cL_areClocksSound 41 = .ok (.iload_n 2, 1) := by decide +kernel
theorem dL_areClocksSound_42 : decode cL_areClocksSound 42 = .ok (.if_icmp .lt 55, 3) := by decide +kernel
theorem dL_areClocksSound_45 : decode cL_areClocksSound 45 = .ok (.aload_n 0, 1) := by decide +kernel
theorem dL_areClocksSound_46 : decode cL_areClocksSound 46 = .ok (.iload_n 1, 1) := by decide +kernel
theorem dL_areClocksSound_47 : decode cL_areClocksSound 47 = .ok (.iload 4, 2) := by decide +kernel
theorem dL_areClocksSound_49 : decode cL_areClocksSound 49 = .ok (.invokevirtual 83, 3) := by decide +kernel
theorem dL_areClocksSound_52 : decode cL_areClocksSound 52 = .ok (.iload_n 3, 1) := by decide +kernel
theorem dL_areClocksSound_53 : decode cL_areClocksSound 53 = .ok (.if_icmp .ne 44, 3) := by decide +kernel
theorem dL_areClocksSound_56 : decode cL_areClocksSound 56 = .ok (.aload_n 0, 1) := by decide +kernel
theorem dL_areClocksSound_57 : decode cL_areClocksSound 57 = .ok (.iload_n 1, 1) := by decide +kernel
theorem dL_areClocksSound_58 : decode cL_areClocksSound 58 = .ok (.iload 5, 2) := by decide +kernel
theorem dL_areClocksSound_60 : decode cL_areClocksSound 60 = .ok (.invokevirtual 83, 3) := by decide +kernel
theorem dL_areClocksSound_63 : decode cL_areClocksSound 63 = .ok (.iload_n 3, 1) := by decide +kernel
theorem dL_areClocksSound_64 : decode cL_areClocksSound 64 = .ok (.if_icmp .ne 33, 3) := by decide +kernel
theorem dL_areClocksSound_67 : decode cL_areClocksSound 67 = .ok (.aload_n 0, 1) := by decide +kernel
theorem dL_areClocksSound_68 : decode cL_areClocksSound 68 = .ok (.iload_n 1, 1) := by decide +kernel
theorem dL_areClocksSound_69 : decode cL_areClocksSound 69 = .ok (.iload_n 3, 1) := by decide +kernel
theorem dL_areClocksSound_70 : decode cL_areClocksSound 70 = .ok (.invokevirtual 92, 3) := by decide +kernel
theorem dL_areClocksSound_73 : decode cL_areClocksSound 73 = .ok (.iconst 1, 1) := by decide +kernel
theorem dL_areClocksSound_74 : decode cL_areClocksSound 74 = .ok (.if_icmp .ne 7, 3) := by decide +kernel
theorem dL_areClocksSound_77 : decode cL_areClocksSound 77 = .ok (.iconst 1, 1) := by decide +kernel
theorem dL_areClocksSound_78 : decode cL_areClocksSound 78 = .ok (.goto 4, 3) := by decide +kernel
theorem dL_areClocksSound_81 : decode cL_areClocksSound 81 = .ok (.iconst 0, 1) := by decide +kernel
theorem dL_areClocksSound_82 : decode cL_areClocksSound 82 = .ok (.iload 4, 2) := by decide +kernel
theorem dL_areClocksSound_84 : decode cL_areClocksSound 84 = .ok (.iload 5, 2) := by decide +kernel
theorem dL_areClocksSound_86 : decode cL_areClocksSound 86 = .ok (.if_icmp .ne 7, 3) := by decide +kernel
theorem dL_areClocksSound_89 : decode cL_areClocksSound 89 = .ok (.iconst 1, 1) := by decide +kernel
theorem dL_areClocksSound_90 : decode cL_areClocksSound 90 = .ok (.goto 4, 3) := by decide +kernel
theorem dL_areClocksSound_93 : decode cL_areClocksSound 93 = .ok (.iconst 0, 1) := by decide +kernel
theorem dL_areClocksSound_94 : decode cL_areClocksSound 94 = .ok (.if_icmp .eq 5, 3) := by decide +kernel
theorem dL_areClocksSound_97 : decode cL_areClocksSound 97 = .ok (.iconst 0, 1) := by decide +kernel
theorem dL_areClocksSound_98 : decode cL_areClocksSound 98 = .ok (.ireturn, 1) := by decide +kernel
theorem dL_areClocksSound_99 : decode cL_areClocksSound 99 = .ok (.aload_n 0, 1) := by decide +kernel
theorem dL_areClocksSound_100 : decode cL_areClocksSound 100 = .ok (.iload_n 1, 1) := by decide +kernel
theorem dL_areClocksSound_101 : decode cL_areClocksSound 101 = .ok (.iload_n 2, 1) := by decide +kernel
theorem dL_areClocksSound_102 : decode cL_areClocksSound 102 = .ok (.invokevirtual 95, 3) := by decide +kernel
theorem dL_areClocksSound_105 : decode cL_areClocksSound 105 = .ok (.istore 6, 2) := by decide +kernel
theorem dL_areClocksSound_107 : decode cL_areClocksSound 107 = .ok (.iload 6, 2) := by decide +kernel
theorem dL_areClocksSound_109 : decode cL_areClocksSound 109 = .ok (.iconst (-1), 1) := by decide +kernel
theorem dL_areClocksSound_110 : decode cL_areClocksSound 110 = .ok (.if_icmp .ne 25, 3) := by decide +kernel
theorem dL_areClocksSound_113 : decode cL_areClocksSound 113 = .ok (.aload_n 0, 1) := by decide +kernel
theorem dL_areClocksSound_114 : decode cL_areClocksSound 114 = .ok (.iload_n 1, 1) := by decide +kernel
theorem dL_areClocksSound_115 : decode cL_areClocksSound 115 = .ok (.ldc 98, 2) := by decide +kernel
theorem dL_areClocksSound_117 : decode cL_areClocksSound 117 = .ok (.invokevirtual 99, 3) := by decide +kernel
theorem dL_areClocksSound_120 : decode cL_areClocksSound 120 = .ok (.aload_n 0, 1) := by decide +kernel
theorem dL_areClocksSound_121 : decode cL_areClocksSound 121 = .ok (.iload_n 1, 1) := by decide +kernel
theorem dL_areClocksSound_122 : decode cL_areClocksSound 122 = .ok (.iload_n 2, 1) := by decide +kernel
theorem dL_areClocksSound_123 : decode cL_areClocksSound 123 = .ok (.invokevirtual 99, 3) := by decide +kernel
theorem dL_areClocksSound_126 : decode cL_areClocksSound 126 = .ok (.if_icmp .ne 7, 3) := by decide +kernel
theorem dL_areClocksSound_129 : decode cL_areClocksSound 129 = .ok (.iconst 1, 1) := by decide +kernel
theorem dL_areClocksSound_130 : decode cL_areClocksSound 130 = .ok (.goto 4, 3) := by decide +kernel
theorem dL_areClocksSound_133 : decode cL_areClocksSound 133 = .ok (.iconst 0, 1) := by decide +kernel
theorem dL_areClocksSound_134 : decode cL_areClocksSound 134 = .ok (.ireturn, 1) := by decide +kernel
theorem dL_areClocksSound_135 : decode cL_areClocksSound 135 = .ok (.iload 6, 2) := by decide +kernel
theorem dL_areClocksSound_137 : decode cL_areClocksSound 137 = .ok (.iload_n 2, 1) := by decide +kernel
theorem dL_areClocksSound_138 : decode cL_areClocksSound 138 = .ok (.if_icmp .le 62, 3) := by decide +kernel
theorem dL_areClocksSound_141 : decode cL_areClocksSound 141 = .ok (.aload_n 0, 1) := by decide +kernel
theorem dL_areClocksSound_142 : decode cL_areClocksSound 142 = .ok (.iload_n 1, 1) := by decide +kernel
theorem dL_areClocksSound_143 : decode cL_areClocksSound 143 = .ok (.iload 6, 2) := by decide +kernel
theorem dL_areClocksSound_145 : decode cL_areClocksSound 145 = .ok (.invokevirtual 99, 3) := by decide +kernel
theorem dL_areClocksSound_148 : decode cL_areClocksSound 148 = .ok (.aload_n 0, 1) := by decide +kernel
theorem dL_areClocksSound_149 : decode cL_areClocksSound 149 = .ok (.iload_n 1, 1) := by decide +kernel
theorem dL_areClocksSound_150 : decode cL_areClocksSound 150 = .ok (.iload 6, 2) := by decide +kernel
theorem dL_areClocksSound_152 : decode cL_areClocksSound 152 = .ok (.iconst 1, 1) := by decide +kernel
theorem dL_areClocksSound_153 : decode cL_areClocksSound 153 = .ok (.isub, 1) := by decide +kernel
theorem dL_areClocksSound_154 : decode cL_areClocksSound 154 = .ok (.invokevirtual 99, 3) := by decide +kernel
theorem dL_areClocksSound_157 : decode cL_areClocksSound 157 = .ok (.if_icmp .eq 43, 3) := by decide +kernel
theorem dL_areClocksSound_160 : decode cL_areClocksSound 160 = .ok (.aload_n 0, 1) := by decide +kernel
theorem dL_areClocksSound_161 : decode cL_areClocksSound 161 = .ok (.iload_n 1, 1) := by decide +kernel
theorem dL_areClocksSound_162 : decode cL_areClocksSound 162 = .ok (.iload 6, 2) := by decide +kernel
theorem dL_areClocksSound_164 : decode cL_areClocksSound 164 = .ok (.iconst 1, 1) := by decide +kernel
theorem dL_areClocksSound_165 : decode cL_areClocksSound 165 = .ok (.isub, 1) := by decide +kernel
theorem dL_areClocksSound_166 : decode cL_areClocksSound 166 = .ok (.invokevirtual 99, 3) := by decide +kernel
theorem dL_areClocksSound_169 : decode cL_areClocksSound 169 = .ok (.aload_n 0, 1) := by decide +kernel
theorem dL_areClocksSound_170 : decode cL_areClocksSound 170 = .ok (.iload_n 1, 1) := by decide +kernel
theorem dL_areClocksSound_171 : decode cL_areClocksSound 171 = .ok (.iload_n 2, 1) := by decide +kernel
theorem dL_areClocksSound_172 : decode cL_areClocksSound 172 = .ok (.invokevirtual 99, 3) := by decide +kernel
theorem dL_areClocksSound_175 : decode cL_areClocksSound 175 = .ok (.if_icmp .ne 25, 3) := by decide +kernel
theorem dL_areClocksSound_178 : decode cL_areClocksSound 178 = .ok (.aload_n 0, 1) := by decide +kernel
theorem dL_areClocksSound_179 : decode cL_areClocksSound 179 = .ok (.iload_n 1, 1) := by decide +kernel
theorem dL_areClocksSound_180 : decode cL_areClocksSound 180 = .ok (.iconst 0, 1) := by decide +kernel
theorem dL_areClocksSound_181 : decode cL_areClocksSound 181 = .ok (.iload_n 2, 1) := by decide +kernel
theorem dL_areClocksSound_182 : decode cL_areClocksSound 182 = .ok (.invokevirtual 102, 3) := by decide +kernel
theorem dL_areClocksSound_185 : decode cL_areClocksSound 185 = .ok (.iload_n 3, 1) := by decide +kernel
theorem dL_areClocksSound_186 : decode cL_areClocksSound 186 = .ok (.aload_n 0, 1) := by decide +kernel
theorem dL_areClocksSound_187 : decode cL_areClocksSound 187 = .ok (.iconst 0, 1) := by decide +kernel
theorem dL_areClocksSound_188 : decode cL_areClocksSound 188 = .ok (.iload_n 2, 1) := by decide +kernel
theorem dL_areClocksSound_189 : decode cL_areClocksSound 189 = .ok (.invokevirtual 83, 3) := by decide +kernel
theorem dL_areClocksSound_192 : decode cL_areClocksSound 192 = .ok (.isub, 1) := by decide +kernel
theorem dL_areClocksSound_193 : decode cL_areClocksSound 193 = .ok (.if_icmp .ne 7, 3) := by decide +kernel
theorem dL_areClocksSound_196 : decode cL_areClocksSound 196 = .ok (.iconst 1, 1) := by decide +kernel
theorem dL_areClocksSound_197 : decode cL_areClocksSound 197 = .ok (.goto 4, 3) := by decide +kernel
theorem dL_areClocksSound_200 : decode cL_areClocksSound 200 = .ok (.iconst 0, 1) := by decide +kernel
theorem dL_areClocksSound_201 : decode cL_areClocksSound 201 = .ok (.ireturn, 1) := by decide +kernel
theorem dL_areDaysSound_0 : decode cL_areDaysSound 0 = .ok (.aload_n 0, 1) := by decide +kernel
theorem dL_areDaysSound_1 : decode cL_areDaysSound 1 = .ok (.iload_n 1, 1) := by decide +kernel
theorem dL_areDaysSound_2 : decode cL_areDaysSound 2 = .ok (.iload_n 2, 1) := by decide +kernel
theorem dL_areDaysSound_3 : decode cL_areDaysSound 3 = .ok (.invokevirtual 105, 3) := by decide +kernel
theorem dL_areDaysSound_6 : decode cL_areDaysSound 6 = .ok (.istore_n 3, 1) := by decide +kernel
theorem dL_areDaysSound_7 : decode cL_areDaysSound 7 = .ok (.iload_n 3, 1) := by decide +kernel
theorem dL_areDaysSound_8 : decode cL_areDaysSound 8 = .ok (.ifCond .lt 33, 3) := by decide +kernel
theorem dL_areDaysSound_11 : decode cL_areDaysSound 11 = .ok (.iload_n 3, 1) := by decide +kernel
theorem dL_areDaysSound_12 : decode cL_areDaysSound 12 = .ok (.iload_n 2, 1) := by decide +kernel
theorem dL_areDaysSound_13 : decode cL_areDaysSound 13 = .ok (.if_icmp .lt 26, 3) := by decide +kernel
theorem dL_areDaysSound_16 : decode cL_areDaysSound 16 = .ok (.aload_n 0, 1) := by decide +kernel
theorem dL_areDaysSound_17 : decode cL_areDaysSound 17 = .ok (.iload_n 1, 1) := by decide +kernel
theorem dL_areDaysSound_18 : decode cL_areDaysSound 18 = .ok (.iload_n 3, 1) := by decide +kernel
theorem dL_areDaysSound_19 : decode cL_areDaysSound 19 = .ok (.invokevirtual 108, 3) := by decide +kernel
theorem dL_areDaysSound_22 : decode cL_areDaysSound 22 = .ok (.ifCond .eq 17, 3) := by decide +kernel
theorem dL_areDaysSound_25 : decode cL_areDaysSound 25 = .ok (.iload_n 3, 1) := by decide +kernel
theorem dL_areDaysSound_26 : decode cL_areDaysSound 26 = .ok (.iload_n 2, 1) := by decide +kernel
theorem dL_areDaysSound_27 : decode cL_areDaysSound 27 = .ok (.if_icmp .le 14, 3) := by decide +kernel
theorem dL_areDaysSound_30 : decode cL_areDaysSound 30 = .ok (.aload_n 0, 1) := by decide +kernel
theorem dL_areDaysSound_31 : decode cL_areDaysSound 31 = .ok (.iload_n 1, 1) := by decide +kernel
theorem dL_areDaysSound_32 : decode cL_areDaysSound 32 = .ok (.iload_n 2, 1) := by decide +kernel
theorem dL_areDaysSound_33 : decode cL_areDaysSound 33 = .ok (.invokevirtual 108, 3) := by decide +kernel
theorem dL_areDaysSound_36 : decode cL_areDaysSound 36 = .ok (.ifCond .eq 5, 3) := by decide +kernel
theorem dL_areDaysSound_39 : decode cL_areDaysSound 39 = .ok (.iconst 0, 1) := by decide +kernel
theorem dL_areDaysSound_40 : decode cL_areDaysSound 40 = .ok (.ireturn, 1) := by decide +kernel
theorem dL_areDaysSound_41 : decode cL_areDaysSound 41 = .ok (.aload_n 0, 1) := by decide +kernel
theorem dL_areDaysSound_42 : decode cL_areDaysSound 42 = .ok (.aload_n 0, 1) := by decide +kernel
theorem dL_areDaysSound_43 : decode cL_areDaysSound 43 = .ok (.iload_n 2, 1) := by decide +kernel
theorem dL_areDaysSound_44 : decode cL_areDaysSound 44 = .ok (.invokevirtual 112, 3) := by decide +kernel
theorem dL_areDaysSound_47 : decode cL_areDaysSound 47 = .ok (.aload_n 0, 1) := by decide +kernel
theorem dL_areDaysSound_48 : decode cL_areDaysSound 48 = .ok (.iload_n 2, 1) := by decide +kernel
theorem dL_areDaysSound_49 : decode cL_areDaysSound 49 = .ok (.invokevirtual 115, 3) := by decide +kernel
theorem dL_areDaysSound_52 : decode cL_areDaysSound 52 = .ok (.aload_n 0, 1) := by decide +kernel
theorem dL_areDaysSound_53 : decode cL_areDaysSound 53 = .ok (.iload_n 2, 1) := by decide +kernel
theorem dL_areDaysSound_54 : decode cL_areDaysSound 54 = .ok (.invokevirtual 118, 3) := by decide +kernel
theorem dL_areDaysSound_57 : decode cL_areDaysSound 57 = .ok (.invokevirtual 121, 3) := by decide +kernel
theorem dL_areDaysSound_60 : decode cL_areDaysSound 60 = .ok (.iload_n 2, 1) := by decide +kernel
theorem dL_areDaysSound_61 : decode cL_areDaysSound 61 = .ok (.if_icmp .ne 20, 3) := by decide +kernel
theorem dL_areDaysSound_64 : decode cL_areDaysSound 64 = .ok (.aload_n 0, 1) := by decide +kernel
theorem dL_areDaysSound_65 : decode cL_areDaysSound 65 = .ok (.iload_n 2, 1) := by decide +kernel
theorem dL_areDaysSound_66 : decode cL_areDaysSound 66 = .ok (.invokevirtual 124, 3) := by decide +kernel
theorem dL_areDaysSound_69 : decode cL_areDaysSound 69 = .ok (.ifCond .eq 14, 3) := by decide +kernel
theorem dL_areDaysSound_72 : decode cL_areDaysSound 72 = .ok (.aload_n 0, 1) := by decide +kernel
theorem dL_areDaysSound_73 : decode cL_areDaysSound 73 = .ok (.iload_n 2, 1) := by decide +kernel
theorem dL_areDaysSound_74 : decode cL_areDaysSound 74 = .ok (.invokevirtual 128, 3) := by decide +kernel
theorem dL_areDaysSound_77 : decode cL_areDaysSound 77 = .ok (.iconst (-1), 1) := by decide +kernel
theorem dL_areDaysSound_78 : decode cL_areDaysSound 78 = .ok (.if_icmp .eq 5, 3) := by decide +kernel
theorem dL_areDaysSound_81 : decode cL_areDaysSound 81 = .ok (.iconst 0, 1) := by decide +kernel
theorem dL_areDaysSound_82 : decode cL_areDaysSound 82 = .ok (.ireturn, 1) := by decide +kernel
theorem dL_areDaysSound_83 : decode cL_areDaysSound 83 = .ok (.aload_n 0, 1) := by decide +kernel
theorem dL_areDaysSound_84 : decode cL_areDaysSound 84 = .ok (.iload_n 2, 1) := by decide +kernel
theorem dL_areDaysSound_85 : decode cL_areDaysSound 85 = .ok (.bipush 7, 2) := by decide +kernel
theorem dL_areDaysSound_87 : decode cL_areDaysSound 87 = .ok (.invokevirtual 131, 3) := by decide +kernel
theorem dL_areDaysSound_90 : decode cL_areDaysSound 90 = .ok (.istore 4, 2) := by decide +kernel
theorem dL_areDaysSound_92 : decode cL_areDaysSound 92 = .ok (.iload 4, 2) := by decide +kernel
theorem dL_areDaysSound_94 : decode cL_areDaysSound 94 = .ok (.ifCond .lt 54, 3) := by decide +kernel
theorem dL_areDaysSound_97 : decode cL_areDaysSound 97 = .ok (.aload_n 0, 1) := by decide +kernel
theorem dL_areDaysSound_98 : decode cL_areDaysSound 98 = .ok (.iload 4, 2) := by decide +kernel
theorem dL_areDaysSound_100 : decode cL_areDaysSound 100 = .ok (.invokevirtual 124, 3) := by decide +kernel
theorem dL_areDaysSound_103 : decode cL_areDaysSound 103 = .ok (.ifCond .eq 43, 3) := by decide +kernel
theorem dL_areDaysSound_106 : decode cL_areDaysSound 106 = .ok (.iload 4, 2) := by decide +kernel
theorem dL_areDaysSound_108 : decode cL_areDaysSound 108 = .ok (.iload_n 2, 1) := by decide +kernel
theorem dL_areDaysSound_109 : decode cL_areDaysSound 109 = .ok (.isub, 1) := by decide +kernel
theorem dL_areDaysSound_110 : decode cL_areDaysSound 110 = .ok (.sipush 399, 3) := by decide +kernel
theorem dL_areDaysSound_113 : decode cL_areDaysSound 113 = .ok (.if_icmp .gt 35, 3) := by decide +kernel
theorem dL_areDaysSound_116 : decode cL_areDaysSound 116 = .ok (.aload_n 0, 1) := by decide +kernel
theorem dL_areDaysSound_117 : decode cL_areDaysSound 117 = .ok (.iload_n 2, 1) := by decide +kernel
theorem dL_areDaysSound_118 : decode cL_areDaysSound 118 = .ok (.iload 4, 2) := by decide +kernel
theorem dL_areDaysSound_120 : decode cL_areDaysSound 120 = .ok (.iload_n 2, 1) := by decide +kernel
theorem dL_areDaysSound_121 : decode cL_areDaysSound 121 = .ok (.isub, 1) := by decide +kernel
theorem dL_areDaysSound_122 : decode cL_areDaysSound 122 = .ok (.iconst 1, 1) := by decide +kernel
theorem dL_areDaysSound_123 : decode cL_areDaysSound 123 = .ok (.iadd, 1) := by decide +kernel
theorem dL_areDaysSound_124 : decode cL_areDaysSound 124 = .ok (.invokevirtual 134, 3) := by decide +kernel
theorem dL_areDaysSound_127 : decode cL_areDaysSound 127 = .ok (.bipush 7, 2) := by decide +kernel
theorem dL_areDaysSound_129 : decode cL_areDaysSound 129 = .ok (.aload_n 0, 1) := by decide +kernel
theorem dL_areDaysSound_130 : decode cL_areDaysSound 130 = .ok (.iload_n 2, 1) := by decide +kernel
theorem dL_areDaysSound_131 : decode cL_areDaysSound 131 = .ok (.invokevirtual 124, 3) := by decide +kernel
theorem dL_areDaysSound_134 : decode cL_areDaysSound 134 = .ok (.ifCond .eq 7, 3) := by decide +kernel
theorem dL_areDaysSound_137 : decode cL_areDaysSound 137 = .ok (.iconst 1, 1) := by decide +kernel
theorem dL_areDaysSound_138 : decode cL_areDaysSound 138 = .ok (.goto 4, 3) := by decide +kernel
theorem dL_areDaysSound_141 : decode cL_areDaysSound 141 = .ok (.iconst 0, 1) := by decide +kernel
theorem dL_areDaysSound_142 : decode cL_areDaysSound 142 = .ok (.iadd, 1) := by decide +kernel
theorem dL_areDaysSound_143 : decode cL_areDaysSound 143 = .ok (.if_icmp .eq 5, 3) := by decide +kernel
theorem dL_areDaysSound_146 : decode cL_areDaysSound 146 = .ok (.iconst 0, 1) := by decide +kernel
theorem dL_areDaysSound_147 : decode cL_areDaysSound 147 = .ok (.ireturn, 1) := by decide +kernel
theorem dL_areDaysSound_148 : decode cL_areDaysSound 148 = .ok (.aload_n 0, 1) := by decide +kernel
theorem dL_areDaysSound_149 : decode cL_areDaysSound 149 = .ok (.iload_n 2, 1) := by decide +kernel
theorem dL_areDaysSound_150 : decode cL_areDaysSound 150 = .ok (.bipush (-7), 2) := by decide +kernel
theorem dL_areDaysSound_152 : decode cL_areDaysSound 152 = .ok (.invokevirtual 131, 3) := by decide +kernel
theorem dL_areDaysSound_155 : decode cL_areDaysSound 155 = .ok (.istore 5, 2) := by decide +kernel
theorem dL_areDaysSound_157 : decode cL_areDaysSound 157 = .ok (.iload 5, 2) := by decide +kernel
theorem dL_areDaysSound_159 : decode cL_areDaysSound 159 = .ok (.ifCond .lt 37, 3) := by decide +kernel
theorem dL_areDaysSound_162 : decode cL_areDaysSound 162 = .ok (.aload_n 0, 1) := by decide +kernel
theorem dL_areDaysSound_163 : decode cL_areDaysSound 163 = .ok (.iload 5, 2) := by decide +kernel
theorem dL_areDaysSound_165 : decode cL_areDaysSound 165 = .ok (.invokevirtual 124, 3) := by decide +kernel
theorem dL_areDaysSound_168 : decode cL_areDaysSound 168 = .ok (.ifCond .eq 32, 3) := by decide +kernel
theorem dL_areDaysSound_171 : decode cL_areDaysSound 171 = .ok (.iload_n 2, 1) := by decide +kernel
theorem dL_areDaysSound_172 : decode cL_areDaysSound 172 = .ok (.iload 5, 2) := by decide +kernel
theorem dL_areDaysSound_174 : decode cL_areDaysSound 174 = .ok (.isub, 1) := by decide +kernel
theorem dL_areDaysSound_175 : decode cL_areDaysSound 175 = .ok (.sipush 399, 3) := by decide +kernel
theorem dL_areDaysSound_178 : decode cL_areDaysSound 178 = .ok (.if_icmp .gt 18, 3) := by decide +kernel
theorem dL_areDaysSound_181 : decode cL_areDaysSound 181 = .ok (.aload_n 0, 1) := by decide +kernel
theorem dL_areDaysSound_182 : decode cL_areDaysSound 182 = .ok (.iload 5, 2) := by decide +kernel
theorem dL_areDaysSound_184 : decode cL_areDaysSound 184 = .ok (.iload_n 2, 1) := by decide +kernel
theorem dL_areDaysSound_185 : decode cL_areDaysSound 185 = .ok (.iload 5, 2) := by decide +kernel
theorem dL_areDaysSound_187 : decode cL_areDaysSound 187 = .ok (.isub, 1) := by decide +kernel
theorem dL_areDaysSound_188 : decode cL_areDaysSound 188 = .ok (.invokevirtual 134, 3) := by decide +kernel
theorem dL_areDaysSound_191 : decode cL_areDaysSound 191 = .ok (.bipush 7, 2) := by decide +kernel
theorem dL_areDaysSound_193 : decode cL_areDaysSound 193 = .ok (.if_icmp .ne 7, 3) := by decide +kernel
theorem dL_areDaysSound_196 : decode cL_areDaysSound 196 = .ok (.iconst 1, 1) := by decide +kernel
theorem dL_areDaysSound_197 : decode cL_areDaysSound 197 = .ok (.goto 4, 3) := by decide +kernel
theorem dL_areDaysSound_200 : decode cL_areDaysSound 200 = .ok (.iconst 0, 1) := by decide +kernel
theorem dL_areDaysSound_201 : decode cL_areDaysSound 201 = .ok (.ireturn, 1) := by decide +kernel
theorem dL_isSeriesSound_0 : decode cL_isSeriesSound 0 = .ok (.aload_n 0, 1) := by decide +kernel
theorem dL_isSeriesSound_1 : decode cL_isSeriesSound 1 = .ok (.iload_n 1, 1) := by decide +kernel
theorem dL_isSeriesSound_2 : decode cL_isSeriesSound 2 = .ok (.invokevirtual 80, 3) := by decide +kernel
theorem dL_isSeriesSound_5 : decode cL_isSeriesSound 5 = .ok (.istore_n 2, 1) := by decide +kernel
theorem dL_isSeriesSound_6 : decode cL_isSeriesSound 6 = .ok (.iconst 0, 1) := by decide +kernel
theorem dL_isSeriesSound_7 : decode cL_isSeriesSound 7 = .ok (.istore_n 3, 1) := by decide +kernel
theorem dL_isSeriesSound_8 : decode cL_isSeriesSound 8 = .ok (.iconst 0, 1) := by decide +kernel
theorem dL_isSeriesSound_9 : decode cL_isSeriesSound 9 = .ok (.istore 4, 2) := by decide +kernel
theorem dL_isSeriesSound_11 : decode cL_isSeriesSound 11 = .ok (.iload 4, 2) := by decide +kernel
theorem dL_isSeriesSound_13 : decode cL_isSeriesSound 13 = .ok (.iload_n 2, 1) := by decide +kernel
theorem dL_isSeriesSound_14 : decode cL_isSeriesSound 14 = .ok (.if_icmp .ge 87, 3) := by decide +kernel
theorem dL_isSeriesSound_17 : decode cL_isSeriesSound 17 = .ok (.aload_n 0, 1) := by decide +kernel
theorem dL_isSeriesSound_18 : decode cL_isSeriesSound 18 = .ok (.iload_n 1, 1) := by decide +kernel
theorem dL_isSeriesSound_19 : decode cL_isSeriesSound 19 = .ok (.iload 4, 2) := by decide +kernel
theorem dL_isSeriesSound_21 : decode cL_isSeriesSound 21 = .ok (.invokevirtual 137, 3) := by decide +kernel
theorem dL_isSeriesSound_24 : decode cL_isSeriesSound 24 = .ok (.istore 5, 2) := by decide +kernel
theorem dL_isSeriesSound_26 : decode cL_isSeriesSound 26 = .ok (.aload_n 0, 1) := by decide +kernel
theorem dL_isSeriesSound_27 : decode cL_isSeriesSound 27 = .ok (.iload_n 1, 1) := by decide +kernel
theorem dL_isSeriesSound_28 : decode cL_isSeriesSound 28 = .ok (.iload 5, 2) := by decide +kernel
theorem dL_isSeriesSound_30 : decode cL_isSeriesSound 30 = .ok (.invokevirtual 140, 3) := by decide +kernel
theorem dL_isSeriesSound_33 : decode cL_isSeriesSound 33 = .ok (.iload 4, 2) := by decide +kernel
theorem dL_isSeriesSound_35 : decode cL_isSeriesSound 35 = .ok (.if_icmp .ne 22, 3) := by decide +kernel
theorem dL_isSeriesSound_38 : decode cL_isSeriesSound 38 = .ok (.iload 4, 2) := by decide +kernel
theorem dL_isSeriesSound_40 : decode cL_isSeriesSound 40 = .ok (.ifCond .le 19, 3) := by decide +kernel
theorem dL_isSeriesSound_43 : decode cL_isSeriesSound 43 = .ok (.aload_n 0, 1) := by decide +kernel
theorem dL_isSeriesSound_44 : decode cL_isSeriesSound 44 = .ok (.iload_n 1, 1) := by decide +kernel
theorem dL_isSeriesSound_45 : decode cL_isSeriesSound 45 = .ok (.iload 4, 2) := by decide +kernel
theorem dL_isSeriesSound_47 : decode cL_isSeriesSound 47 = .ok (.iconst 1, 1) := by decide +kernel
theorem dL_isSeriesSound_48 : decode cL_isSeriesSound 48 = .ok (.isub, 1) := by decide +kernel
theorem dL_isSeriesSound_49 : decode cL_isSeriesSound 49 = .ok (.invokevirtual 137, 3) := by decide +kernel
theorem dL_isSeriesSound_52 : decode cL_isSeriesSound 52 = .ok (.iload 5, 2) := by decide +kernel
theorem dL_isSeriesSound_54 : decode cL_isSeriesSound 54 = .ok (.if_icmp .lt 5, 3) := by decide +kernel
theorem dL_isSeriesSound_57 : decode cL_isSeriesSound 57 = .ok (.iconst 0, 1) := by decide +kernel
theorem dL_isSeriesSound_58 : decode cL_isSeriesSound 58 = .ok (.ireturn, 1) := by decide +kernel
theorem dL_isSeriesSound_59 : decode cL_isSeriesSound 59 = .ok (.iload 4, 2) := by decide +kernel
theorem dL_isSeriesSound_61 : decode cL_isSeriesSound 61 = .ok (.ifCond .le 20, 3) := by decide +kernel
theorem dL_isSeriesSound_64 : decode cL_isSeriesSound 64 = .ok (.iload_n 3, 1) := by decide +kernel
theorem dL_isSeriesSound_65 : decode cL_isSeriesSound 65 = .ok (.iload 5, 2) := by decide +kernel
theorem dL_isSeriesSound_67 : decode cL_isSeriesSound 67 = .ok (.aload_n 0, 1) := by decide +kernel
theorem dL_isSeriesSound_68 : decode cL_isSeriesSound 68 = .ok (.iload_n 1, 1) := by decide +kernel
theorem dL_isSeriesSound_69 : decode cL_isSeriesSound 69 = .ok (.iload 4, 2) := by decide +kernel
theorem dL_isSeriesSound_71 : decode cL_isSeriesSound 71 = .ok (.iconst 1, 1) := by decide +kernel
theorem dL_isSeriesSound_72 : decode cL_isSeriesSound 72 = .ok (.isub, 1) := by decide +kernel
theorem dL_isSeriesSound_73 : decode cL_isSeriesSound 73 = .ok (.invokevirtual 137, 3) := by decide +kernel
theorem dL_isSeriesSound_76 : decode cL_isSeriesSound 76 = .ok (.isub, 1) := by decide +kernel
theorem dL_isSeriesSound_77 : decode cL_isSeriesSound 77 = .ok (.invokestatic 143, 3) := by decide +kernel
theorem dL_isSeriesSound_80 : decode cL_isSeriesSound 80 = .ok (.istore_n 3, 1) := by decide +kernel
theorem dL_isSeriesSound_81 : decode cL_isSeriesSound 81 = .ok (.iload 4, 2) := by decide +kernel
theorem dL_isSeriesSound_83 : decode cL_isSeriesSound 83 = .ok (.iload_n 2, 1) := by decide +kernel
theorem dL_isSeriesSound_84 : decode cL_isSeriesSound 84 = .ok (.bipush 60, 2) := by decide +kernel
theorem dL_isSeriesSound_86 : decode cL_isSeriesSound 86 = .ok (.if_icmp .ge 7, 3) := by decide +kernel
theorem dL_isSeriesSound_89 : decode cL_isSeriesSound 89 = .ok (.iconst 1, 1) := by decide +kernel
theorem dL_isSeriesSound_90 : decode cL_isSeriesSound 90 = .ok (.goto 5, 3) := by decide +kernel
theorem dL_isSeriesSound_93 : decode cL_isSeriesSound 93 = .ok (.bipush 7, 2) := by decide +kernel
theorem dL_isSeriesSound_95 : decode cL_isSeriesSound 95 = .ok (.iadd, 1) := by decide +kernel
theorem dL_isSeriesSound_96 : decode cL_isSeriesSound 96 = .ok (.istore 4, 2) := by decide +kernel
theorem dL_isSeriesSound_98 : decode cL_isSeriesSound 98 = .ok (.goto (-87), 3) := by decide +kernel
theorem dL_isSeriesSound_101 : decode cL_isSeriesSound 101 = .ok (.aload_n 0, 1) := by decide +kernel
theorem dL_isSeriesSound_102 : decode cL_isSeriesSound 102 = .ok (.iload_n 1, 1) := by decide +kernel
theorem dL_isSeriesSound_103 : decode cL_isSeriesSound 103 = .ok (.invokevirtual 146, 3) := by decide +kernel
theorem dL_isSeriesSound_106 : decode cL_isSeriesSound 106 = .ok (.iload_n 3, 1) := by decide +kernel
theorem dL_isSeriesSound_107 : decode cL_isSeriesSound 107 = .ok (.if_icmp .lt 58, 3) := by decide +kernel
theorem dL_isSeriesSound_110 : decode cL_isSeriesSound 110 = .ok (.aload_n 0, 1) := by decide +kernel
theorem dL_isSeriesSound_111 : decode cL_isSeriesSound 111 = .ok (.iload_n 1, 1) := by decide +kernel
theorem dL_isSeriesSound_112 : decode cL_isSeriesSound 112 = .ok (.iload_n 1, 1) := by decide +kernel
theorem dL_isSeriesSound_113 : decode cL_isSeriesSound 113 = .ok (.invokevirtual 77, 3) := by decide +kernel
theorem dL_isSeriesSound_116 : decode cL_isSeriesSound 116 = .ok (.iload_n 2, 1) := by decide +kernel
theorem dL_isSeriesSound_117 : decode cL_isSeriesSound 117 = .ok (.if_icmp .ne 48, 3) := by decide +kernel
theorem dL_isSeriesSound_120 : decode cL_isSeriesSound 120 = .ok (.iload_n 2, 1) := by decide +kernel
theorem dL_isSeriesSound_121 : decode cL_isSeriesSound 121 = .ok (.iconst 2, 1) := by decide +kernel
theorem dL_isSeriesSound_122 : decode cL_isSeriesSound 122 = .ok (.if_icmp .ge 7, 3) := by decide +kernel
theorem dL_isSeriesSound_125 : decode cL_isSeriesSound 125 = .ok (.iconst 1, 1) := by decide +kernel
theorem dL_isSeriesSound_126 : decode cL_isSeriesSound 126 = .ok (.goto 4, 3) := by decide +kernel
theorem dL_isSeriesSound_129 : decode cL_isSeriesSound 129 = .ok (.iconst 0, 1) := by decide +kernel
theorem dL_isSeriesSound_130 : decode cL_isSeriesSound 130 = .ok (.aload_n 0, 1) := by decide +kernel
theorem dL_isSeriesSound_131 : decode cL_isSeriesSound 131 = .ok (.iload_n 1, 1) := by decide +kernel
theorem dL_isSeriesSound_132 : decode cL_isSeriesSound 132 = .ok (.invokevirtual 146, 3) := by decide +kernel
theorem dL_isSeriesSound_135 : decode cL_isSeriesSound 135 = .ok (.ifCond .ne 7, 3) := by decide +kernel
theorem dL_isSeriesSound_138 : decode cL_isSeriesSound 138 = .ok (.iconst 1, 1) := by decide +kernel
theorem dL_isSeriesSound_139 : decode cL_isSeriesSound 139 = .ok (.goto 4, 3) := by decide +kernel
theorem dL_isSeriesSound_142 : decode cL_isSeriesSound 142 = .ok (.iconst 0, 1) := by decide +kernel
theorem dL_isSeriesSound_143 : decode cL_isSeriesSound 143 = .ok (.if_icmp .ne 22, 3) := by decide +kernel
theorem dL_isSeriesSound_146 : decode cL_isSeriesSound 146 = .ok (.aload_n 0, 1) := by decide +kernel
theorem dL_isSeriesSound_147 : decode cL_isSeriesSound 147 = .ok (.iload_n 1, 1) := by decide +kernel
theorem dL_isSeriesSound_148 : decode cL_isSeriesSound 148 = .ok (.invokevirtual 149, 3) := by decide +kernel
theorem dL_isSeriesSound_151 : decode cL_isSeriesSound 151 = .ok (.aload_n 0, 1) := by decide +kernel
theorem dL_isSeriesSound_152 : decode cL_isSeriesSound 152 = .ok (.iload_n 1, 1) := by decide +kernel
theorem dL_isSeriesSound_153 : decode cL_isSeriesSound 153 = .ok (.invokevirtual 146, 3) := by decide +kernel
theorem dL_isSeriesSound_156 : decode cL_isSeriesSound 156 = .ok (.i2d, 1) := by decide +kernel
theorem dL_isSeriesSound_157 : decode cL_isSeriesSound 157 = .ok (.dcmp .g, 1) := by decide +kernel
theorem dL_isSeriesSound_158 : decode cL_isSeriesSound 158 = .ok (.ifCond .gt 7, 3) := by decide +kernel
theorem dL_isSeriesSound_161 : decode cL_isSeriesSound 161 = .ok (.iconst 1, 1) := by decide +kernel
theorem dL_isSeriesSound_162 : decode cL_isSeriesSound 162 = .ok (.goto 4, 3) := by decide +kernel
theorem dL_isSeriesSound_165 : decode cL_isSeriesSound 165 = .ok (.iconst 0, 1) := by decide +kernel
theorem dL_isSeriesSound_166 : decode cL_isSeriesSound 166 = .ok (.ireturn, 1) := by decide +kernel
