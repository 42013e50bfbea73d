theorem dX9_init_0 : decode cX9_init 0 = .ok (.aload_n 0, 1) := by decide +kernel
theorem dX9_init_1 : decode cX9_init 1 = .ok (.invokespecial 1, 3) := by decide +kernel
theorem dX9_init_4 : decode cX9_init 4 = .ok (.aload_n 0, 1) := by decide +kernel
theorem dX9_init_5 : decode cX9_init 5 = .ok (.bipush 24, 2) := by decide +kernel
theorem dX9_init_7 : decode cX9_init 7 = .ok (.newarray .int, 2) := by decide +kernel
theorem dX9_init_9 : decode cX9_init 9 = .ok (.putfield 9, 3) := by decide +kernel
theorem dX9_init_12 : decode cX9_init 12 = .ok (.aload_n 0, 1) := by decide +kernel
theorem dX9_init_13 : decode cX9_init 13 = .ok (.bipush 24, 2) := by decide +kernel
theorem dX9_init_15 : decode cX9_init 15 = .ok (.newarray .int, 2) := by decide +kernel
theorem dX9_init_17 : decode cX9_init 17 = .ok (.putfield 13, 3) := by decide +kernel
theorem dX9_init_20 : decode cX9_init 20 = .ok (.aload_n 0, 1) := by decide +kernel
theorem dX9_init_21 : decode cX9_init 21 = .ok (.bipush 24, 2) := by decide +kernel
theorem dX9_init_23 : decode cX9_init 23 = .ok (.newarray .int, 2) := by decide +kernel
theorem dX9_init_25 : decode cX9_init 25 = .ok (.putfield 16, 3) := by decide +kernel
theorem dX9_init_28 : decode cX9_init 28 = .ok (.aload_n 0, 1) := by decide +kernel
theorem dX9_init_29 : decode cX9_init 29 = .ok (.bipush 6, 2) := by decide +kernel
theorem dX9_init_31 : decode cX9_init 31 = .ok (.newarray .int, 2) := by decide +kernel
theorem dX9_init_33 : decode cX9_init 33 = .ok (.putfield 19, 3) := by decide +kernel
theorem dX9_init_36 : decode cX9_init 36 = .ok (.aload_n 0, 1) := by decide +kernel
theorem dX9_init_37 : decode cX9_init 37 = .ok (.bipush 6, 2) := by decide +kernel
theorem dX9_init_39 : decode cX9_init 39 = .ok (.newarray .int, 2) := by decide +kernel
theorem dX9_init_41 : decode cX9_init 41 = .ok (.putfield 22, 3) := by decide +kernel
theorem dX9_init_44 : decode cX9_init 44 = .ok (.aload_n 0, 1) := by decide +kernel
theorem dX9_init_45 : decode cX9_init 45 = .ok (.sipush 216, 3) := by decide +kernel
theorem dX9_init_48 : decode cX9_init 48 = .ok (.newarray .int, 2) := by decide +kernel
theorem dX9_init_50 : decode cX9_init 50 = .ok (.putfield 25, 3) := by decide +kernel
theorem dX9_init_53 : decode cX9_init 53 = .ok (.aload_n 0, 1) := by decide +kernel
theorem dX9_init_54 : decode cX9_init 54 = .ok (.bipush 6, 2) := by decide +kernel
theorem dX9_init_56 : decode cX9_init 56 = .ok (.newarray .int, 2) := by decide +kernel
theorem dX9_init_58 : decode cX9_init 58 = .ok (.putfield 28, 3) := by decide +kernel
theorem dX9_init_61 : decode cX9_init 61 = .ok (.aload_n 0, 1) := by decide +kernel
theorem dX9_init_62 : decode cX9_init 62 = .ok (.bipush 6, 2) := by decide +kernel
theorem dX9_init_64 : decode cX9_init 64 = .ok (.anewarray 31, 3) := by decide +kernel
theorem dX9_init_67 : decode cX9_init 67 = .ok (.putfield 32, 3) := by decide +kernel
theorem dX9_init_70 : decode cX9_init 70 = .ok (.aload_n 0, 1) := by decide +kernel
theorem dX9_init_71 : decode cX9_init 71 = .ok (.bipush 6, 2) := by decide +kernel
theorem dX9_init_73 : decode cX9_init 73 = .ok (.anewarray 31, 3) := by decide +kernel
theorem dX9_init_76 : decode cX9_init 76 = .ok (.putfield 36, 3) := by decide +kernel
theorem dX9_init_79 : decode cX9_init 79 = .ok (.aload_n 0, 1) := by decide +kernel
theorem dX9_init_80 : decode cX9_init 80 = .ok (.bipush 66, 2) := by decide +kernel
theorem dX9_init_82 : decode cX9_init 82 = .ok (.newarray .int, 2) := by decide +kernel
theorem dX9_init_84 : decode cX9_init 84 = .ok (.putfield 39, 3) := by decide +kernel
theorem dX9_init_87 : decode cX9_init 87 = .ok (.aload_n 0, 1) := by decide +kernel
theorem dX9_init_88 : decode cX9_init 88 = .ok (.bipush 24, 2) := by decide +kernel
theorem dX9_init_90 : decode cX9_init 90 = .ok (.newarray .int, 2) := by decide +kernel
theorem dX9_init_92 : decode cX9_init 92 = .ok (.putfield 42, 3) := by decide +kernel
theorem dX9_init_95 : decode cX9_init 95 = .ok (.aload_n 0, 1) := by decide +kernel
theorem dX9_init_96 : decode cX9_init 96 = .ok (.bipush 48, 2) := by decide +kernel
theorem dX9_init_98 : decode cX9_init 98 = .ok (.newarray .int, 2) := by decide +kernel
theorem dX9_init_100 : decode cX9_init 100 = .ok (.putfield 45, 3) := by decide +kernel
theorem dX9_init_103 : decode cX9_init 103 = .ok (.aload_n 0, 1) := by decide +kernel
theorem dX9_init_104 : decode cX9_init 104 = .ok (.sipush 366, 3) := by decide +kernel
theorem dX9_init_107 : decode cX9_init 107 = .ok (.newarray .int, 2) := by decide +kernel
theorem dX9_init_109 : decode cX9_init 109 = .ok (.putfield 48, 3) := by decide +kernel
theorem dX9_init_112 : decode cX9_init 112 = .ok (.aload_n 0, 1) := by decide +kernel
theorem dX9_init_113 : decode cX9_init 113 = .ok (.bipush 6, 2) := by decide +kernel
theorem dX9_init_115 : decode cX9_init 115 = .ok (.anewarray 31, 3) := by decide +kernel
theorem dX9_init_118 : decode cX9_init 118 = .ok (.putfield 51, 3) := by decide +kernel
theorem dX9_init_121 : decode cX9_init 121 = .ok (.aload_n 0, 1) := by decide +kernel
theorem dX9_init_122 : decode cX9_init 122 = .ok (.sipush 4001, 3) := by decide +kernel
theorem dX9_init_125 : decode cX9_init 125 = .ok (.newarray .int, 2) := by decide +kernel
theorem dX9_init_127 : decode cX9_init 127 = .ok (.putfield 54, 3) := by decide +kernel
theorem dX9_init_130 : decode cX9_init 130 = .ok (.aload_n 0, 1) := by decide +kernel
theorem dX9_init_131 : decode cX9_init 131 = .ok (.iconst (-1), 1) := by decide +kernel
theorem dX9_init_132 : decode cX9_init 132 = .ok (.putfield 57, 3) := by decide +kernel
theorem dX9_init_135 : decode cX9_init 135 = .ok (.aload_n 0, 1) := by decide +kernel
theorem dX9_init_136 : decode cX9_init 136 = .ok (.bipush 31, 2) := by decide +kernel
theorem dX9_init_138 : decode cX9_init 138 = .ok (.putfield 61, 3) := by decide +kernel
theorem dX9_init_141 : decode cX9_init 141 = .ok (.aload_n 0, 1) := by decide +kernel
theorem dX9_init_142 : decode cX9_init 142 = .ok (.sipush 540, 3) := by decide +kernel
theorem dX9_init_145 : decode cX9_init 145 = .ok (.putfield 64, 3) := by decide +kernel
theorem dX9_init_148 : decode cX9_init 148 = .ok (.aload_n 0, 1) := by decide +kernel
theorem dX9_init_149 : decode cX9_init 149 = .ok (.sipush 1020, 3) := by decide +kernel
theorem dX9_init_152 : decode cX9_init 152 = .ok (.putfield 67, 3) := by decide +kernel
theorem dX9_init_155 : decode cX9_init 155 = .ok (.aload_n 0, 1) := by decide +kernel
theorem dX9_init_156 : decode cX9_init 156 = .ok (.bipush 20, 2) := by decide +kernel
theorem dX9_init_158 : decode cX9_init 158 = .ok (.newarray .int, 2) := by decide +kernel
theorem dX9_init_160 : decode cX9_init 160 = .ok (.putfield 70, 3) := by decide +kernel
theorem dX9_init_163 : decode cX9_init 163 = .ok (.aload_n 0, 1) := by decide +kernel
theorem dX9_init_164 : decode cX9_init 164 = .ok (.bipush 20, 2) := by decide +kernel
theorem dX9_init_166 : decode cX9_init 166 = .ok (.newarray .int, 2) := by decide +kernel
theorem dX9_init_168 : decode cX9_init 168 = .ok (.putfield 73, 3) := by decide +kernel
theorem dX9_init_171 : decode cX9_init 171 = .ok (.aload_n 0, 1) := by decide +kernel
theorem dX9_init_172 : decode cX9_init 172 = .ok (.bipush 20, 2) := by decide +kernel
theorem dX9_init_174 : decode cX9_init 174 = .ok (.newarray .int, 2) := by decide +kernel
theorem dX9_init_176 : decode cX9_init 176 = .ok (.putfield 76, 3) := by decide +kernel
theorem dX9_init_179 : decode cX9_init 179 = .ok (.aload_n 0, 1) := by decide +kernel
theorem dX9_init_180 : decode cX9_init 180 = .ok (.bipush 20, 2) := by decide +kernel
theorem dX9_init_182 : decode cX9_init 182 = .ok (.newarray .int, 2) := by decide +kernel
theorem dX9_init_184 : decode cX9_init 184 = .ok (.putfield 79, 3) := by decide +kernel
theorem dX9_init_187 : decode cX9_init 187 = .ok (.aload_n 0, 1) := by decide +kernel
theorem dX9_init_188 : decode cX9_init 188 = .ok (.ldc 82, 2) := by decide +kernel
theorem dX9_init_190 : decode cX9_init 190 = .ok (.newarray .byte, 2) := by decide +kernel
theorem dX9_init_192 : decode cX9_init 192 = .ok (.putfield 83, 3) := by decide +kernel
theorem dX9_init_195 : decode cX9_init 195 = .ok (.return_, 1) := by decide +kernel
theorem dX9_thrown_0 : decode cX9_thrown 0 = .ok (.aload_n 0, 1) := by decide +kernel
theorem dX9_thrown_1 : decode cX9_thrown 1 = .ok (.getfield 87, 3) := by decide +kernel
theorem dX9_thrown_4 : decode cX9_thrown 4 = .ok (.ireturn, 1) := by decide +kernel
theorem dX9_refuse_0 : decode cX9_refuse 0 = .ok (.aload_n 0, 1) := by decide +kernel
theorem dX9_refuse_1 : decode cX9_refuse 1 = .ok (.iload_n 1, 1) := by decide +kernel
theorem dX9_refuse_2 : decode cX9_refuse 2 = .ok (.putfield 87, 3) := by decide +kernel
theorem dX9_refuse_5 : decode cX9_refuse 5 = .ok (.iconst 0, 1) := by decide +kernel
theorem dX9_refuse_6 : decode cX9_refuse 6 = .ok (.ireturn, 1) := by decide +kernel
theorem dX9_is_0 : decode cX9_is 0 = .ok (.iload_n 0, 1) := by decide +kernel
theorem dX9_is_1 : decode cX9_is 1 = .ok (.iload_n 1, 1) := by decide +kernel
theorem dX9_is_2 : decode cX9_is 2 = .ok (.if_icmp .lt 12, 3) := by decide +kernel
theorem dX9_is_5 : decode cX9_is 5 = .ok (.iload_n 0, 1) := by decide +kernel
theorem dX9_is_6 : decode cX9_is 6 = .ok (.iload_n 2, 1) := by decide +kernel
theorem dX9_is_7 : decode cX9_is 7 = .ok (.if_icmp .gt 7, 3) := by decide +kernel
theorem dX9_is_10 : decode cX9_is 10 = .ok (.iconst 1, 1) := by decide +kernel
theorem dX9_is_11 : decode cX9_is 11 = .ok (.goto 4, 3) := by decide +kernel
theorem dX9_is_14 : decode cX9_is 14 = .ok (.iconst 0, 1) := by decide +kernel
theorem dX9_is_15 : decode cX9_is 15 = .ok (.ireturn, 1) := by decide +kernel
theorem dX9_isDay_0 : decode cX9_isDay 0 = .ok (.iload_n 0, 1) := by decide +kernel
theorem dX9_isDay_1 : decode cX9_isDay 1 = .ok (.iconst 0, 1) := by decide +kernel
theorem dX9_isDay_2 : decode cX9_isDay 2 = .ok (.ldc 90, 2) := by decide +kernel
theorem dX9_isDay_4 : decode cX9_isDay 4 = .ok (.invokestatic 91, 3) := by decide +kernel
theorem dX9_isDay_7 : decode cX9_isDay 7 = .ok (.ireturn, 1) := by decide +kernel
theorem dX9_isYear_0 : decode cX9_isYear 0 = .ok (.iload_n 0, 1) := by decide +kernel
theorem dX9_isYear_1 : decode cX9_isYear 1 = .ok (.sipush 1900, 3) := by decide +kernel
theorem dX9_isYear_4 : decode cX9_isYear 4 = .ok (.sipush 2099, 3) := by decide +kernel
theorem dX9_isYear_7 : decode cX9_isYear 7 = .ok (.invokestatic 91, 3) := by decide +kernel
theorem dX9_isYear_10 : decode cX9_isYear 10 = .ok (.ireturn, 1) := by decide +kernel
theorem dX9_isMoment_0 : decode cX9_isMoment 0 = .ok (.iload_n 0, 1) := by decide +kernel
theorem dX9_isMoment_1 : decode cX9_isMoment 1 = .ok (.iconst 0, 1) := by decide +kernel
theorem dX9_isMoment_2 : decode cX9_isMoment 2 = .ok (.ldc 95, 2) := by decide +kernel
theorem dX9_isMoment_4 : decode cX9_isMoment 4 = .ok (.invokestatic 91, 3) := by decide +kernel
theorem dX9_isMoment_7 : decode cX9_isMoment 7 = .ok (.ireturn, 1) := by decide +kernel
theorem dX9_beginOf_0 : decode cX9_beginOf 0 = .ok (.sipush 365, 3) := by decide +kernel
theorem dX9_beginOf_3 : decode cX9_beginOf 3 = .ok (.iload_n 0, 1) := by decide +kernel
theorem dX9_beginOf_4 : decode cX9_beginOf 4 = .ok (.sipush 1900, 3) := by decide +kernel
theorem dX9_beginOf_7 : decode cX9_beginOf 7 = .ok (.isub, 1) := by decide +kernel
theorem dX9_beginOf_8 : decode cX9_beginOf 8 = .ok (.imul, 1) := by decide +kernel
theorem dX9_beginOf_9 : decode cX9_beginOf 9 = .ok (.iload_n 0, 1) := by decide +kernel
theorem dX9_beginOf_10 : decode cX9_beginOf 10 = .ok (.sipush 1900, 3) := by decide +kernel
theorem dX9_beginOf_13 : decode cX9_beginOf 13 = .ok (.isub, 1) := by decide +kernel
theorem dX9_beginOf_14 : decode cX9_beginOf 14 = .ok (.iconst 1, 1) := by decide +kernel
theorem dX9_beginOf_15 : decode cX9_beginOf 15 = .ok (.isub, 1) := by decide +kernel
theorem dX9_beginOf_16 : decode cX9_beginOf 16 = .ok (.iconst 4, 1) := by decide +kernel
theorem dX9_beginOf_17 : decode cX9_beginOf 17 = .ok (.idiv, 1) := by decide +kernel
theorem dX9_beginOf_18 : decode cX9_beginOf 18 = .ok (.iadd, 1) := by decide +kernel
theorem dX9_beginOf_19 : decode cX9_beginOf 19 = .ok (.ireturn, 1) := by decide +kernel
theorem dX9_lengthOf_0 : decode cX9_lengthOf 0 = .ok (.iload_n 1, 1) := by decide +kernel
theorem dX9_lengthOf_1 : decode cX9_lengthOf 1 = .ok (.iconst 2, 1) := by decide +kernel
theorem dX9_lengthOf_2 : decode cX9_lengthOf 2 = .ok (.if_icmp .ne 24, 3) := by decide +kernel
theorem dX9_lengthOf_5 : decode cX9_lengthOf 5 = .ok (.iload_n 0, 1) := by decide +kernel
theorem dX9_lengthOf_6 : decode cX9_lengthOf 6 = .ok (.iconst 4, 1) := by decide +kernel
theorem dX9_lengthOf_7 : decode cX9_lengthOf 7 = .ok (.irem, 1) := by decide +kernel
theorem dX9_lengthOf_8 : decode cX9_lengthOf 8 = .ok (.ifCond .ne 15, 3) := by decide +kernel
theorem dX9_lengthOf_11 : decode cX9_lengthOf 11 = .ok (.iload_n 0, 1) := by decide +kernel
theorem dX9_lengthOf_12 : decode cX9_lengthOf 12 = .ok (.sipush 1900, 3) := by decide +kernel
theorem dX9_lengthOf_15 : decode cX9_lengthOf 15 = .ok (.if_icmp .eq 8, 3) := by decide +kernel
theorem dX9_lengthOf_18 : decode cX9_lengthOf 18 = .ok (.bipush 29, 2) := by decide +kernel
theorem dX9_lengthOf_20 : decode cX9_lengthOf 20 = .ok (.goto 5, 3) := by decide +kernel
theorem dX9_lengthOf_23 : decode cX9_lengthOf 23 = .ok (.bipush 28, 2) := by decide +kernel
theorem dX9_lengthOf_25 : decode cX9_lengthOf 25 = .ok (.ireturn, 1) := by decide +kernel
theorem dX9_lengthOf_26 : decode cX9_lengthOf 26 = .ok (.iload_n 1, 1) := by decide +kernel
theorem dX9_lengthOf_27 : decode cX9_lengthOf 27 = .ok (.iconst 4, 1) := by decide +kernel
theorem dX9_lengthOf_28 : decode cX9_lengthOf 28 = .ok (.if_icmp .eq 21, 3) := by decide +kernel
theorem dX9_lengthOf_31 : decode cX9_lengthOf 31 = .ok (.iload_n 1, 1) := by decide +kernel
theorem dX9_lengthOf_32 : decode cX9_lengthOf 32 = .ok (.bipush 6, 2) := by decide +kernel
theorem dX9_lengthOf_34 : decode cX9_lengthOf 34 = .ok (.if_icmp .eq 15, 3) := by decide +kernel
theorem dX9_lengthOf_37 : decode cX9_lengthOf 37 = .ok (.iload_n 1, 1) := by decide +kernel
theorem dX9_lengthOf_38 : decode cX9_lengthOf 38 = .ok (.bipush 9, 2) := by decide +kernel
theorem dX9_lengthOf_40 : decode cX9_lengthOf 40 = .ok (.if_icmp .eq 9, 3) := by decide +kernel
theorem dX9_lengthOf_43 : decode cX9_lengthOf 43 = .ok (.iload_n 1, 1) := by decide +kernel
theorem dX9_lengthOf_44 : decode cX9_lengthOf 44 = .ok (.bipush 11, 2) := by decide +kernel
theorem dX9_lengthOf_46 : decode cX9_lengthOf 46 = .ok (.if_icmp .ne 8, 3) := by decide +kernel
theorem dX9_lengthOf_49 : decode cX9_lengthOf 49 = .ok (.bipush 30, 2) := by decide +kernel
theorem dX9_lengthOf_51 : decode cX9_lengthOf 51 = .ok (.goto 5, 3) := by decide +kernel
theorem dX9_lengthOf_54 : decode cX9_lengthOf 54 = .ok (.bipush 31, 2) := by decide +kernel
theorem dX9_lengthOf_56 : decode cX9_lengthOf 56 = .ok (.ireturn, 1) := by decide +kernel
theorem dX9_dayFor_0 : decode cX9_dayFor 0 = .ok (.iload_n 0, 1) := by decide +kernel
theorem dX9_dayFor_1 : decode cX9_dayFor 1 = .ok (.invokestatic 96, 3) := by decide +kernel
theorem dX9_dayFor_4 : decode cX9_dayFor 4 = .ok (.iload_n 2, 1) := by decide +kernel
theorem dX9_dayFor_5 : decode cX9_dayFor 5 = .ok (.iadd, 1) := by decide +kernel
theorem dX9_dayFor_6 : decode cX9_dayFor 6 = .ok (.iconst 1, 1) := by decide +kernel
theorem dX9_dayFor_7 : decode cX9_dayFor 7 = .ok (.isub, 1) := by decide +kernel
theorem dX9_dayFor_8 : decode cX9_dayFor 8 = .ok (.istore_n 3, 1) := by decide +kernel
theorem dX9_dayFor_9 : decode cX9_dayFor 9 = .ok (.iconst 1, 1) := by decide +kernel
theorem dX9_dayFor_10 : decode cX9_dayFor 10 = .ok (.istore 4, 2) := by decide +kernel
theorem dX9_dayFor_12 : decode cX9_dayFor 12 = .ok (.iload 4, 2) := by decide +kernel
theorem dX9_dayFor_14 : decode cX9_dayFor 14 = .ok (.iload_n 1, 1) := by decide +kernel
theorem dX9_dayFor_15 : decode cX9_dayFor 15 = .ok (.if_icmp .ge 18, 3) := by decide +kernel
theorem dX9_dayFor_18 : decode cX9_dayFor 18 = .ok (.iload_n 3, 1) := by decide +kernel
theorem dX9_dayFor_19 : decode cX9_dayFor 19 = .ok (.iload_n 0, 1) := by decide +kernel
theorem dX9_dayFor_20 : decode cX9_dayFor 20 = .ok (.iload 4, 2) := by decide +kernel
theorem dX9_dayFor_22 : decode cX9_dayFor 22 = .ok (.invokestatic 100, 3) := by decide +kernel
theorem dX9_dayFor_25 : decode cX9_dayFor 25 = .ok (.iadd, 1) := by decide +kernel
theorem dX9_dayFor_26 : decode cX9_dayFor 26 = .ok (.istore_n 3, 1) := by decide +kernel
theorem dX9_dayFor_27 : decode cX9_dayFor 27 = .ok (.iinc 4 1, 3) := by decide +kernel
theorem dX9_dayFor_30 : decode cX9_dayFor 30 = .ok (.goto (-18), 3) := by decide +kernel
theorem dX9_dayFor_33 : decode cX9_dayFor 33 = .ok (.iload_n 3, 1) := by decide +kernel
theorem dX9_dayFor_34 : decode cX9_dayFor 34 = .ok (.ireturn, 1) := by decide +kernel
theorem dX9_yearFor_0 : decode cX9_yearFor 0 = .ok (.sipush 2099, 3) := by decide +kernel
theorem dX9_yearFor_3 : decode cX9_yearFor 3 = .ok (.sipush 1900, 3) := by decide +kernel
theorem dX9_yearFor_6 : decode cX9_yearFor 6 = .ok (.iload_n 0, 1) := by decide +kernel
theorem dX9_yearFor_7 : decode cX9_yearFor 7 = .ok (.sipush 365, 3) := by decide +kernel
theorem dX9_yearFor_10 : decode cX9_yearFor 10 = .ok (.idiv, 1) := by decide +kernel
theorem dX9_yearFor_11 : decode cX9_yearFor 11 = .ok (.iadd, 1) := by decide +kernel
theorem dX9_yearFor_12 : decode cX9_yearFor 12 = .ok (.invokestatic 104, 3) := by decide +kernel
theorem dX9_yearFor_15 : decode cX9_yearFor 15 = .ok (.istore_n 1, 1) := by decide +kernel
theorem dX9_yearFor_16 : decode cX9_yearFor 16 = .ok (.iload_n 1, 1) := by decide +kernel
theorem dX9_yearFor_17 : decode cX9_yearFor 17 = .ok (.invokestatic 96, 3) := by decide +kernel
theorem dX9_yearFor_20 : decode cX9_yearFor 20 = .ok (.iload_n 0, 1) := by decide +kernel
theorem dX9_yearFor_21 : decode cX9_yearFor 21 = .ok (.if_icmp .le 9, 3) := by decide +kernel
theorem dX9_yearFor_24 : decode cX9_yearFor 24 = .ok (.iinc 1 (-1), 3) := by decide +kernel
theorem dX9_yearFor_27 : decode cX9_yearFor 27 = .ok (.goto (-11), 3) := by decide +kernel
theorem dX9_yearFor_30 : decode cX9_yearFor 30 = .ok (.iload_n 1, 1) := by decide +kernel
theorem dX9_yearFor_31 : decode cX9_yearFor 31 = .ok (.ireturn, 1) := by decide +kernel
theorem dX9_monthFor_0 : decode cX9_monthFor 0 = .ok (.iload_n 0, 1) := by decide +kernel
theorem dX9_monthFor_1 : decode cX9_monthFor 1 = .ok (.invokestatic 109, 3) := by decide +kernel
theorem dX9_monthFor_4 : decode cX9_monthFor 4 = .ok (.istore_n 1, 1) := by decide +kernel
theorem dX9_monthFor_5 : decode cX9_monthFor 5 = .ok (.iconst 1, 1) := by decide +kernel
theorem dX9_monthFor_6 : decode cX9_monthFor 6 = .ok (.istore_n 2, 1) := by decide +kernel
theorem dX9_monthFor_7 : decode cX9_monthFor 7 = .ok (.iload_n 0, 1) := by decide +kernel
theorem dX9_monthFor_8 : decode cX9_monthFor 8 = .ok (.iload_n 1, 1) := by decide +kernel
theorem dX9_monthFor_9 : decode cX9_monthFor 9 = .ok (.invokestatic 96, 3) := by decide +kernel
theorem dX9_monthFor_12 : decode cX9_monthFor 12 = .ok (.isub, 1) := by decide +kernel
theorem dX9_monthFor_13 : decode cX9_monthFor 13 = .ok (.istore_n 3, 1) := by decide +kernel
theorem dX9_monthFor_14 : decode cX9_monthFor 14 = .ok (.iload_n 3, 1) := by decide +kernel
theorem dX9_monthFor_15 : decode cX9_monthFor 15 = .ok (.iload_n 1, 1) := by decide +kernel
theorem dX9_monthFor_16 : decode cX9_monthFor 16 = .ok (.iload_n 2, 1) := by decide +kernel
theorem dX9_monthFor_17 : decode cX9_monthFor 17 = .ok (.invokestatic 100, 3) := by decide +kernel
theorem dX9_monthFor_20 : decode cX9_monthFor 20 = .ok (.if_icmp .lt 17, 3) := by decide +kernel
theorem dX9_monthFor_23 : decode cX9_monthFor 23 = .ok (.iload_n 3, 1) := by decide +kernel
theorem dX9_monthFor_24 : decode cX9_monthFor 24 = .ok (.iload_n 1, 1) := by decide +kernel
theorem dX9_monthFor_25 : decode cX9_monthFor 25 = .ok (.iload_n 2, 1) := by decide +kernel
theorem dX9_monthFor_26 : decode cX9_monthFor 26 = .ok (.invokestatic 100, 3) := by decide +kernel
theorem dX9_monthFor_29 : decode cX9_monthFor 29 = .ok (.isub, 1) := by decide +kernel
theorem dX9_monthFor_30 : decode cX9_monthFor 30 = .ok (.istore_n 3, 1) := by decide +kernel
theorem dX9_monthFor_31 : decode cX9_monthFor 31 = .ok (.iinc 2 1, 3) := by decide +kernel
theorem dX9_monthFor_34 : decode cX9_monthFor 34 = .ok (.goto (-20), 3) := by decide +kernel
theorem dX9_monthFor_37 : decode cX9_monthFor 37 = .ok (.iload_n 2, 1) := by decide +kernel
theorem dX9_monthFor_38 : decode cX9_monthFor 38 = .ok (.ireturn, 1) := by decide +kernel
theorem dX9_dateFor_0 : decode cX9_dateFor 0 = .ok (.iload_n 0, 1) := by decide +kernel
theorem dX9_dateFor_1 : decode cX9_dateFor 1 = .ok (.iload_n 0, 1) := by decide +kernel
theorem dX9_dateFor_2 : decode cX9_dateFor 2 = .ok (.invokestatic 109, 3) := by decide +kernel
theorem dX9_dateFor_5 : decode cX9_dateFor 5 = .ok (.iload_n 0, 1) := by decide +kernel
theorem dX9_dateFor_6 : decode cX9_dateFor 6 = .ok (.invokestatic 112, 3) := by decide +kernel
theorem dX9_dateFor_9 : decode cX9_dateFor 9 = .ok (.iconst 1, 1) := by decide +kernel
theorem dX9_dateFor_10 : decode cX9_dateFor 10 = .ok (.invokestatic 115, 3) := by decide +kernel
theorem dX9_dateFor_13 : decode cX9_dateFor 13 = .ok (.isub, 1) := by decide +kernel
theorem dX9_dateFor_14 : decode cX9_dateFor 14 = .ok (.iconst 1, 1) := by decide +kernel
theorem dX9_dateFor_15 : decode cX9_dateFor 15 = .ok (.iadd, 1) := by decide +kernel
theorem dX9_dateFor_16 : decode cX9_dateFor 16 = .ok (.ireturn, 1) := by decide +kernel
theorem dX9_easterFor_0 : decode cX9_easterFor 0 = .ok (.iload_n 0, 1) := by decide +kernel
theorem dX9_easterFor_1 : decode cX9_easterFor 1 = .ok (.bipush 19, 2) := by decide +kernel
theorem dX9_easterFor_3 : decode cX9_easterFor 3 = .ok (.irem, 1) := by decide +kernel
theorem dX9_easterFor_4 : decode cX9_easterFor 4 = .ok (.istore_n 1, 1) := by decide +kernel
theorem dX9_easterFor_5 : decode cX9_easterFor 5 = .ok (.iload_n 0, 1) := by decide +kernel
theorem dX9_easterFor_6 : decode cX9_easterFor 6 = .ok (.bipush 100, 2) := by decide +kernel
theorem dX9_easterFor_8 : decode cX9_easterFor 8 = .ok (.idiv, 1) := by decide +kernel
theorem dX9_easterFor_9 : decode cX9_easterFor 9 = .ok (.istore_n 2, 1) := by decide +kernel
theorem dX9_easterFor_10 : decode cX9_easterFor 10 = .ok (.iload_n 0, 1) := by decide +kernel
theorem dX9_easterFor_11 : decode cX9_easterFor 11 = .ok (.bipush 100, 2) := by decide +kernel
theorem dX9_easterFor_13 : decode cX9_easterFor 13 = .ok (.irem, 1) := by decide +kernel
theorem dX9_easterFor_14 : decode cX9_easterFor 14 = .ok (.istore_n 3, 1) := by decide +kernel
theorem dX9_easterFor_15 : decode cX9_easterFor 15 = .ok (.bipush 19, 2) := by decide +kernel
theorem dX9_easterFor_17 : decode cX9_easterFor 17 = .ok (.iload_n 1, 1) := by decide +kernel
theorem dX9_easterFor_18 : decode cX9_easterFor 18 = .ok (.imul, 1) := by decide +kernel
theorem dX9_easterFor_19 : decode cX9_easterFor 19 = .ok (.iload_n 2, 1) := by decide +kernel
theorem dX9_easterFor_20 : decode cX9_easterFor 20 = .ok (.iadd, 1) := by decide +kernel
theorem dX9_easterFor_21 : decode cX9_easterFor 21 = .ok (.iload_n 2, 1) := by decide +kernel
theorem dX9_easterFor_22 : decode cX9_easterFor 22 = .ok (.iconst 4, 1) := by decide +kernel
theorem dX9_easterFor_23 : decode cX9_easterFor 23 = .ok (.idiv, 1) := by decide +kernel
theorem dX9_easterFor_24 : decode cX9_easterFor 24 = .ok (.isub, 1) := by decide +kernel
theorem dX9_easterFor_25 : decode cX9_easterFor 25 = .ok (.iload_n 2, 1) := by decide +kernel
theorem dX9_easterFor_26 : decode cX9_easterFor 26 = .ok (.iload_n 2, 1) := by decide +kernel
theorem dX9_easterFor_27 : decode cX9_easterFor 27 = .ok (.bipush 8, 2) := by decide +kernel
theorem dX9_easterFor_29 : decode cX9_easterFor 29 = .ok (.iadd, 1) := by decide +kernel
theorem dX9_easterFor_30 : decode cX9_easterFor 30 = .ok (.bipush 25, 2) := by decide +kernel
theorem dX9_easterFor_32 : decode cX9_easterFor 32 = .ok (.idiv, 1) := by decide +kernel
theorem dX9_easterFor_33 : decode cX9_easterFor 33 = .ok (.isub, 1) := by decide +kernel
theorem dX9_easterFor_34 : decode cX9_easterFor 34 = .ok (.iconst 1, 1) := by decide +kernel
theorem dX9_easterFor_35 : decode cX9_easterFor 35 = .ok (.iadd, 1) := by decide +kernel
theorem dX9_easterFor_36 : decode cX9_easterFor 36 = .ok (.iconst 3, 1) := by decide +kernel
theorem dX9_easterFor_37 : decode cX9_easterFor 37 = .ok (.idiv, 1) := by decide +kernel
theorem dX9_easterFor_38 : decode cX9_easterFor 38 = .ok (.isub, 1) := by decide +kernel
theorem dX9_easterFor_39 : decode cX9_easterFor 39 = .ok (.bipush 15, 2) := by decide +kernel
theorem dX9_easterFor_41 : decode cX9_easterFor 41 = .ok (.iadd, 1) := by decide +kernel
theorem dX9_easterFor_42 : decode cX9_easterFor 42 = .ok (.bipush 30, 2) := by decide +kernel
theorem dX9_easterFor_44 : decode cX9_easterFor 44 = .ok (.irem, 1) := by decide +kernel
theorem dX9_easterFor_45 : decode cX9_easterFor 45 = .ok (.istore 4, 2) := by decide +kernel
theorem dX9_easterFor_47 : decode cX9_easterFor 47 = .ok (.bipush 32, 2) := by decide +kernel
theorem dX9_easterFor_49 : decode cX9_easterFor 49 = .ok (.iconst 2, 1) := by decide +kernel
theorem dX9_easterFor_50 : decode cX9_easterFor 50 = .ok (.iload_n 2, 1) := by decide +kernel
theorem dX9_easterFor_51 : decode cX9_easterFor 51 = .ok (.iconst 4, 1) := by decide +kernel
theorem dX9_easterFor_52 : decode cX9_easterFor 52 = .ok (.irem, 1) := by decide +kernel
theorem dX9_easterFor_53 : decode cX9_easterFor 53 = .ok (.imul, 1) := by decide +kernel
theorem dX9_easterFor_54 : decode cX9_easterFor 54 = .ok (.iadd, 1) := by decide +kernel
theorem dX9_easterFor_55 : decode cX9_easterFor 55 = .ok (.iconst 2, 1) := by decide +kernel
theorem dX9_easterFor_56 : decode cX9_easterFor 56 = .ok (.iload_n 3, 1) := by decide +kernel
theorem dX9_easterFor_57 : decode cX9_easterFor 57 = .ok (.iconst 4, 1) := by decide +kernel
theorem dX9_easterFor_58 : decode cX9_easterFor 58 = .ok (.idiv, 1) := by decide +kernel
theorem dX9_easterFor_59 : decode cX9_easterFor 59 = .ok (.imul, 1) := by decide +kernel
theorem dX9_easterFor_60 : decode cX9_easterFor 60 = .ok (.iadd, 1) := by decide +kernel
theorem dX9_easterFor_61 : decode cX9_easterFor 61 = .ok (.iload 4, 2) := by decide +kernel
theorem dX9_easterFor_63 : decode cX9_easterFor 63 = .ok (.isub, 1) := by decide +kernel
theorem dX9_easterFor_64 : decode cX9_easterFor 64 = .ok (.iload_n 3, 1) := by decide +kernel
theorem dX9_easterFor_65 : decode cX9_easterFor 65 = .ok (.iconst 4, 1) := by decide +kernel
theorem dX9_easterFor_66 : decode cX9_easterFor 66 = .ok (.irem, 1) := by decide +kernel
theorem dX9_easterFor_67 : decode cX9_easterFor 67 = .ok (.isub, 1) := by decide +kernel
theorem dX9_easterFor_68 : decode cX9_easterFor 68 = .ok (.bipush 7, 2) := by decide +kernel
theorem dX9_easterFor_70 : decode cX9_easterFor 70 = .ok (.irem, 1) := by decide +kernel
theorem dX9_easterFor_71 : decode cX9_easterFor 71 = .ok (.istore 5, 2) := by decide +kernel
theorem dX9_easterFor_73 : decode cX9_easterFor 73 = .ok (.iload 4, 2) := by decide +kernel
theorem dX9_easterFor_75 : decode cX9_easterFor 75 = .ok (.iload 5, 2) := by decide +kernel
theorem dX9_easterFor_77 : decode cX9_easterFor 77 = .ok (.iadd, 1) := by decide +kernel
theorem dX9_easterFor_78 : decode cX9_easterFor 78 = .ok (.bipush 7, 2) := by decide +kernel
theorem dX9_easterFor_80 : decode cX9_easterFor 80 = .ok (.iload_n 1, 1) := by decide +kernel
theorem dX9_easterFor_81 : decode cX9_easterFor 81 = .ok (.bipush 11, 2) := by decide +kernel
theorem dX9_easterFor_83 : decode cX9_easterFor 83 = .ok (.iload 4, 2) := by decide +kernel
theorem dX9_easterFor_85 : decode cX9_easterFor 85 = .ok (.imul, 1) := by decide +kernel
theorem dX9_easterFor_86 : decode cX9_easterFor 86 = .ok (.iadd, 1) := by decide +kernel
theorem dX9_easterFor_87 : decode cX9_easterFor 87 = .ok (.bipush 22, 2) := by decide +kernel
theorem dX9_easterFor_89 : decode cX9_easterFor 89 = .ok (.iload 5, 2) := by decide +kernel
theorem dX9_easterFor_91 : decode cX9_easterFor 91 = .ok (.imul, 1) := by decide +kernel
theorem dX9_easterFor_92 : decode cX9_easterFor 92 = .ok (.iadd, 1) := by decide +kernel
theorem dX9_easterFor_93 : decode cX9_easterFor 93 = .ok (.sipush 451, 3) := by decide +kernel
theorem dX9_easterFor_96 : decode cX9_easterFor 96 = .ok (.idiv, 1) := by decide +kernel
theorem dX9_easterFor_97 : decode cX9_easterFor 97 = .ok (.imul, 1) := by decide +kernel
theorem dX9_easterFor_98 : decode cX9_easterFor 98 = .ok (.isub, 1) := by decide +kernel
theorem dX9_easterFor_99 : decode cX9_easterFor 99 = .ok (.bipush 114, 2) := by decide +kernel
theorem dX9_easterFor_101 : decode cX9_easterFor 101 = .ok (.iadd, 1) := by decide +kernel
theorem dX9_easterFor_102 : decode cX9_easterFor 102 = .ok (.istore 6, 2) := by decide +kernel
theorem dX9_easterFor_104 : decode cX9_easterFor 104 = .ok (.iload_n 0, 1) := by decide +kernel
theorem dX9_easterFor_105 : decode cX9_easterFor 105 = .ok (.iload 6, 2) := by decide +kernel
theorem dX9_easterFor_107 : decode cX9_easterFor 107 = .ok (.bipush 31, 2) := by decide +kernel
theorem dX9_easterFor_109 : decode cX9_easterFor 109 = .ok (.idiv, 1) := by decide +kernel
theorem dX9_easterFor_110 : decode cX9_easterFor 110 = .ok (.iload 6, 2) := by decide +kernel
theorem dX9_easterFor_112 : decode cX9_easterFor 112 = .ok (.bipush 31, 2) := by decide +kernel
theorem dX9_easterFor_114 : decode cX9_easterFor 114 = .ok (.irem, 1) := by decide +kernel
theorem dX9_easterFor_115 : decode cX9_easterFor 115 = .ok (.iconst 1, 1) := by decide +kernel
theorem dX9_easterFor_116 : decode cX9_easterFor 116 = .ok (.iadd, 1) := by decide +kernel
theorem dX9_easterFor_117 : decode cX9_easterFor 117 = .ok (.invokestatic 115, 3) := by decide +kernel
theorem dX9_easterFor_120 : decode cX9_easterFor 120 = .ok (.ireturn, 1) := by decide +kernel
theorem dX9_dayOf_0 : decode cX9_dayOf 0 = .ok (.aload_n 0, 1) := by decide +kernel
theorem dX9_dayOf_1 : decode cX9_dayOf 1 = .ok (.iconst 0, 1) := by decide +kernel
theorem dX9_dayOf_2 : decode cX9_dayOf 2 = .ok (.putfield 87, 3) := by decide +kernel
theorem dX9_dayOf_5 : decode cX9_dayOf 5 = .ok (.iload_n 1, 1) := by decide +kernel
theorem dX9_dayOf_6 : decode cX9_dayOf 6 = .ok (.invokestatic 119, 3) := by decide +kernel
theorem dX9_dayOf_9 : decode cX9_dayOf 9 = .ok (.ifCond .eq 26, 3) := by decide +kernel
theorem dX9_dayOf_12 : decode cX9_dayOf 12 = .ok (.iload_n 2, 1) := by decide +kernel
theorem dX9_dayOf_13 : decode cX9_dayOf 13 = .ok (.iconst 1, 1) := by decide +kernel
theorem dX9_dayOf_14 : decode cX9_dayOf 14 = .ok (.bipush 12, 2) := by decide +kernel
theorem dX9_dayOf_16 : decode cX9_dayOf 16 = .ok (.invokestatic 91, 3) := by decide +kernel
theorem dX9_dayOf_19 : decode cX9_dayOf 19 = .ok (.ifCond .eq 16, 3) := by decide +kernel
theorem dX9_dayOf_22 : decode cX9_dayOf 22 = .ok (.iload_n 3, 1) := by decide +kernel
theorem dX9_dayOf_23 : decode cX9_dayOf 23 = .ok (.iconst 1, 1) := by decide +kernel
theorem dX9_dayOf_24 : decode cX9_dayOf 24 = .ok (.iload_n 1, 1) := by decide +kernel
theorem dX9_dayOf_25 : decode cX9_dayOf 25 = .ok (.iload_n 2, 1) := by decide +kernel
theorem dX9_dayOf_26 : decode cX9_dayOf 26 = .ok (.invokestatic 100, 3) := by decide +kernel
theorem dX9_dayOf_29 : decode cX9_dayOf 29 = .ok (.invokestatic 91, 3) := by decide +kernel
theorem dX9_dayOf_32 : decode cX9_dayOf 32 = .ok (.ifCond .ne 9, 3) := by decide +kernel
theorem dX9_dayOf_35 : decode cX9_dayOf 35 = .ok (.aload_n 0, 1) := by decide +kernel
theorem dX9_dayOf_36 : decode cX9_dayOf 36 = .ok (.iconst 1, 1) := by decide +kernel
theorem dX9_dayOf_37 : decode cX9_dayOf 37 = .ok (.invokevirtual 123, 3) := by decide +kernel
theorem dX9_dayOf_40 : decode cX9_dayOf 40 = .ok (.ireturn, 1) := by decide +kernel
theorem dX9_dayOf_41 : decode cX9_dayOf 41 = .ok (.iload_n 1, 1) := by decide +kernel
theorem dX9_dayOf_42 : decode cX9_dayOf 42 = .ok (.iload_n 2, 1) := by decide +kernel
theorem dX9_dayOf_43 : decode cX9_dayOf 43 = .ok (.iload_n 3, 1) := by decide +kernel
theorem dX9_dayOf_44 : decode cX9_dayOf 44 = .ok (.invokestatic 115, 3) := by decide +kernel
theorem dX9_dayOf_47 : decode cX9_dayOf 47 = .ok (.ireturn, 1) := by decide +kernel
theorem dX9_yearOf_0 : decode cX9_yearOf 0 = .ok (.aload_n 0, 1) := by decide +kernel
theorem dX9_yearOf_1 : decode cX9_yearOf 1 = .ok (.iconst 0, 1) := by decide +kernel
theorem dX9_yearOf_2 : decode cX9_yearOf 2 = .ok (.putfield 87, 3) := by decide +kernel
theorem dX9_yearOf_5 : decode cX9_yearOf 5 = .ok (.iload_n 1, 1) := by decide +kernel
theorem dX9_yearOf_6 : decode cX9_yearOf 6 = .ok (.invokestatic 126, 3) := by decide +kernel
theorem dX9_yearOf_9 : decode cX9_yearOf 9 = .ok (.ifCond .eq 10, 3) := by decide +kernel
theorem dX9_yearOf_12 : decode cX9_yearOf 12 = .ok (.iload_n 1, 1) := by decide +kernel
theorem dX9_yearOf_13 : decode cX9_yearOf 13 = .ok (.invokestatic 109, 3) := by decide +kernel
theorem dX9_yearOf_16 : decode cX9_yearOf 16 = .ok (.goto 8, 3) := by decide +kernel
theorem dX9_yearOf_19 : decode cX9_yearOf 19 = .ok (.aload_n 0, 1) := by decide +kernel
theorem dX9_yearOf_20 : decode cX9_yearOf 20 = .ok (.iconst 1, 1) := by decide +kernel
theorem dX9_yearOf_21 : decode cX9_yearOf 21 = .ok (.invokevirtual 123, 3) := by decide +kernel
theorem dX9_yearOf_24 : decode cX9_yearOf 24 = .ok (.ireturn, 1) := by decide +kernel
theorem dX9_monthOf_0 : decode cX9_monthOf 0 = .ok (.aload_n 0, 1) := by decide +kernel
theorem dX9_monthOf_1 : decode cX9_monthOf 1 = .ok (.iconst 0, 1) := by decide +kernel
theorem dX9_monthOf_2 : decode cX9_monthOf 2 = .ok (.putfield 87, 3) := by decide +kernel
theorem dX9_monthOf_5 : decode cX9_monthOf 5 = .ok (.iload_n 1, 1) := by decide +kernel
theorem dX9_monthOf_6 : decode cX9_monthOf 6 = .ok (.invokestatic 126, 3) := by decide +kernel
theorem dX9_monthOf_9 : decode cX9_monthOf 9 = .ok (.ifCond .eq 10, 3) := by decide +kernel
theorem dX9_monthOf_12 : decode cX9_monthOf 12 = .ok (.iload_n 1, 1) := by decide +kernel
theorem dX9_monthOf_13 : decode cX9_monthOf 13 = .ok (.invokestatic 112, 3) := by decide +kernel
theorem dX9_monthOf_16 : decode cX9_monthOf 16 = .ok (.goto 8, 3) := by decide +kernel
theorem dX9_monthOf_19 : decode cX9_monthOf 19 = .ok (.aload_n 0, 1) := by decide +kernel
theorem dX9_monthOf_20 : decode cX9_monthOf 20 = .ok (.iconst 1, 1) := by decide +kernel
theorem dX9_monthOf_21 : decode cX9_monthOf 21 = .ok (.invokevirtual 123, 3) := by decide +kernel
theorem dX9_monthOf_24 : decode cX9_monthOf 24 = .ok (.ireturn, 1) := by decide +kernel
theorem dX9_dayOfMonth_0 : decode cX9_dayOfMonth 0 = .ok (.aload_n 0, 1) := by decide +kernel
theorem dX9_dayOfMonth_1 : decode cX9_dayOfMonth 1 = .ok (.iconst 0, 1) := by decide +kernel
theorem dX9_dayOfMonth_2 : decode cX9_dayOfMonth 2 = .ok (.putfield 87, 3) := by decide +kernel
theorem dX9_dayOfMonth_5 : decode cX9_dayOfMonth 5 = .ok (.iload_n 1, 1) := by decide +kernel
theorem dX9_dayOfMonth_6 : decode cX9_dayOfMonth 6 = .ok (.invokestatic 126, 3) := by decide +kernel
theorem dX9_dayOfMonth_9 : decode cX9_dayOfMonth 9 = .ok (.ifCond .eq 10, 3) := by decide +kernel
theorem dX9_dayOfMonth_12 : decode cX9_dayOfMonth 12 = .ok (.iload_n 1, 1) := by decide +kernel
theorem dX9_dayOfMonth_13 : decode cX9_dayOfMonth 13 = .ok (.invokestatic 129, 3) := by decide +kernel
theorem dX9_dayOfMonth_16 : decode cX9_dayOfMonth 16 = .ok (.goto 8, 3) := by decide +kernel
theorem dX9_dayOfMonth_19 : decode cX9_dayOfMonth 19 = .ok (.aload_n 0, 1) := by decide +kernel
theorem dX9_dayOfMonth_20 : decode cX9_dayOfMonth 20 = .ok (.iconst 1, 1) := by decide +kernel
theorem dX9_dayOfMonth_21 : decode cX9_dayOfMonth 21 = .ok (.invokevirtual 123, 3) := by decide +kernel
theorem dX9_dayOfMonth_24 : decode cX9_dayOfMonth 24 = .ok (.ireturn, 1) := by decide +kernel
theorem dX9_weekdayOf_0 : decode cX9_weekdayOf 0 = .ok (.aload_n 0, 1) := by decide +kernel
theorem dX9_weekdayOf_1 : decode cX9_weekdayOf 1 = .ok (.iconst 0, 1) := by decide +kernel
theorem dX9_weekdayOf_2 : decode cX9_weekdayOf 2 = .ok (.putfield 87, 3) := by decide +kernel
theorem dX9_weekdayOf_5 : decode cX9_weekdayOf 5 = .ok (.iload_n 1, 1) := by decide +kernel
theorem dX9_weekdayOf_6 : decode cX9_weekdayOf 6 = .ok (.invokestatic 126, 3) := by decide +kernel
theorem dX9_weekdayOf_9 : decode cX9_weekdayOf 9 = .ok (.ifCond .eq 10, 3) := by decide +kernel
theorem dX9_weekdayOf_12 : decode cX9_weekdayOf 12 = .ok (.iload_n 1, 1) := by decide +kernel
theorem dX9_weekdayOf_13 : decode cX9_weekdayOf 13 = .ok (.bipush 7, 2) := by decide +kernel
theorem dX9_weekdayOf_15 : decode cX9_weekdayOf 15 = .ok (.irem, 1) := by decide +kernel
theorem dX9_weekdayOf_16 : decode cX9_weekdayOf 16 = .ok (.goto 8, 3) := by decide +kernel
theorem dX9_weekdayOf_19 : decode cX9_weekdayOf 19 = .ok (.aload_n 0, 1) := by decide +kernel
theorem dX9_weekdayOf_20 : decode cX9_weekdayOf 20 = .ok (.iconst 1, 1) := by decide +kernel
theorem dX9_weekdayOf_21 : decode cX9_weekdayOf 21 = .ok (.invokevirtual 123, 3) := by decide +kernel
theorem dX9_weekdayOf_24 : decode cX9_weekdayOf 24 = .ok (.ireturn, 1) := by decide +kernel
theorem dX9_thursday_0 : decode cX9_thursday 0 = .ok (.iload_n 0, 1) := by decide +kernel
theorem dX9_thursday_1 : decode cX9_thursday 1 = .ok (.bipush 7, 2) := by decide +kernel
theorem dX9_thursday_3 : decode cX9_thursday 3 = .ok (.idiv, 1) := by decide +kernel
theorem dX9_thursday_4 : decode cX9_thursday 4 = .ok (.bipush 7, 2) := by decide +kernel
theorem dX9_thursday_6 : decode cX9_thursday 6 = .ok (.imul, 1) := by decide +kernel
theorem dX9_thursday_7 : decode cX9_thursday 7 = .ok (.iconst 3, 1) := by decide +kernel
theorem dX9_thursday_8 : decode cX9_thursday 8 = .ok (.iadd, 1) := by decide +kernel
theorem dX9_thursday_9 : decode cX9_thursday 9 = .ok (.ireturn, 1) := by decide +kernel
theorem dX9_weekOf_0 : decode cX9_weekOf 0 = .ok (.aload_n 0, 1) := by decide +kernel
theorem dX9_weekOf_1 : decode cX9_weekOf 1 = .ok (.iconst 0, 1) := by decide +kernel
theorem dX9_weekOf_2 : decode cX9_weekOf 2 = .ok (.putfield 87, 3) := by decide +kernel
theorem dX9_weekOf_5 : decode cX9_weekOf 5 = .ok (.iload_n 1, 1) := by decide +kernel
theorem dX9_weekOf_6 : decode cX9_weekOf 6 = .ok (.invokestatic 126, 3) := by decide +kernel
theorem dX9_weekOf_9 : decode cX9_weekOf 9 = .ok (.ifCond .eq 26, 3) := by decide +kernel
theorem dX9_weekOf_12 : decode cX9_weekOf 12 = .ok (.iload_n 1, 1) := by decide +kernel
theorem dX9_weekOf_13 : decode cX9_weekOf 13 = .ok (.invokestatic 132, 3) := by decide +kernel
theorem dX9_weekOf_16 : decode cX9_weekOf 16 = .ok (.iload_n 1, 1) := by decide +kernel
theorem dX9_weekOf_17 : decode cX9_weekOf 17 = .ok (.invokestatic 132, 3) := by decide +kernel
theorem dX9_weekOf_20 : decode cX9_weekOf 20 = .ok (.invokestatic 109, 3) := by decide +kernel
theorem dX9_weekOf_23 : decode cX9_weekOf 23 = .ok (.invokestatic 96, 3) := by decide +kernel
theorem dX9_weekOf_26 : decode cX9_weekOf 26 = .ok (.isub, 1) := by decide +kernel
theorem dX9_weekOf_27 : decode cX9_weekOf 27 = .ok (.bipush 7, 2) := by decide +kernel
theorem dX9_weekOf_29 : decode cX9_weekOf 29 = .ok (.idiv, 1) := by decide +kernel
theorem dX9_weekOf_30 : decode cX9_weekOf 30 = .ok (.iconst 1, 1) := by decide +kernel
theorem dX9_weekOf_31 : decode cX9_weekOf 31 = .ok (.iadd, 1) := by decide +kernel
theorem dX9_weekOf_32 : decode cX9_weekOf 32 = .ok (.goto 8, 3) := by decide +kernel
theorem dX9_weekOf_35 : decode cX9_weekOf 35 = .ok (.aload_n 0, 1) := by decide +kernel
theorem dX9_weekOf_36 : decode cX9_weekOf 36 = .ok (.iconst 1, 1) := by decide +kernel
theorem dX9_weekOf_37 : decode cX9_weekOf 37 = .ok (.invokevirtual 123, 3) := by decide +kernel
theorem dX9_weekOf_40 : decode cX9_weekOf 40 = .ok (.ireturn, 1) := by decide +kernel
theorem dX9_yearOfWeek_0 : decode cX9_yearOfWeek 0 = .ok (.aload_n 0, 1) := by decide +kernel
theorem dX9_yearOfWeek_1 : decode cX9_yearOfWeek 1 = .ok (.iconst 0, 1) := by decide +kernel
theorem dX9_yearOfWeek_2 : decode cX9_yearOfWeek 2 = .ok (.putfield 87, 3) := by decide +kernel
theorem dX9_yearOfWeek_5 : decode cX9_yearOfWeek 5 = .ok (.iload_n 1, 1) := by decide +kernel
theorem dX9_yearOfWeek_6 : decode cX9_yearOfWeek 6 = .ok (.invokestatic 126, 3) := by decide +kernel
theorem dX9_yearOfWeek_9 : decode cX9_yearOfWeek 9 = .ok (.ifCond .eq 13, 3) := by decide +kernel
theorem dX9_yearOfWeek_12 : decode cX9_yearOfWeek 12 = .ok (.iload_n 1, 1) := by decide +kernel
theorem dX9_yearOfWeek_13 : decode cX9_yearOfWeek 13 = .ok (.invokestatic 132, 3) := by decide +kernel
theorem dX9_yearOfWeek_16 : decode cX9_yearOfWeek 16 = .ok (.invokestatic 109, 3) := by decide +kernel
theorem dX9_yearOfWeek_19 : decode cX9_yearOfWeek 19 = .ok (.goto 8, 3) := by decide +kernel
theorem dX9_yearOfWeek_22 : decode cX9_yearOfWeek 22 = .ok (.aload_n 0, 1) := by decide +kernel
theorem dX9_yearOfWeek_23 : decode cX9_yearOfWeek 23 = .ok (.iconst 1, 1) := by decide +kernel
theorem dX9_yearOfWeek_24 : decode cX9_yearOfWeek 24 = .ok (.invokevirtual 123, 3) := by decide +kernel
theorem dX9_yearOfWeek_27 : decode cX9_yearOfWeek 27 = .ok (.ireturn, 1) := by decide +kernel
theorem dX9_easterOf_0 : decode cX9_easterOf 0 = .ok (.aload_n 0, 1) := by decide +kernel
theorem dX9_easterOf_1 : decode cX9_easterOf 1 = .ok (.iconst 0, 1) := by decide +kernel
theorem dX9_easterOf_2 : decode cX9_easterOf 2 = .ok (.putfield 87, 3) := by decide +kernel
theorem dX9_easterOf_5 : decode cX9_easterOf 5 = .ok (.iload_n 1, 1) := by decide +kernel
theorem dX9_easterOf_6 : decode cX9_easterOf 6 = .ok (.invokestatic 119, 3) := by decide +kernel
theorem dX9_easterOf_9 : decode cX9_easterOf 9 = .ok (.ifCond .eq 10, 3) := by decide +kernel
theorem dX9_easterOf_12 : decode cX9_easterOf 12 = .ok (.iload_n 1, 1) := by decide +kernel
theorem dX9_easterOf_13 : decode cX9_easterOf 13 = .ok (.invokestatic 135, 3) := by decide +kernel
theorem dX9_easterOf_16 : decode cX9_easterOf 16 = .ok (.goto 8, 3) := by decide +kernel
theorem dX9_easterOf_19 : decode cX9_easterOf 19 = .ok (.aload_n 0, 1) := by decide +kernel
theorem dX9_easterOf_20 : decode cX9_easterOf 20 = .ok (.iconst 1, 1) := by decide +kernel
theorem dX9_easterOf_21 : decode cX9_easterOf 21 = .ok (.invokevirtual 123, 3) := by decide +kernel
theorem dX9_easterOf_24 : decode cX9_easterOf 24 = .ok (.ireturn, 1) := by decide +kernel
theorem dX9_plusMonths_0 : decode cX9_plusMonths 0 = .ok (.aload_n 0, 1) := by decide +kernel
theorem dX9_plusMonths_1 : decode cX9_plusMonths 1 = .ok (.iconst 0, 1) := by decide +kernel
theorem dX9_plusMonths_2 : decode cX9_plusMonths 2 = .ok (.putfield 87, 3) := by decide +kernel
theorem dX9_plusMonths_5 : decode cX9_plusMonths 5 = .ok (.iload_n 1, 1) := by decide +kernel
theorem dX9_plusMonths_6 : decode cX9_plusMonths 6 = .ok (.invokestatic 126, 3) := by decide +kernel
theorem dX9_plusMonths_9 : decode cX9_plusMonths 9 = .ok (.ifCond .ne 9, 3) := by decide +kernel
theorem dX9_plusMonths_12 : decode cX9_plusMonths 12 = .ok (.aload_n 0, 1) := by decide +kernel
theorem dX9_plusMonths_13 : decode cX9_plusMonths 13 = .ok (.iconst 1, 1) := by decide +kernel
theorem dX9_plusMonths_14 : decode cX9_plusMonths 14 = .ok (.invokevirtual 123, 3) := by decide +kernel
theorem dX9_plusMonths_17 : decode cX9_plusMonths 17 = .ok (.ireturn, 1) := by decide +kernel
theorem dX9_plusMonths_18 : decode cX9_plusMonths 18 = .ok (.ldc2_w 138, 3) := by decide +kernel
theorem dX9_plusMonths_21 : decode cX9_plusMonths 21 = .ok (.iload_n 1, 1) := by decide +kernel
theorem dX9_plusMonths_22 : decode cX9_plusMonths 22 = .ok (.invokestatic 109, 3) := by decide +kernel
theorem dX9_plusMonths_25 : decode cX9_plusMonths 25 = .ok (.sipush 1900, 3) := by decide +kernel
theorem dX9_plusMonths_28 : decode cX9_plusMonths 28 = .ok (.isub, 1) := by decide +kernel
theorem dX9_plusMonths_29 : decode cX9_plusMonths 29 = .ok (.i2l, 1) := by decide +kernel
theorem dX9_plusMonths_30 : decode cX9_plusMonths 30 = .ok (.lmul, 1) := by decide +kernel
theorem dX9_plusMonths_31 : decode cX9_plusMonths 31 = .ok (.iload_n 1, 1) := by decide +kernel
theorem dX9_plusMonths_32 : decode cX9_plusMonths 32 = .ok (.invokestatic 112, 3) := by decide +kernel
theorem dX9_plusMonths_35 : decode cX9_plusMonths 35 = .ok (.i2l, 1) := by decide +kernel
theorem dX9_plusMonths_36 : decode cX9_plusMonths 36 = .ok (.ladd, 1) := by decide +kernel
theorem dX9_plusMonths_37 : decode cX9_plusMonths 37 = .ok (.lconst 1, 1) := by decide +kernel
theorem dX9_plusMonths_38 : decode cX9_plusMonths 38 = .ok (.lsub, 1) := by decide +kernel
theorem dX9_plusMonths_39 : decode cX9_plusMonths 39 = .ok (.iload_n 2, 1) := by decide +kernel
theorem dX9_plusMonths_40 : decode cX9_plusMonths 40 = .ok (.i2l, 1) := by decide +kernel
theorem dX9_plusMonths_41 : decode cX9_plusMonths 41 = .ok (.ladd, 1) := by decide +kernel
theorem dX9_plusMonths_42 : decode cX9_plusMonths 42 = .ok (.lstore_n 3, 1) := by decide +kernel
theorem dX9_plusMonths_43 : decode cX9_plusMonths 43 = .ok (.lload_n 3, 1) := by decide +kernel
theorem dX9_plusMonths_44 : decode cX9_plusMonths 44 = .ok (.lconst 0, 1) := by decide +kernel
theorem dX9_plusMonths_45 : decode cX9_plusMonths 45 = .ok (.lcmp, 1) := by decide +kernel
theorem dX9_plusMonths_46 : decode cX9_plusMonths 46 = .ok (.ifCond .lt 11, 3) := by decide +kernel
theorem dX9_plusMonths_49 : decode cX9_plusMonths 49 = .ok (.lload_n 3, 1) := by decide +kernel
theorem dX9_plusMonths_50 : decode cX9_plusMonths 50 = .ok (.ldc2_w 140, 3) := by decide +kernel
theorem dX9_plusMonths_53 : decode cX9_plusMonths 53 = .ok (.lcmp, 1) := by decide +kernel
theorem dX9_plusMonths_54 : decode cX9_plusMonths 54 = .ok (.ifCond .lt 9, 3) := by decide +kernel
theorem dX9_plusMonths_57 : decode cX9_plusMonths 57 = .ok (.aload_n 0, 1) := by decide +kernel
theorem dX9_plusMonths_58 : decode cX9_plusMonths 58 = .ok (.iconst 2, 1) := by decide +kernel
theorem dX9_plusMonths_59 : decode cX9_plusMonths 59 = .ok (.invokevirtual 123, 3) := by decide +kernel
theorem dX9_plusMonths_62 : decode cX9_plusMonths 62 = .ok (.ireturn, 1) := by decide +kernel
theorem dX9_plusMonths_63 : decode cX9_plusMonths 63 = .ok (.sipush 1900, 3) := by decide +kernel
theorem dX9_plusMonths_66 : decode cX9_plusMonths 66 = .ok (.lload_n 3, 1) := by decide +kernel
theorem dX9_plusMonths_67 : decode cX9_plusMonths 67 = .ok (.l2i, 1) := by decide +kernel
theorem dX9_plusMonths_68 : decode cX9_plusMonths 68 = .ok (.bipush 12, 2) := by decide +kernel
theorem dX9_plusMonths_70 : decode cX9_plusMonths 70 = .ok (.idiv, 1) := by decide +kernel
theorem dX9_plusMonths_71 : decode cX9_plusMonths 71 = .ok (.iadd, 1) := by decide +kernel
theorem dX9_plusMonths_72 : decode cX9_plusMonths 72 = .ok (.istore 5, 2) := by decide +kernel
theorem dX9_plusMonths_74 : decode cX9_plusMonths 74 = .ok (.lload_n 3, 1) := by decide +kernel
theorem dX9_plusMonths_75 : decode cX9_plusMonths 75 = .ok (.l2i, 1) := by decide +kernel
theorem dX9_plusMonths_76 : decode cX9_plusMonths 76 = .ok (.bipush 12, 2) := by decide +kernel
theorem dX9_plusMonths_78 : decode cX9_plusMonths 78 = .ok (.irem, 1) := by decide +kernel
theorem dX9_plusMonths_79 : decode cX9_plusMonths 79 = .ok (.iconst 1, 1) := by decide +kernel
theorem dX9_plusMonths_80 : decode cX9_plusMonths 80 = .ok (.iadd, 1) := by decide +kernel
theorem dX9_plusMonths_81 : decode cX9_plusMonths 81 = .ok (.istore 6, 2) := by decide +kernel
theorem dX9_plusMonths_83 : decode cX9_plusMonths 83 = .ok (.iload 5, 2) := by decide +kernel
theorem dX9_plusMonths_85 : decode cX9_plusMonths 85 = .ok (.iload 6, 2) := by decide +kernel
theorem dX9_plusMonths_87 : decode cX9_plusMonths 87 = .ok (.iload_n 1, 1) := by decide +kernel
theorem dX9_plusMonths_88 : decode cX9_plusMonths 88 = .ok (.invokestatic 129, 3) := by decide +kernel
theorem dX9_plusMonths_91 : decode cX9_plusMonths 91 = .ok (.iload 5, 2) := by decide +kernel
theorem dX9_plusMonths_93 : decode cX9_plusMonths 93 = .ok (.iload 6, 2) := by decide +kernel
theorem dX9_plusMonths_95 : decode cX9_plusMonths 95 = .ok (.invokestatic 100, 3) := by decide +kernel
theorem dX9_plusMonths_98 : decode cX9_plusMonths 98 = .ok (.invokestatic 104, 3) := by decide +kernel
theorem dX9_plusMonths_101 : decode cX9_plusMonths 101 = .ok (.invokestatic 115, 3) := by decide +kernel
theorem dX9_plusMonths_104 : decode cX9_plusMonths 104 = .ok (.ireturn, 1) := by decide +kernel
theorem dX9_isPattern_0 : decode cX9_isPattern 0 = .ok (.iload_n 1, 1) := by decide +kernel
theorem dX9_isPattern_1 : decode cX9_isPattern 1 = .ok (.iconst 0, 1) := by decide +kernel
theorem dX9_isPattern_2 : decode cX9_isPattern 2 = .ok (.aload_n 0, 1) := by decide +kernel
theorem dX9_isPattern_3 : decode cX9_isPattern 3 = .ok (.getfield 142, 3) := by decide +kernel
theorem dX9_isPattern_6 : decode cX9_isPattern 6 = .ok (.iconst 1, 1) := by decide +kernel
theorem dX9_isPattern_7 : decode cX9_isPattern 7 = .ok (.isub, 1) := by decide +kernel
theorem dX9_isPattern_8 : decode cX9_isPattern 8 = .ok (.invokestatic 91, 3) := by decide +kernel
theorem dX9_isPattern_11 : decode cX9_isPattern 11 = .ok (.ireturn, 1) := by decide +kernel
theorem dX9_addPattern_0 : decode cX9_addPattern 0 = .ok (.aload_n 0, 1) := by decide +kernel
theorem dX9_addPattern_1 : decode cX9_addPattern 1 = .ok (.iconst 0, 1) := by decide +kernel
theorem dX9_addPattern_2 : decode cX9_addPattern 2 = .ok (.putfield 87, 3) := by decide +kernel
theorem dX9_addPattern_5 : decode cX9_addPattern 5 = .ok (.iload_n 1, 1) := by decide +kernel
theorem dX9_addPattern_6 : decode cX9_addPattern 6 = .ok (.iconst 0, 1) := by decide +kernel
theorem dX9_addPattern_7 : decode cX9_addPattern 7 = .ok (.bipush 12, 2) := by decide +kernel
theorem dX9_addPattern_9 : decode cX9_addPattern 9 = .ok (.invokestatic 91, 3) := by decide +kernel
theorem dX9_addPattern_12 : decode cX9_addPattern 12 = .ok (.ifCond .eq 54, 3) := by decide +kernel
theorem dX9_addPattern_15 : decode cX9_addPattern 15 = .ok (.iload_n 2, 1) := by decide +kernel
theorem dX9_addPattern_16 : decode cX9_addPattern 16 = .ok (.iconst 0, 1) := by decide +kernel
theorem dX9_addPattern_17 : decode cX9_addPattern 17 = .ok (.bipush 16, 2) := by decide +kernel
theorem dX9_addPattern_19 : decode cX9_addPattern 19 = .ok (.invokestatic 91, 3) := by decide +kernel
theorem dX9_addPattern_22 : decode cX9_addPattern 22 = .ok (.ifCond .eq 44, 3) := by decide +kernel
theorem dX9_addPattern_25 : decode cX9_addPattern 25 = .ok (.iload_n 3, 1) := by decide +kernel
theorem dX9_addPattern_26 : decode cX9_addPattern 26 = .ok (.iconst 1, 1) := by decide +kernel
theorem dX9_addPattern_27 : decode cX9_addPattern 27 = .ok (.iload_n 2, 1) := by decide +kernel
theorem dX9_addPattern_28 : decode cX9_addPattern 28 = .ok (.iconst 2, 1) := by decide +kernel
theorem dX9_addPattern_29 : decode cX9_addPattern 29 = .ok (.if_icmp .ge 8, 3) := by decide +kernel
theorem dX9_addPattern_32 : decode cX9_addPattern 32 = .ok (.bipush 31, 2) := by decide +kernel
theorem dX9_addPattern_34 : decode cX9_addPattern 34 = .ok (.goto 16, 3) := by decide +kernel
theorem dX9_addPattern_37 : decode cX9_addPattern 37 = .ok (.iload_n 2, 1) := by decide +kernel
theorem dX9_addPattern_38 : decode cX9_addPattern 38 = .ok (.bipush 16, 2) := by decide +kernel
theorem dX9_addPattern_40 : decode cX9_addPattern 40 = .ok (.if_icmp .ge 7, 3) := by decide +kernel
theorem dX9_addPattern_43 : decode cX9_addPattern 43 = .ok (.iconst 5, 1) := by decide +kernel
theorem dX9_addPattern_44 : decode cX9_addPattern 44 = .ok (.goto 6, 3) := by decide +kernel
theorem dX9_addPattern_47 : decode cX9_addPattern 47 = .ok (.sipush 200, 3) := by decide +kernel
theorem dX9_addPattern_50 : decode cX9_addPattern 50 = .ok (.invokestatic 91, 3) := by decide +kernel
theorem dX9_addPattern_53 : decode cX9_addPattern 53 = .ok (.ifCond .eq 13, 3) := by decide +kernel
theorem dX9_addPattern_56 : decode cX9_addPattern 56 = .ok (.iload_n 2, 1) := by decide +kernel
theorem dX9_addPattern_57 : decode cX9_addPattern 57 = .ok (.bipush 16, 2) := by decide +kernel
theorem dX9_addPattern_59 : decode cX9_addPattern 59 = .ok (.if_icmp .ne 13, 3) := by decide +kernel
theorem dX9_addPattern_62 : decode cX9_addPattern 62 = .ok (.iload_n 1, 1) := by decide +kernel
theorem dX9_addPattern_63 : decode cX9_addPattern 63 = .ok (.ifCond .eq 9, 3) := by decide +kernel
theorem dX9_addPattern_66 : decode cX9_addPattern 66 = .ok (.aload_n 0, 1) := by decide +kernel
theorem dX9_addPattern_67 : decode cX9_addPattern 67 = .ok (.iconst 1, 1) := by decide +kernel
theorem dX9_addPattern_68 : decode cX9_addPattern 68 = .ok (.invokevirtual 123, 3) := by decide +kernel
theorem dX9_addPattern_71 : decode cX9_addPattern 71 = .ok (.ireturn, 1) := by decide +kernel
theorem dX9_addPattern_72 : decode cX9_addPattern 72 = .ok (.aload_n 0, 1) := by decide +kernel
theorem dX9_addPattern_73 : decode cX9_addPattern 73 = .ok (.getfield 142, 3) := by decide +kernel
theorem dX9_addPattern_76 : decode cX9_addPattern 76 = .ok (.bipush 24, 2) := by decide +kernel
theorem dX9_addPattern_78 : decode cX9_addPattern 78 = .ok (.if_icmp .ne 9, 3) := by decide +kernel
theorem dX9_addPattern_81 : decode cX9_addPattern 81 = .ok (.aload_n 0, 1) := by decide +kernel
theorem dX9_addPattern_82 : decode cX9_addPattern 82 = .ok (.iconst 2, 1) := by decide +kernel
theorem dX9_addPattern_83 : decode cX9_addPattern 83 = .ok (.invokevirtual 123, 3) := by decide +kernel
theorem dX9_addPattern_86 : decode cX9_addPattern 86 = .ok (.ireturn, 1) := by decide +kernel
theorem dX9_addPattern_87 : decode cX9_addPattern 87 = .ok (.aload_n 0, 1) := by decide +kernel
theorem dX9_addPattern_88 : decode cX9_addPattern 88 = .ok (.getfield 9, 3) := by decide +kernel
theorem dX9_addPattern_91 : decode cX9_addPattern 91 = .ok (.aload_n 0, 1) := by decide +kernel
theorem dX9_addPattern_92 : decode cX9_addPattern 92 = .ok (.getfield 142, 3) := by decide +kernel
theorem dX9_addPattern_95 : decode cX9_addPattern 95 = .ok (.iload_n 1, 1) := by decide +kernel
theorem dX9_addPattern_96 : decode cX9_addPattern 96 = .ok (.iastore, 1) := by decide +kernel
theorem dX9_addPattern_97 : decode cX9_addPattern 97 = .ok (.aload_n 0, 1) := by decide +kernel
theorem dX9_addPattern_98 : decode cX9_addPattern 98 = .ok (.getfield 13, 3) := by decide +kernel
theorem dX9_addPattern_101 : decode cX9_addPattern 101 = .ok (.aload_n 0, 1) := by decide +kernel
theorem dX9_addPattern_102 : decode cX9_addPattern 102 = .ok (.getfield 142, 3) := by decide +kernel
theorem dX9_addPattern_105 : decode cX9_addPattern 105 = .ok (.iload_n 2, 1) := by decide +kernel
theorem dX9_addPattern_106 : decode cX9_addPattern 106 = .ok (.iastore, 1) := by decide +kernel
theorem dX9_addPattern_107 : decode cX9_addPattern 107 = .ok (.aload_n 0, 1) := by decide +kernel
theorem dX9_addPattern_108 : decode cX9_addPattern 108 = .ok (.getfield 16, 3) := by decide +kernel
theorem dX9_addPattern_111 : decode cX9_addPattern 111 = .ok (.aload_n 0, 1) := by decide +kernel
theorem dX9_addPattern_112 : decode cX9_addPattern 112 = .ok (.getfield 142, 3) := by decide +kernel
theorem dX9_addPattern_115 : decode cX9_addPattern 115 = .ok (.iload_n 3, 1) := by decide +kernel
theorem dX9_addPattern_116 : decode cX9_addPattern 116 = .ok (.iastore, 1) := by decide +kernel
theorem dX9_addPattern_117 : decode cX9_addPattern 117 = .ok (.aload_n 0, 1) := by decide +kernel
theorem dX9_addPattern_118 : decode cX9_addPattern 118 = .ok (.dup, 1) := by decide +kernel
theorem dX9_addPattern_119 : decode cX9_addPattern 119 = .ok (.getfield 142, 3) := by decide +kernel
theorem dX9_addPattern_122 : decode cX9_addPattern 122 = .ok (.iconst 1, 1) := by decide +kernel
theorem dX9_addPattern_123 : decode cX9_addPattern 123 = .ok (.iadd, 1) := by decide +kernel
theorem dX9_addPattern_124 : decode cX9_addPattern 124 = .ok (.putfield 142, 3) := by decide +kernel
theorem dX9_addPattern_127 : decode cX9_addPattern 127 = .ok (.aload_n 0, 1) := by decide +kernel
theorem dX9_addPattern_128 : decode cX9_addPattern 128 = .ok (.getfield 142, 3) := by decide +kernel
theorem dX9_addPattern_131 : decode cX9_addPattern 131 = .ok (.iconst 1, 1) := by decide +kernel
theorem dX9_addPattern_132 : decode cX9_addPattern 132 = .ok (.isub, 1) := by decide +kernel
theorem dX9_addPattern_133 : decode cX9_addPattern 133 = .ok (.ireturn, 1) := by decide +kernel
theorem dX9_toldIn_0 : decode cX9_toldIn 0 = .ok (.aload_n 0, 1) := by decide +kernel
theorem dX9_toldIn_1 : decode cX9_toldIn 1 = .ok (.getfield 13, 3) := by decide +kernel
theorem dX9_toldIn_4 : decode cX9_toldIn 4 = .ok (.iload_n 1, 1) := by decide +kernel
theorem dX9_toldIn_5 : decode cX9_toldIn 5 = .ok (.iaload, 1) := by decide +kernel
theorem dX9_toldIn_6 : decode cX9_toldIn 6 = .ok (.istore 4, 2) := by decide +kernel
theorem dX9_toldIn_8 : decode cX9_toldIn 8 = .ok (.aload_n 0, 1) := by decide +kernel
theorem dX9_toldIn_9 : decode cX9_toldIn 9 = .ok (.getfield 16, 3) := by decide +kernel
theorem dX9_toldIn_12 : decode cX9_toldIn 12 = .ok (.iload_n 1, 1) := by decide +kernel
theorem dX9_toldIn_13 : decode cX9_toldIn 13 = .ok (.iaload, 1) := by decide +kernel
theorem dX9_toldIn_14 : decode cX9_toldIn 14 = .ok (.istore 5, 2) := by decide +kernel
theorem dX9_toldIn_16 : decode cX9_toldIn 16 = .ok (.iload 4, 2) := by decide +kernel
theorem dX9_toldIn_18 : decode cX9_toldIn 18 = .ok (.bipush 16, 2) := by decide +kernel
theorem dX9_toldIn_20 : decode cX9_toldIn 20 = .ok (.if_icmp .ne 48, 3) := by decide +kernel
theorem dX9_toldIn_23 : decode cX9_toldIn 23 = .ok (.iload_n 2, 1) := by decide +kernel
theorem dX9_toldIn_24 : decode cX9_toldIn 24 = .ok (.invokestatic 135, 3) := by decide +kernel
theorem dX9_toldIn_27 : decode cX9_toldIn 27 = .ok (.iload 5, 2) := by decide +kernel
theorem dX9_toldIn_29 : decode cX9_toldIn 29 = .ok (.iadd, 1) := by decide +kernel
theorem dX9_toldIn_30 : decode cX9_toldIn 30 = .ok (.bipush 100, 2) := by decide +kernel
theorem dX9_toldIn_32 : decode cX9_toldIn 32 = .ok (.isub, 1) := by decide +kernel
theorem dX9_toldIn_33 : decode cX9_toldIn 33 = .ok (.istore 6, 2) := by decide +kernel
theorem dX9_toldIn_35 : decode cX9_toldIn 35 = .ok (.iload 6, 2) := by decide +kernel
theorem dX9_toldIn_37 : decode cX9_toldIn 37 = .ok (.invokestatic 126, 3) := by decide +kernel
theorem dX9_toldIn_40 : decode cX9_toldIn 40 = .ok (.ifCond .eq 26, 3) := by decide +kernel
theorem dX9_toldIn_43 : decode cX9_toldIn 43 = .ok (.iload 6, 2) := by decide +kernel
theorem dX9_toldIn_45 : decode cX9_toldIn 45 = .ok (.invokestatic 109, 3) := by decide +kernel
theorem dX9_toldIn_48 : decode cX9_toldIn 48 = .ok (.iload_n 2, 1) := by decide +kernel
theorem dX9_toldIn_49 : decode cX9_toldIn 49 = .ok (.if_icmp .ne 17, 3) := by decide +kernel
theorem dX9_toldIn_52 : decode cX9_toldIn 52 = .ok (.iload 6, 2) := by decide +kernel
theorem dX9_toldIn_54 : decode cX9_toldIn 54 = .ok (.invokestatic 112, 3) := by decide +kernel
theorem dX9_toldIn_57 : decode cX9_toldIn 57 = .ok (.iload_n 3, 1) := by decide +kernel
theorem dX9_toldIn_58 : decode cX9_toldIn 58 = .ok (.if_icmp .ne 8, 3) := by decide +kernel
theorem dX9_toldIn_61 : decode cX9_toldIn 61 = .ok (.iload 6, 2) := by decide +kernel
theorem dX9_toldIn_63 : decode cX9_toldIn 63 = .ok (.goto 4, 3) := by decide +kernel
theorem dX9_toldIn_66 : decode cX9_toldIn 66 = .ok (.iconst (-1), 1) := by decide +kernel
theorem dX9_toldIn_67 : decode cX9_toldIn 67 = .ok (.ireturn, 1) := by decide +kernel
theorem dX9_toldIn_68 : decode cX9_toldIn 68 = .ok (.aload_n 0, 1) := by decide +kernel
theorem dX9_toldIn_69 : decode cX9_toldIn 69 = .ok (.getfield 9, 3) := by decide +kernel
theorem dX9_toldIn_72 : decode cX9_toldIn 72 = .ok (.iload_n 1, 1) := by decide +kernel
theorem dX9_toldIn_73 : decode cX9_toldIn 73 = .ok (.iaload, 1) := by decide +kernel
theorem dX9_toldIn_74 : decode cX9_toldIn 74 = .ok (.ifCond .eq 15, 3) := by decide +kernel
theorem dX9_toldIn_77 : decode cX9_toldIn 77 = .ok (.aload_n 0, 1) := by decide +kernel
theorem dX9_toldIn_78 : decode cX9_toldIn 78 = .ok (.getfield 9, 3) := by decide +kernel
theorem dX9_toldIn_81 : decode cX9_toldIn 81 = .ok (.iload_n 1, 1) := by decide +kernel
theorem dX9_toldIn_82 : decode cX9_toldIn 82 = .ok (.iaload, 1) := by decide +kernel
theorem dX9_toldIn_83 : decode cX9_toldIn 83 = .ok (.iload_n 3, 1) := by decide +kernel
theorem dX9_toldIn_84 : decode cX9_toldIn 84 = .ok (.if_icmp .eq 5, 3) := by decide +kernel
theorem dX9_toldIn_87 : decode cX9_toldIn 87 = .ok (.iconst (-1), 1) := by decide +kernel
theorem dX9_toldIn_88 : decode cX9_toldIn 88 = .ok (.ireturn, 1) := by decide +kernel
theorem dX9_toldIn_89 : decode cX9_toldIn 89 = .ok (.iload_n 2, 1) := by decide +kernel
theorem dX9_toldIn_90 : decode cX9_toldIn 90 = .ok (.iload_n 3, 1) := by decide +kernel
theorem dX9_toldIn_91 : decode cX9_toldIn 91 = .ok (.iconst 1, 1) := by decide +kernel
theorem dX9_toldIn_92 : decode cX9_toldIn 92 = .ok (.invokestatic 115, 3) := by decide +kernel
theorem dX9_toldIn_95 : decode cX9_toldIn 95 = .ok (.istore 6, 2) := by decide +kernel
theorem dX9_toldIn_97 : decode cX9_toldIn 97 = .ok (.iload_n 2, 1) := by decide +kernel
theorem dX9_toldIn_98 : decode cX9_toldIn 98 = .ok (.iload_n 3, 1) := by decide +kernel
theorem dX9_toldIn_99 : decode cX9_toldIn 99 = .ok (.invokestatic 100, 3) := by decide +kernel
theorem dX9_toldIn_102 : decode cX9_toldIn 102 = .ok (.istore 7, 2) := by decide +kernel
theorem dX9_toldIn_104 : decode cX9_toldIn 104 = .ok (.iload 5, 2) := by decide +kernel
theorem dX9_toldIn_106 : decode cX9_toldIn 106 = .ok (.istore 8, 2) := by decide +kernel
theorem dX9_toldIn_108 : decode cX9_toldIn 108 = .ok (.iload 4, 2) := by decide +kernel
theorem dX9_toldIn_110 : decode cX9_toldIn 110 = .ok (.iconst 1, 1) := by decide +kernel
theorem dX9_toldIn_111 : decode cX9_toldIn 111 = .ok (.if_icmp .ne 12, 3) := by decide +kernel
theorem dX9_toldIn_114 : decode cX9_toldIn 114 = .ok (.iload 7, 2) := by decide +kernel
theorem dX9_toldIn_116 : decode cX9_toldIn 116 = .ok (.iconst 1, 1) := by decide +kernel
theorem dX9_toldIn_117 : decode cX9_toldIn 117 = .ok (.iadd, 1) := by decide +kernel
theorem dX9_toldIn_118 : decode cX9_toldIn 118 = .ok (.iload 5, 2) := by decide +kernel
theorem dX9_toldIn_120 : decode cX9_toldIn 120 = .ok (.isub, 1) := by decide +kernel
theorem dX9_toldIn_121 : decode cX9_toldIn 121 = .ok (.istore 8, 2) := by decide +kernel
theorem dX9_toldIn_123 : decode cX9_toldIn 123 = .ok (.iload 4, 2) := by decide +kernel
theorem dX9_toldIn_125 : decode cX9_toldIn 125 = .ok (.iconst 2, 1) := by decide +kernel
theorem dX9_toldIn_126 : decode cX9_toldIn 126 = .ok (.if_icmp .lt 38, 3) := by decide +kernel
theorem dX9_toldIn_129 : decode cX9_toldIn 129 = .ok (.iload 4, 2) := by decide +kernel
theorem dX9_toldIn_131 : decode cX9_toldIn 131 = .ok (.bipush 9, 2) := by decide +kernel
theorem dX9_toldIn_133 : decode cX9_toldIn 133 = .ok (.if_icmp .ge 31, 3) := by decide +kernel
theorem dX9_toldIn_136 : decode cX9_toldIn 136 = .ok (.iconst 1, 1) := by decide +kernel
theorem dX9_toldIn_137 : decode cX9_toldIn 137 = .ok (.iload 4, 2) := by decide +kernel
theorem dX9_toldIn_139 : decode cX9_toldIn 139 = .ok (.iconst 2, 1) := by decide +kernel
theorem dX9_toldIn_140 : decode cX9_toldIn 140 = .ok (.isub, 1) := by decide +kernel
theorem dX9_toldIn_141 : decode cX9_toldIn 141 = .ok (.iload 6, 2) := by decide +kernel
theorem dX9_toldIn_143 : decode cX9_toldIn 143 = .ok (.bipush 7, 2) := by decide +kernel
theorem dX9_toldIn_145 : decode cX9_toldIn 145 = .ok (.irem, 1) := by decide +kernel
theorem dX9_toldIn_146 : decode cX9_toldIn 146 = .ok (.isub, 1) := by decide +kernel
theorem dX9_toldIn_147 : decode cX9_toldIn 147 = .ok (.bipush 7, 2) := by decide +kernel
theorem dX9_toldIn_149 : decode cX9_toldIn 149 = .ok (.iadd, 1) := by decide +kernel
theorem dX9_toldIn_150 : decode cX9_toldIn 150 = .ok (.bipush 7, 2) := by decide +kernel
theorem dX9_toldIn_152 : decode cX9_toldIn 152 = .ok (.irem, 1) := by decide +kernel
theorem dX9_toldIn_153 : decode cX9_toldIn 153 = .ok (.iadd, 1) := by decide +kernel
theorem dX9_toldIn_154 : decode cX9_toldIn 154 = .ok (.bipush 7, 2) := by decide +kernel
theorem dX9_toldIn_156 : decode cX9_toldIn 156 = .ok (.iload 5, 2) := by decide +kernel
theorem dX9_toldIn_158 : decode cX9_toldIn 158 = .ok (.iconst 1, 1) := by decide +kernel
theorem dX9_toldIn_159 : decode cX9_toldIn 159 = .ok (.isub, 1) := by decide +kernel
theorem dX9_toldIn_160 : decode cX9_toldIn 160 = .ok (.imul, 1) := by decide +kernel
theorem dX9_toldIn_161 : decode cX9_toldIn 161 = .ok (.iadd, 1) := by decide +kernel
theorem dX9_toldIn_162 : decode cX9_toldIn 162 = .ok (.istore 8, 2) := by decide +kernel
theorem dX9_toldIn_164 : decode cX9_toldIn 164 = .ok (.iload 4, 2) := by decide +kernel
theorem dX9_toldIn_166 : decode cX9_toldIn 166 = .ok (.bipush 9, 2) := by decide +kernel
theorem dX9_toldIn_168 : decode cX9_toldIn 168 = .ok (.if_icmp .lt 38, 3) := by decide +kernel
theorem dX9_toldIn_171 : decode cX9_toldIn 171 = .ok (.iload 7, 2) := by decide +kernel
theorem dX9_toldIn_173 : decode cX9_toldIn 173 = .ok (.iload 6, 2) := by decide +kernel
theorem dX9_toldIn_175 : decode cX9_toldIn 175 = .ok (.iload 7, 2) := by decide +kernel
theorem dX9_toldIn_177 : decode cX9_toldIn 177 = .ok (.iadd, 1) := by decide +kernel
theorem dX9_toldIn_178 : decode cX9_toldIn 178 = .ok (.iconst 1, 1) := by decide +kernel
theorem dX9_toldIn_179 : decode cX9_toldIn 179 = .ok (.isub, 1) := by decide +kernel
theorem dX9_toldIn_180 : decode cX9_toldIn 180 = .ok (.bipush 7, 2) := by decide +kernel
theorem dX9_toldIn_182 : decode cX9_toldIn 182 = .ok (.irem, 1) := by decide +kernel
theorem dX9_toldIn_183 : decode cX9_toldIn 183 = .ok (.iload 4, 2) := by decide +kernel
theorem dX9_toldIn_185 : decode cX9_toldIn 185 = .ok (.bipush 9, 2) := by decide +kernel
theorem dX9_toldIn_187 : decode cX9_toldIn 187 = .ok (.isub, 1) := by decide +kernel
theorem dX9_toldIn_188 : decode cX9_toldIn 188 = .ok (.isub, 1) := by decide +kernel
theorem dX9_toldIn_189 : decode cX9_toldIn 189 = .ok (.bipush 7, 2) := by decide +kernel
theorem dX9_toldIn_191 : decode cX9_toldIn 191 = .ok (.iadd, 1) := by decide +kernel
theorem dX9_toldIn_192 : decode cX9_toldIn 192 = .ok (.bipush 7, 2) := by decide +kernel
theorem dX9_toldIn_194 : decode cX9_toldIn 194 = .ok (.irem, 1) := by decide +kernel
theorem dX9_toldIn_195 : decode cX9_toldIn 195 = .ok (.isub, 1) := by decide +kernel
theorem dX9_toldIn_196 : decode cX9_toldIn 196 = .ok (.bipush 7, 2) := by decide +kernel
theorem dX9_toldIn_198 : decode cX9_toldIn 198 = .ok (.iload 5, 2) := by decide +kernel
theorem dX9_toldIn_200 : decode cX9_toldIn 200 = .ok (.iconst 1, 1) := by decide +kernel
theorem dX9_toldIn_201 : decode cX9_toldIn 201 = .ok (.isub, 1) := by decide +kernel
theorem dX9_toldIn_202 : decode cX9_toldIn 202 = .ok (.imul, 1) := by decide +kernel
theorem dX9_toldIn_203 : decode cX9_toldIn 203 = .ok (.isub, 1) := by decide +kernel
theorem dX9_toldIn_204 : decode cX9_toldIn 204 = .ok (.istore 8, 2) := by decide +kernel
theorem dX9_toldIn_206 : decode cX9_toldIn 206 = .ok (.iload 8, 2) := by decide +kernel
theorem dX9_toldIn_208 : decode cX9_toldIn 208 = .ok (.iconst 1, 1) := by decide +kernel
theorem dX9_toldIn_209 : decode cX9_toldIn 209 = .ok (.iload 7, 2) := by decide +kernel
theorem dX9_toldIn_211 : decode cX9_toldIn 211 = .ok (.invokestatic 91, 3) := by decide +kernel
theorem dX9_toldIn_214 : decode cX9_toldIn 214 = .ok (.ifCond .eq 13, 3) := by decide +kernel
theorem dX9_toldIn_217 : decode cX9_toldIn 217 = .ok (.iload 6, 2) := by decide +kernel
theorem dX9_toldIn_219 : decode cX9_toldIn 219 = .ok (.iload 8, 2) := by decide +kernel
theorem dX9_toldIn_221 : decode cX9_toldIn 221 = .ok (.iadd, 1) := by decide +kernel
theorem dX9_toldIn_222 : decode cX9_toldIn 222 = .ok (.iconst 1, 1) := by decide +kernel
theorem dX9_toldIn_223 : decode cX9_toldIn 223 = .ok (.isub, 1) := by decide +kernel
theorem dX9_toldIn_224 : decode cX9_toldIn 224 = .ok (.goto 4, 3) := by decide +kernel
theorem dX9_toldIn_227 : decode cX9_toldIn 227 = .ok (.iconst (-1), 1) := by decide +kernel
theorem dX9_toldIn_228 : decode cX9_toldIn 228 = .ok (.ireturn, 1) := by decide +kernel
theorem dX9_isTold_0 : decode cX9_isTold 0 = .ok (.aload_n 0, 1) := by decide +kernel
theorem dX9_isTold_1 : decode cX9_isTold 1 = .ok (.iload_n 1, 1) := by decide +kernel
theorem dX9_isTold_2 : decode cX9_isTold 2 = .ok (.iload_n 2, 1) := by decide +kernel
theorem dX9_isTold_3 : decode cX9_isTold 3 = .ok (.invokestatic 109, 3) := by decide +kernel
theorem dX9_isTold_6 : decode cX9_isTold 6 = .ok (.iload_n 2, 1) := by decide +kernel
theorem dX9_isTold_7 : decode cX9_isTold 7 = .ok (.invokestatic 112, 3) := by decide +kernel
theorem dX9_isTold_10 : decode cX9_isTold 10 = .ok (.invokevirtual 145, 3) := by decide +kernel
theorem dX9_isTold_13 : decode cX9_isTold 13 = .ok (.iload_n 2, 1) := by decide +kernel
theorem dX9_isTold_14 : decode cX9_isTold 14 = .ok (.if_icmp .ne 7, 3) := by decide +kernel
theorem dX9_isTold_17 : decode cX9_isTold 17 = .ok (.iconst 1, 1) := by decide +kernel
theorem dX9_isTold_18 : decode cX9_isTold 18 = .ok (.goto 4, 3) := by decide +kernel
theorem dX9_isTold_21 : decode cX9_isTold 21 = .ok (.iconst 0, 1) := by decide +kernel
theorem dX9_isTold_22 : decode cX9_isTold 22 = .ok (.ireturn, 1) := by decide +kernel
theorem dX9_daysTold_0 : decode cX9_daysTold 0 = .ok (.aload_n 0, 1) := by decide +kernel
theorem dX9_daysTold_1 : decode cX9_daysTold 1 = .ok (.iconst 0, 1) := by decide +kernel
theorem dX9_daysTold_2 : decode cX9_daysTold 2 = .ok (.putfield 87, 3) := by decide +kernel
theorem dX9_daysTold_5 : decode cX9_daysTold 5 = .ok (.aload_n 0, 1) := by decide +kernel
theorem dX9_daysTold_6 : decode cX9_daysTold 6 = .ok (.iload_n 1, 1) := by decide +kernel
theorem dX9_daysTold_7 : decode cX9_daysTold 7 = .ok (.invokevirtual 148, 3) := by decide +kernel
theorem dX9_daysTold_10 : decode cX9_daysTold 10 = .ok (.ifCond .ne 9, 3) := by decide +kernel
theorem dX9_daysTold_13 : decode cX9_daysTold 13 = .ok (.aload_n 0, 1) := by decide +kernel
theorem dX9_daysTold_14 : decode cX9_daysTold 14 = .ok (.iconst 1, 1) := by decide +kernel
theorem dX9_daysTold_15 : decode cX9_daysTold 15 = .ok (.invokevirtual 123, 3) := by decide +kernel
theorem dX9_daysTold_18 : decode cX9_daysTold 18 = .ok (.ireturn, 1) := by decide +kernel
theorem dX9_daysTold_19 : decode cX9_daysTold 19 = .ok (.iload_n 2, 1) := by decide +kernel
theorem dX9_daysTold_20 : decode cX9_daysTold 20 = .ok (.invokestatic 119, 3) := by decide +kernel
theorem dX9_daysTold_23 : decode cX9_daysTold 23 = .ok (.ifCond .ne 9, 3) := by decide +kernel
theorem dX9_daysTold_26 : decode cX9_daysTold 26 = .ok (.aload_n 0, 1) := by decide +kernel
theorem dX9_daysTold_27 : decode cX9_daysTold 27 = .ok (.iconst 2, 1) := by decide +kernel
theorem dX9_daysTold_28 : decode cX9_daysTold 28 = .ok (.invokevirtual 123, 3) := by decide +kernel
theorem dX9_daysTold_31 : decode cX9_daysTold 31 = .ok (.ireturn, 1) := by decide +kernel
theorem dX9_daysTold_32 : decode cX9_daysTold 32 = .ok (.iconst 0, 1) := by decide +kernel
theorem dX9_daysTold_33 : decode cX9_daysTold 33 = .ok (.istore_n 3, 1) := by decide +kernel
theorem dX9_daysTold_34 : decode cX9_daysTold 34 = .ok (.iconst 1, 1) := by decide +kernel
theorem dX9_daysTold_35 : decode cX9_daysTold 35 = .ok (.istore 4, 2) := by decide +kernel
theorem dX9_daysTold_37 : decode cX9_daysTold 37 = .ok (.iload 4, 2) := by decide +kernel
theorem dX9_daysTold_39 : decode cX9_daysTold 39 = .ok (.bipush 12, 2) := by decide +kernel
theorem dX9_daysTold_41 : decode cX9_daysTold 41 = .ok (.if_icmp .gt 29, 3) := by decide +kernel
theorem dX9_daysTold_44 : decode cX9_daysTold 44 = .ok (.iload_n 3, 1) := by decide +kernel
theorem dX9_daysTold_45 : decode cX9_daysTold 45 = .ok (.aload_n 0, 1) := by decide +kernel
theorem dX9_daysTold_46 : decode cX9_daysTold 46 = .ok (.iload_n 1, 1) := by decide +kernel
theorem dX9_daysTold_47 : decode cX9_daysTold 47 = .ok (.iload_n 2, 1) := by decide +kernel
theorem dX9_daysTold_48 : decode cX9_daysTold 48 = .ok (.iload 4, 2) := by decide +kernel
theorem dX9_daysTold_50 : decode cX9_daysTold 50 = .ok (.invokevirtual 145, 3) := by decide +kernel
theorem dX9_daysTold_53 : decode cX9_daysTold 53 = .ok (.iconst (-1), 1) := by decide +kernel
theorem dX9_daysTold_54 : decode cX9_daysTold 54 = .ok (.if_icmp .ne 7, 3) := by decide +kernel
theorem dX9_daysTold_57 : decode cX9_daysTold 57 = .ok (.iconst 0, 1) := by decide +kernel
theorem dX9_daysTold_58 : decode cX9_daysTold 58 = .ok (.goto 4, 3) := by decide +kernel
theorem dX9_daysTold_61 : decode cX9_daysTold 61 = .ok (.iconst 1, 1) := by decide +kernel
theorem dX9_daysTold_62 : decode cX9_daysTold 62 = .ok (.iadd, 1) := by decide +kernel
theorem dX9_daysTold_63 : decode cX9_daysTold 63 = .ok (.istore_n 3, 1) := by decide +kernel
theorem dX9_daysTold_64 : decode cX9_daysTold 64 = .ok (.iinc 4 1, 3) := by decide +kernel
theorem dX9_daysTold_67 : decode cX9_daysTold 67 = .ok (.goto (-30), 3) := by decide +kernel
theorem dX9_daysTold_70 : decode cX9_daysTold 70 = .ok (.iload_n 3, 1) := by decide +kernel
theorem dX9_daysTold_71 : decode cX9_daysTold 71 = .ok (.ireturn, 1) := by decide +kernel
theorem dX9_tells_0 : decode cX9_tells 0 = .ok (.aload_n 0, 1) := by decide +kernel
theorem dX9_tells_1 : decode cX9_tells 1 = .ok (.iconst 0, 1) := by decide +kernel
theorem dX9_tells_2 : decode cX9_tells 2 = .ok (.putfield 87, 3) := by decide +kernel
theorem dX9_tells_5 : decode cX9_tells 5 = .ok (.aload_n 0, 1) := by decide +kernel
theorem dX9_tells_6 : decode cX9_tells 6 = .ok (.iload_n 1, 1) := by decide +kernel
theorem dX9_tells_7 : decode cX9_tells 7 = .ok (.invokevirtual 148, 3) := by decide +kernel
theorem dX9_tells_10 : decode cX9_tells 10 = .ok (.ifCond .eq 17, 3) := by decide +kernel
theorem dX9_tells_13 : decode cX9_tells 13 = .ok (.iload_n 2, 1) := by decide +kernel
theorem dX9_tells_14 : decode cX9_tells 14 = .ok (.invokestatic 126, 3) := by decide +kernel
theorem dX9_tells_17 : decode cX9_tells 17 = .ok (.ifCond .eq 10, 3) := by decide +kernel
theorem dX9_tells_20 : decode cX9_tells 20 = .ok (.aload_n 0, 1) := by decide +kernel
theorem dX9_tells_21 : decode cX9_tells 21 = .ok (.iload_n 1, 1) := by decide +kernel
theorem dX9_tells_22 : decode cX9_tells 22 = .ok (.iload_n 2, 1) := by decide +kernel
theorem dX9_tells_23 : decode cX9_tells 23 = .ok (.invokevirtual 151, 3) := by decide +kernel
theorem dX9_tells_26 : decode cX9_tells 26 = .ok (.ireturn, 1) := by decide +kernel
theorem dX9_tells_27 : decode cX9_tells 27 = .ok (.aload_n 0, 1) := by decide +kernel
theorem dX9_tells_28 : decode cX9_tells 28 = .ok (.iconst 1, 1) := by decide +kernel
theorem dX9_tells_29 : decode cX9_tells 29 = .ok (.putfield 87, 3) := by decide +kernel
theorem dX9_tells_32 : decode cX9_tells 32 = .ok (.iconst 0, 1) := by decide +kernel
theorem dX9_tells_33 : decode cX9_tells 33 = .ok (.ireturn, 1) := by decide +kernel
theorem dX9_nextOf_0 : decode cX9_nextOf 0 = .ok (.iload_n 2, 1) := by decide +kernel
theorem dX9_nextOf_1 : decode cX9_nextOf 1 = .ok (.invokestatic 109, 3) := by decide +kernel
theorem dX9_nextOf_4 : decode cX9_nextOf 4 = .ok (.istore_n 3, 1) := by decide +kernel
theorem dX9_nextOf_5 : decode cX9_nextOf 5 = .ok (.iload_n 3, 1) := by decide +kernel
theorem dX9_nextOf_6 : decode cX9_nextOf 6 = .ok (.sipush 2099, 3) := by decide +kernel
theorem dX9_nextOf_9 : decode cX9_nextOf 9 = .ok (.if_icmp .gt 44, 3) := by decide +kernel
theorem dX9_nextOf_12 : decode cX9_nextOf 12 = .ok (.iconst 1, 1) := by decide +kernel
theorem dX9_nextOf_13 : decode cX9_nextOf 13 = .ok (.istore 4, 2) := by decide +kernel
theorem dX9_nextOf_15 : decode cX9_nextOf 15 = .ok (.iload 4, 2) := by decide +kernel
theorem dX9_nextOf_17 : decode cX9_nextOf 17 = .ok (.bipush 12, 2) := by decide +kernel
theorem dX9_nextOf_19 : decode cX9_nextOf 19 = .ok (.if_icmp .gt 28, 3) := by decide +kernel
theorem dX9_nextOf_22 : decode cX9_nextOf 22 = .ok (.aload_n 0, 1) := by decide +kernel
theorem dX9_nextOf_23 : decode cX9_nextOf 23 = .ok (.iload_n 1, 1) := by decide +kernel
theorem dX9_nextOf_24 : decode cX9_nextOf 24 = .ok (.iload_n 3, 1) := by decide +kernel
theorem dX9_nextOf_25 : decode cX9_nextOf 25 = .ok (.iload 4, 2) := by decide +kernel
theorem dX9_nextOf_27 : decode cX9_nextOf 27 = .ok (.invokevirtual 145, 3) := by decide +kernel
theorem dX9_nextOf_30 : decode cX9_nextOf 30 = .ok (.istore 5, 2) := by decide +kernel
theorem dX9_nextOf_32 : decode cX9_nextOf 32 = .ok (.iload 5, 2) := by decide +kernel
theorem dX9_nextOf_34 : decode cX9_nextOf 34 = .ok (.iload_n 2, 1) := by decide +kernel
theorem dX9_nextOf_35 : decode cX9_nextOf 35 = .ok (.if_icmp .lt 6, 3) := by decide +kernel
theorem dX9_nextOf_38 : decode cX9_nextOf 38 = .ok (.iload 5, 2) := by decide +kernel
theorem dX9_nextOf_40 : decode cX9_nextOf 40 = .ok (.ireturn, 1) := by decide +kernel
theorem dX9_nextOf_41 : decode cX9_nextOf 41 = .ok (.iinc 4 1, 3) := by decide +kernel
theorem dX9_nextOf_44 : decode cX9_nextOf 44 = .ok (.goto (-29), 3) := by decide +kernel
theorem dX9_nextOf_47 : decode cX9_nextOf 47 = .ok (.iinc 3 1, 3) := by decide +kernel
theorem dX9_nextOf_50 : decode cX9_nextOf 50 = .ok (.goto (-45), 3) := by decide +kernel
theorem dX9_nextOf_53 : decode cX9_nextOf 53 = .ok (.iconst (-1), 1) := by decide +kernel
theorem dX9_nextOf_54 : decode cX9_nextOf 54 = .ok (.ireturn, 1) := by decide +kernel
theorem dX9_nextTold_0 : decode cX9_nextTold 0 = .ok (.aload_n 0, 1) := by decide +kernel
theorem dX9_nextTold_1 : decode cX9_nextTold 1 = .ok (.iconst 0, 1) := by decide +kernel
theorem dX9_nextTold_2 : decode cX9_nextTold 2 = .ok (.putfield 87, 3) := by decide +kernel
theorem dX9_nextTold_5 : decode cX9_nextTold 5 = .ok (.aload_n 0, 1) := by decide +kernel
theorem dX9_nextTold_6 : decode cX9_nextTold 6 = .ok (.iload_n 1, 1) := by decide +kernel
theorem dX9_nextTold_7 : decode cX9_nextTold 7 = .ok (.invokevirtual 148, 3) := by decide +kernel
theorem dX9_nextTold_10 : decode cX9_nextTold 10 = .ok (.ifCond .eq 19, 3) := by decide +kernel
theorem dX9_nextTold_13 : decode cX9_nextTold 13 = .ok (.iload_n 2, 1) := by decide +kernel
theorem dX9_nextTold_14 : decode cX9_nextTold 14 = .ok (.invokestatic 126, 3) := by decide +kernel
theorem dX9_nextTold_17 : decode cX9_nextTold 17 = .ok (.ifCond .eq 12, 3) := by decide +kernel
theorem dX9_nextTold_20 : decode cX9_nextTold 20 = .ok (.aload_n 0, 1) := by decide +kernel
theorem dX9_nextTold_21 : decode cX9_nextTold 21 = .ok (.iload_n 1, 1) := by decide +kernel
theorem dX9_nextTold_22 : decode cX9_nextTold 22 = .ok (.iload_n 2, 1) := by decide +kernel
theorem dX9_nextTold_23 : decode cX9_nextTold 23 = .ok (.invokevirtual 155, 3) := by decide +kernel
theorem dX9_nextTold_26 : decode cX9_nextTold 26 = .ok (.goto 8, 3) := by decide +kernel
theorem dX9_nextTold_29 : decode cX9_nextTold 29 = .ok (.aload_n 0, 1) := by decide +kernel
theorem dX9_nextTold_30 : decode cX9_nextTold 30 = .ok (.iconst 1, 1) := by decide +kernel
theorem dX9_nextTold_31 : decode cX9_nextTold 31 = .ok (.invokevirtual 123, 3) := by decide +kernel
theorem dX9_nextTold_34 : decode cX9_nextTold 34 = .ok (.ireturn, 1) := by decide +kernel
theorem dX9_isPlace_0 : decode cX9_isPlace 0 = .ok (.iload_n 1, 1) := by decide +kernel
theorem dX9_isPlace_1 : decode cX9_isPlace 1 = .ok (.iconst 0, 1) := by decide +kernel
theorem dX9_isPlace_2 : decode cX9_isPlace 2 = .ok (.aload_n 0, 1) := by decide +kernel
theorem dX9_isPlace_3 : decode cX9_isPlace 3 = .ok (.getfield 158, 3) := by decide +kernel
theorem dX9_isPlace_6 : decode cX9_isPlace 6 = .ok (.iconst 1, 1) := by decide +kernel
theorem dX9_isPlace_7 : decode cX9_isPlace 7 = .ok (.isub, 1) := by decide +kernel
theorem dX9_isPlace_8 : decode cX9_isPlace 8 = .ok (.invokestatic 91, 3) := by decide +kernel
theorem dX9_isPlace_11 : decode cX9_isPlace 11 = .ok (.ireturn, 1) := by decide +kernel
theorem dX9_addPlace_0 : decode cX9_addPlace 0 = .ok (.aload_n 0, 1) := by decide +kernel
theorem dX9_addPlace_1 : decode cX9_addPlace 1 = .ok (.iconst 0, 1) := by decide +kernel
theorem dX9_addPlace_2 : decode cX9_addPlace 2 = .ok (.putfield 87, 3) := by decide +kernel
theorem dX9_addPlace_5 : decode cX9_addPlace 5 = .ok (.iload_n 1, 1) := by decide +kernel
theorem dX9_addPlace_6 : decode cX9_addPlace 6 = .ok (.sipush (-840), 3) := by decide +kernel
theorem dX9_addPlace_9 : decode cX9_addPlace 9 = .ok (.sipush 840, 3) := by decide +kernel
theorem dX9_addPlace_12 : decode cX9_addPlace 12 = .ok (.invokestatic 91, 3) := by decide +kernel
theorem dX9_addPlace_15 : decode cX9_addPlace 15 = .ok (.ifCond .ne 9, 3) := by decide +kernel
theorem dX9_addPlace_18 : decode cX9_addPlace 18 = .ok (.aload_n 0, 1) := by decide +kernel
theorem dX9_addPlace_19 : decode cX9_addPlace 19 = .ok (.iconst 1, 1) := by decide +kernel
theorem dX9_addPlace_20 : decode cX9_addPlace 20 = .ok (.invokevirtual 123, 3) := by decide +kernel
theorem dX9_addPlace_23 : decode cX9_addPlace 23 = .ok (.ireturn, 1) := by decide +kernel
theorem dX9_addPlace_24 : decode cX9_addPlace 24 = .ok (.aload_n 0, 1) := by decide +kernel
theorem dX9_addPlace_25 : decode cX9_addPlace 25 = .ok (.getfield 158, 3) := by decide +kernel
theorem dX9_addPlace_28 : decode cX9_addPlace 28 = .ok (.bipush 6, 2) := by decide +kernel
theorem dX9_addPlace_30 : decode cX9_addPlace 30 = .ok (.if_icmp .ne 9, 3) := by decide +kernel
theorem dX9_addPlace_33 : decode cX9_addPlace 33 = .ok (.aload_n 0, 1) := by decide +kernel
theorem dX9_addPlace_34 : decode cX9_addPlace 34 = .ok (.iconst 2, 1) := by decide +kernel
theorem dX9_addPlace_35 : decode cX9_addPlace 35 = .ok (.invokevirtual 123, 3) := by decide +kernel
theorem dX9_addPlace_38 : decode cX9_addPlace 38 = .ok (.ireturn, 1) := by decide +kernel
theorem dX9_addPlace_39 : decode cX9_addPlace 39 = .ok (.aload_n 0, 1) := by decide +kernel
theorem dX9_addPlace_40 : decode cX9_addPlace 40 = .ok (.getfield 19, 3) := by decide +kernel
theorem dX9_addPlace_43 : decode cX9_addPlace 43 = .ok (.aload_n 0, 1) := by decide +kernel
theorem dX9_addPlace_44 : decode cX9_addPlace 44 = .ok (.getfield 158, 3) := by decide +kernel
theorem dX9_addPlace_47 : decode cX9_addPlace 47 = .ok (.iload_n 1, 1) := by decide +kernel
theorem dX9_addPlace_48 : decode cX9_addPlace 48 = .ok (.iastore, 1) := by decide +kernel
theorem dX9_addPlace_49 : decode cX9_addPlace 49 = .ok (.aload_n 0, 1) := by decide +kernel
theorem dX9_addPlace_50 : decode cX9_addPlace 50 = .ok (.getfield 32, 3) := by decide +kernel
theorem dX9_addPlace_53 : decode cX9_addPlace 53 = .ok (.aload_n 0, 1) := by decide +kernel
theorem dX9_addPlace_54 : decode cX9_addPlace 54 = .ok (.getfield 158, 3) := by decide +kernel
theorem dX9_addPlace_57 : decode cX9_addPlace 57 = .ok (.iconst 0, 1) := by decide +kernel
theorem dX9_addPlace_58 : decode cX9_addPlace 58 = .ok (.newarray .int, 2) := by decide +kernel
theorem dX9_addPlace_60 : decode cX9_addPlace 60 = .ok (.aastore, 1) := by decide +kernel
theorem dX9_addPlace_61 : decode cX9_addPlace 61 = .ok (.aload_n 0, 1) := by decide +kernel
theorem dX9_addPlace_62 : decode cX9_addPlace 62 = .ok (.getfield 36, 3) := by decide +kernel
theorem dX9_addPlace_65 : decode cX9_addPlace 65 = .ok (.aload_n 0, 1) := by decide +kernel
theorem dX9_addPlace_66 : decode cX9_addPlace 66 = .ok (.getfield 158, 3) := by decide +kernel
theorem dX9_addPlace_69 : decode cX9_addPlace 69 = .ok (.iconst 0, 1) := by decide +kernel
theorem dX9_addPlace_70 : decode cX9_addPlace 70 = .ok (.newarray .int, 2) := by decide +kernel
theorem dX9_addPlace_72 : decode cX9_addPlace 72 = .ok (.aastore, 1) := by decide +kernel
theorem dX9_addPlace_73 : decode cX9_addPlace 73 = .ok (.aload_n 0, 1) := by decide +kernel
theorem dX9_addPlace_74 : decode cX9_addPlace 74 = .ok (.dup, 1) := by decide +kernel
theorem dX9_addPlace_75 : decode cX9_addPlace 75 = .ok (.getfield 158, 3) := by decide +kernel
theorem dX9_addPlace_78 : decode cX9_addPlace 78 = .ok (.iconst 1, 1) := by decide +kernel
theorem dX9_addPlace_79 : decode cX9_addPlace 79 = .ok (.iadd, 1) := by decide +kernel
theorem dX9_addPlace_80 : decode cX9_addPlace 80 = .ok (.putfield 158, 3) := by decide +kernel
theorem dX9_addPlace_83 : decode cX9_addPlace 83 = .ok (.aload_n 0, 1) := by decide +kernel
theorem dX9_addPlace_84 : decode cX9_addPlace 84 = .ok (.getfield 158, 3) := by decide +kernel
theorem dX9_addPlace_87 : decode cX9_addPlace 87 = .ok (.iconst 1, 1) := by decide +kernel
theorem dX9_addPlace_88 : decode cX9_addPlace 88 = .ok (.isub, 1) := by decide +kernel
theorem dX9_addPlace_89 : decode cX9_addPlace 89 = .ok (.ireturn, 1) := by decide +kernel
theorem dX9_addTurn_0 : decode cX9_addTurn 0 = .ok (.aload_n 0, 1) := by decide +kernel
theorem dX9_addTurn_1 : decode cX9_addTurn 1 = .ok (.iconst 0, 1) := by decide +kernel
theorem dX9_addTurn_2 : decode cX9_addTurn 2 = .ok (.putfield 87, 3) := by decide +kernel
theorem dX9_addTurn_5 : decode cX9_addTurn 5 = .ok (.aload_n 0, 1) := by decide +kernel
theorem dX9_addTurn_6 : decode cX9_addTurn 6 = .ok (.iload_n 1, 1) := by decide +kernel
theorem dX9_addTurn_7 : decode cX9_addTurn 7 = .ok (.invokevirtual 161, 3) := by decide +kernel
theorem dX9_addTurn_10 : decode cX9_addTurn 10 = .ok (.ifCond .eq 12, 3) := by decide +kernel
theorem dX9_addTurn_13 : decode cX9_addTurn 13 = .ok (.aload_n 0, 1) := by decide +kernel
theorem dX9_addTurn_14 : decode cX9_addTurn 14 = .ok (.iload 4, 2) := by decide +kernel
theorem dX9_addTurn_16 : decode cX9_addTurn 16 = .ok (.invokevirtual 148, 3) := by decide +kernel
theorem dX9_addTurn_19 : decode cX9_addTurn 19 = .ok (.ifCond .ne 9, 3) := by decide +kernel
theorem dX9_addTurn_22 : decode cX9_addTurn 22 = .ok (.aload_n 0, 1) := by decide +kernel
theorem dX9_addTurn_23 : decode cX9_addTurn 23 = .ok (.iconst 1, 1) := by decide +kernel
theorem dX9_addTurn_24 : decode cX9_addTurn 24 = .ok (.invokevirtual 123, 3) := by decide +kernel
theorem dX9_addTurn_27 : decode cX9_addTurn 27 = .ok (.ireturn, 1) := by decide +kernel
theorem dX9_addTurn_28 : decode cX9_addTurn 28 = .ok (.iload_n 2, 1) := by decide +kernel
theorem dX9_addTurn_29 : decode cX9_addTurn 29 = .ok (.invokestatic 119, 3) := by decide +kernel
theorem dX9_addTurn_32 : decode cX9_addTurn 32 = .ok (.ifCond .eq 70, 3) := by decide +kernel
theorem dX9_addTurn_35 : decode cX9_addTurn 35 = .ok (.iload_n 3, 1) := by decide +kernel
theorem dX9_addTurn_36 : decode cX9_addTurn 36 = .ok (.iload_n 2, 1) := by decide +kernel
theorem dX9_addTurn_37 : decode cX9_addTurn 37 = .ok (.sipush 2099, 3) := by decide +kernel
theorem dX9_addTurn_40 : decode cX9_addTurn 40 = .ok (.invokestatic 91, 3) := by decide +kernel
theorem dX9_addTurn_43 : decode cX9_addTurn 43 = .ok (.ifCond .eq 59, 3) := by decide +kernel
theorem dX9_addTurn_46 : decode cX9_addTurn 46 = .ok (.iload 5, 2) := by decide +kernel
theorem dX9_addTurn_48 : decode cX9_addTurn 48 = .ok (.iconst 0, 1) := by decide +kernel
theorem dX9_addTurn_49 : decode cX9_addTurn 49 = .ok (.sipush 1439, 3) := by decide +kernel
theorem dX9_addTurn_52 : decode cX9_addTurn 52 = .ok (.invokestatic 91, 3) := by decide +kernel
theorem dX9_addTurn_55 : decode cX9_addTurn 55 = .ok (.ifCond .eq 47, 3) := by decide +kernel
theorem dX9_addTurn_58 : decode cX9_addTurn 58 = .ok (.iload 6, 2) := by decide +kernel
theorem dX9_addTurn_60 : decode cX9_addTurn 60 = .ok (.iconst 0, 1) := by decide +kernel
theorem dX9_addTurn_61 : decode cX9_addTurn 61 = .ok (.iconst 2, 1) := by decide +kernel
theorem dX9_addTurn_62 : decode cX9_addTurn 62 = .ok (.invokestatic 91, 3) := by decide +kernel
theorem dX9_addTurn_65 : decode cX9_addTurn 65 = .ok (.ifCond .eq 37, 3) := by decide +kernel
theorem dX9_addTurn_68 : decode cX9_addTurn 68 = .ok (.iload 7, 2) := by decide +kernel
theorem dX9_addTurn_70 : decode cX9_addTurn 70 = .ok (.iconst 0, 1) := by decide +kernel
theorem dX9_addTurn_71 : decode cX9_addTurn 71 = .ok (.sipush 180, 3) := by decide +kernel
theorem dX9_addTurn_74 : decode cX9_addTurn 74 = .ok (.invokestatic 91, 3) := by decide +kernel
theorem dX9_addTurn_77 : decode cX9_addTurn 77 = .ok (.ifCond .eq 25, 3) := by decide +kernel
theorem dX9_addTurn_80 : decode cX9_addTurn 80 = .ok (.aload_n 0, 1) := by decide +kernel
theorem dX9_addTurn_81 : decode cX9_addTurn 81 = .ok (.getfield 9, 3) := by decide +kernel
theorem dX9_addTurn_84 : decode cX9_addTurn 84 = .ok (.iload 4, 2) := by decide +kernel
theorem dX9_addTurn_86 : decode cX9_addTurn 86 = .ok (.iaload, 1) := by decide +kernel
theorem dX9_addTurn_87 : decode cX9_addTurn 87 = .ok (.ifCond .ne 21, 3) := by decide +kernel
theorem dX9_addTurn_90 : decode cX9_addTurn 90 = .ok (.aload_n 0, 1) := by decide +kernel
theorem dX9_addTurn_91 : decode cX9_addTurn 91 = .ok (.getfield 13, 3) := by decide +kernel
theorem dX9_addTurn_94 : decode cX9_addTurn 94 = .ok (.iload 4, 2) := by decide +kernel
theorem dX9_addTurn_96 : decode cX9_addTurn 96 = .ok (.iaload, 1) := by decide +kernel
theorem dX9_addTurn_97 : decode cX9_addTurn 97 = .ok (.bipush 16, 2) := by decide +kernel
theorem dX9_addTurn_99 : decode cX9_addTurn 99 = .ok (.if_icmp .eq 9, 3) := by decide +kernel
theorem dX9_addTurn_102 : decode cX9_addTurn 102 = .ok (.aload_n 0, 1) := by decide +kernel
theorem dX9_addTurn_103 : decode cX9_addTurn 103 = .ok (.iconst 2, 1) := by decide +kernel
theorem dX9_addTurn_104 : decode cX9_addTurn 104 = .ok (.invokevirtual 123, 3) := by decide +kernel
theorem dX9_addTurn_107 : decode cX9_addTurn 107 = .ok (.ireturn, 1) := by decide +kernel
theorem dX9_addTurn_108 : decode cX9_addTurn 108 = .ok (.aload_n 0, 1) := by decide +kernel
theorem dX9_addTurn_109 : decode cX9_addTurn 109 = .ok (.getfield 22, 3) := by decide +kernel
theorem dX9_addTurn_112 : decode cX9_addTurn 112 = .ok (.iload_n 1, 1) := by decide +kernel
theorem dX9_addTurn_113 : decode cX9_addTurn 113 = .ok (.iaload, 1) := by decide +kernel
theorem dX9_addTurn_114 : decode cX9_addTurn 114 = .ok (.bipush 6, 2) := by decide +kernel
theorem dX9_addTurn_116 : decode cX9_addTurn 116 = .ok (.if_icmp .ne 9, 3) := by decide +kernel
theorem dX9_addTurn_119 : decode cX9_addTurn 119 = .ok (.aload_n 0, 1) := by decide +kernel
theorem dX9_addTurn_120 : decode cX9_addTurn 120 = .ok (.iconst 3, 1) := by decide +kernel
theorem dX9_addTurn_121 : decode cX9_addTurn 121 = .ok (.invokevirtual 123, 3) := by decide +kernel
theorem dX9_addTurn_124 : decode cX9_addTurn 124 = .ok (.ireturn, 1) := by decide +kernel
theorem dX9_addTurn_125 : decode cX9_addTurn 125 = .ok (.bipush 6, 2) := by decide +kernel
theorem dX9_addTurn_127 : decode cX9_addTurn 127 = .ok (.newarray .int, 2) := by decide +kernel
theorem dX9_addTurn_129 : decode cX9_addTurn 129 = .ok (.dup, 1) := by decide +kernel
theorem dX9_addTurn_130 : decode cX9_addTurn 130 = .ok (.iconst 0, 1) := by decide +kernel
theorem dX9_addTurn_131 : decode cX9_addTurn 131 = .ok (.iload_n 2, 1) := by decide +kernel
theorem dX9_addTurn_132 : decode cX9_addTurn 132 = .ok (.iastore, 1) := by decide +kernel
theorem dX9_addTurn_133 : decode cX9_addTurn 133 = .ok (.dup, 1) := by decide +kernel
theorem dX9_addTurn_134 : decode cX9_addTurn 134 = .ok (.iconst 1, 1) := by decide +kernel
theorem dX9_addTurn_135 : decode cX9_addTurn 135 = .ok (.iload_n 3, 1) := by decide +kernel
theorem dX9_addTurn_136 : decode cX9_addTurn 136 = .ok (.iastore, 1) := by decide +kernel
theorem dX9_addTurn_137 : decode cX9_addTurn 137 = .ok (.dup, 1) := by decide +kernel
theorem dX9_addTurn_138 : decode cX9_addTurn 138 = .ok (.iconst 2, 1) := by decide +kernel
theorem dX9_addTurn_139 : decode cX9_addTurn 139 = .ok (.iload 4, 2) := by decide +kernel
theorem dX9_addTurn_141 : decode cX9_addTurn 141 = .ok (.iastore, 1) := by decide +kernel
theorem dX9_addTurn_142 : decode cX9_addTurn 142 = .ok (.dup, 1) := by decide +kernel
theorem dX9_addTurn_143 : decode cX9_addTurn 143 = .ok (.iconst 3, 1) := by decide +kernel
theorem dX9_addTurn_144 : decode cX9_addTurn 144 = .ok (.iload 5, 2) := by decide +kernel
theorem dX9_addTurn_146 : decode cX9_addTurn 146 = .ok (.iastore, 1) := by decide +kernel
theorem dX9_addTurn_147 : decode cX9_addTurn 147 = .ok (.dup, 1) := by decide +kernel
theorem dX9_addTurn_148 : decode cX9_addTurn 148 = .ok (.iconst 4, 1) := by decide +kernel
theorem dX9_addTurn_149 : decode cX9_addTurn 149 = .ok (.iload 6, 2) := by decide +kernel
theorem dX9_addTurn_151 : decode cX9_addTurn 151 = .ok (.iastore, 1) := by decide +kernel
theorem dX9_addTurn_152 : decode cX9_addTurn 152 = .ok (.dup, 1) := by decide +kernel
theorem dX9_addTurn_153 : decode cX9_addTurn 153 = .ok (.iconst 5, 1) := by decide +kernel
theorem dX9_addTurn_154 : decode cX9_addTurn 154 = .ok (.iload 7, 2) := by decide +kernel
theorem dX9_addTurn_156 : decode cX9_addTurn 156 = .ok (.iastore, 1) := by decide +kernel
theorem dX9_addTurn_157 : decode cX9_addTurn 157 = .ok (.astore 8, 2) := by decide +kernel
theorem dX9_addTurn_159 : decode cX9_addTurn 159 = .ok (.aload 8, 2) := by decide +kernel
theorem dX9_addTurn_161 : decode cX9_addTurn 161 = .ok (.iconst 0, 1) := by decide +kernel
theorem dX9_addTurn_162 : decode cX9_addTurn 162 = .ok (.aload_n 0, 1) := by decide +kernel
theorem dX9_addTurn_163 : decode cX9_addTurn 163 = .ok (.getfield 25, 3) := by decide +kernel
theorem dX9_addTurn_166 : decode cX9_addTurn 166 = .ok (.bipush 6, 2) := by decide +kernel
theorem dX9_addTurn_168 : decode cX9_addTurn 168 = .ok (.iload_n 1, 1) := by decide +kernel
theorem dX9_addTurn_169 : decode cX9_addTurn 169 = .ok (.imul, 1) := by decide +kernel
theorem dX9_addTurn_170 : decode cX9_addTurn 170 = .ok (.aload_n 0, 1) := by decide +kernel
theorem dX9_addTurn_171 : decode cX9_addTurn 171 = .ok (.getfield 22, 3) := by decide +kernel
theorem dX9_addTurn_174 : decode cX9_addTurn 174 = .ok (.iload_n 1, 1) := by decide +kernel
theorem dX9_addTurn_175 : decode cX9_addTurn 175 = .ok (.iaload, 1) := by decide +kernel
theorem dX9_addTurn_176 : decode cX9_addTurn 176 = .ok (.iadd, 1) := by decide +kernel
theorem dX9_addTurn_177 : decode cX9_addTurn 177 = .ok (.bipush 6, 2) := by decide +kernel
theorem dX9_addTurn_179 : decode cX9_addTurn 179 = .ok (.imul, 1) := by decide +kernel
theorem dX9_addTurn_180 : decode cX9_addTurn 180 = .ok (.bipush 6, 2) := by decide +kernel
theorem dX9_addTurn_182 : decode cX9_addTurn 182 = .ok (.invokestatic 164, 3) := by decide +kernel
theorem dX9_addTurn_185 : decode cX9_addTurn 185 = .ok (.aload_n 0, 1) := by decide +kernel
theorem dX9_addTurn_186 : decode cX9_addTurn 186 = .ok (.getfield 22, 3) := by decide +kernel
theorem dX9_addTurn_189 : decode cX9_addTurn 189 = .ok (.iload_n 1, 1) := by decide +kernel
theorem dX9_addTurn_190 : decode cX9_addTurn 190 = .ok (.dup2, 1) := by decide +kernel
theorem dX9_addTurn_191 : decode cX9_addTurn 191 = .ok (.iaload, 1) := by decide +kernel
theorem dX9_addTurn_192 : decode cX9_addTurn 192 = .ok (.iconst 1, 1) := by decide +kernel
theorem dX9_addTurn_193 : decode cX9_addTurn 193 = .ok (.iadd, 1) := by decide +kernel
theorem dX9_addTurn_194 : decode cX9_addTurn 194 = .ok (.iastore, 1) := by decide +kernel
theorem dX9_addTurn_195 : decode cX9_addTurn 195 = .ok (.aload_n 0, 1) := by decide +kernel
theorem dX9_addTurn_196 : decode cX9_addTurn 196 = .ok (.getfield 28, 3) := by decide +kernel
theorem dX9_addTurn_199 : decode cX9_addTurn 199 = .ok (.iload_n 1, 1) := by decide +kernel
theorem dX9_addTurn_200 : decode cX9_addTurn 200 = .ok (.iconst (-1), 1) := by decide +kernel
theorem dX9_addTurn_201 : decode cX9_addTurn 201 = .ok (.iastore, 1) := by decide +kernel
theorem dX9_addTurn_202 : decode cX9_addTurn 202 = .ok (.aload_n 0, 1) := by decide +kernel
theorem dX9_addTurn_203 : decode cX9_addTurn 203 = .ok (.getfield 22, 3) := by decide +kernel
theorem dX9_addTurn_206 : decode cX9_addTurn 206 = .ok (.iload_n 1, 1) := by decide +kernel
theorem dX9_addTurn_207 : decode cX9_addTurn 207 = .ok (.iaload, 1) := by decide +kernel
theorem dX9_addTurn_208 : decode cX9_addTurn 208 = .ok (.iconst 1, 1) := by decide +kernel
theorem dX9_addTurn_209 : decode cX9_addTurn 209 = .ok (.isub, 1) := by decide +kernel
theorem dX9_addTurn_210 : decode cX9_addTurn 210 = .ok (.ireturn, 1) := by decide +kernel
theorem dX9_ofTurn_0 : decode cX9_ofTurn 0 = .ok (.aload_n 0, 1) := by decide +kernel
theorem dX9_ofTurn_1 : decode cX9_ofTurn 1 = .ok (.getfield 25, 3) := by decide +kernel
theorem dX9_ofTurn_4 : decode cX9_ofTurn 4 = .ok (.bipush 6, 2) := by decide +kernel
theorem dX9_ofTurn_6 : decode cX9_ofTurn 6 = .ok (.iload_n 1, 1) := by decide +kernel
theorem dX9_ofTurn_7 : decode cX9_ofTurn 7 = .ok (.imul, 1) := by decide +kernel
theorem dX9_ofTurn_8 : decode cX9_ofTurn 8 = .ok (.iload_n 2, 1) := by decide +kernel
theorem dX9_ofTurn_9 : decode cX9_ofTurn 9 = .ok (.iadd, 1) := by decide +kernel
theorem dX9_ofTurn_10 : decode cX9_ofTurn 10 = .ok (.bipush 6, 2) := by decide +kernel
theorem dX9_ofTurn_12 : decode cX9_ofTurn 12 = .ok (.imul, 1) := by decide +kernel
theorem dX9_ofTurn_13 : decode cX9_ofTurn 13 = .ok (.iload_n 3, 1) := by decide +kernel
theorem dX9_ofTurn_14 : decode cX9_ofTurn 14 = .ok (.iadd, 1) := by decide +kernel
theorem dX9_ofTurn_15 : decode cX9_ofTurn 15 = .ok (.iaload, 1) := by decide +kernel
theorem dX9_ofTurn_16 : decode cX9_ofTurn 16 = .ok (.ireturn, 1) := by decide +kernel
theorem dX9_dayOfTurn_0 : decode cX9_dayOfTurn 0 = .ok (.aload_n 0, 1) := by decide +kernel
theorem dX9_dayOfTurn_1 : decode cX9_dayOfTurn 1 = .ok (.iload_n 1, 1) := by decide +kernel
theorem dX9_dayOfTurn_2 : decode cX9_dayOfTurn 2 = .ok (.iload_n 2, 1) := by decide +kernel
theorem dX9_dayOfTurn_3 : decode cX9_dayOfTurn 3 = .ok (.iconst 2, 1) := by decide +kernel
theorem dX9_dayOfTurn_4 : decode cX9_dayOfTurn 4 = .ok (.invokevirtual 170, 3) := by decide +kernel
theorem dX9_dayOfTurn_7 : decode cX9_dayOfTurn 7 = .ok (.istore 4, 2) := by decide +kernel
theorem dX9_dayOfTurn_9 : decode cX9_dayOfTurn 9 = .ok (.aload_n 0, 1) := by decide +kernel
theorem dX9_dayOfTurn_10 : decode cX9_dayOfTurn 10 = .ok (.getfield 13, 3) := by decide +kernel
theorem dX9_dayOfTurn_13 : decode cX9_dayOfTurn 13 = .ok (.iload 4, 2) := by decide +kernel
theorem dX9_dayOfTurn_15 : decode cX9_dayOfTurn 15 = .ok (.iaload, 1) := by decide +kernel
theorem dX9_dayOfTurn_16 : decode cX9_dayOfTurn 16 = .ok (.bipush 16, 2) := by decide +kernel
theorem dX9_dayOfTurn_18 : decode cX9_dayOfTurn 18 = .ok (.if_icmp .eq 18, 3) := by decide +kernel
theorem dX9_dayOfTurn_21 : decode cX9_dayOfTurn 21 = .ok (.aload_n 0, 1) := by decide +kernel
theorem dX9_dayOfTurn_22 : decode cX9_dayOfTurn 22 = .ok (.iload 4, 2) := by decide +kernel
theorem dX9_dayOfTurn_24 : decode cX9_dayOfTurn 24 = .ok (.iload_n 3, 1) := by decide +kernel
theorem dX9_dayOfTurn_25 : decode cX9_dayOfTurn 25 = .ok (.aload_n 0, 1) := by decide +kernel
theorem dX9_dayOfTurn_26 : decode cX9_dayOfTurn 26 = .ok (.getfield 9, 3) := by decide +kernel
theorem dX9_dayOfTurn_29 : decode cX9_dayOfTurn 29 = .ok (.iload 4, 2) := by decide +kernel
theorem dX9_dayOfTurn_31 : decode cX9_dayOfTurn 31 = .ok (.iaload, 1) := by decide +kernel
theorem dX9_dayOfTurn_32 : decode cX9_dayOfTurn 32 = .ok (.invokevirtual 145, 3) := by decide +kernel
theorem dX9_dayOfTurn_35 : decode cX9_dayOfTurn 35 = .ok (.ireturn, 1) := by decide +kernel
theorem dX9_dayOfTurn_36 : decode cX9_dayOfTurn 36 = .ok (.iload_n 3, 1) := by decide +kernel
theorem dX9_dayOfTurn_37 : decode cX9_dayOfTurn 37 = .ok (.invokestatic 135, 3) := by decide +kernel
theorem dX9_dayOfTurn_40 : decode cX9_dayOfTurn 40 = .ok (.aload_n 0, 1) := by decide +kernel
theorem dX9_dayOfTurn_41 : decode cX9_dayOfTurn 41 = .ok (.getfield 16, 3) := by decide +kernel
theorem dX9_dayOfTurn_44 : decode cX9_dayOfTurn 44 = .ok (.iload 4, 2) := by decide +kernel
theorem dX9_dayOfTurn_46 : decode cX9_dayOfTurn 46 = .ok (.iaload, 1) := by decide +kernel
theorem dX9_dayOfTurn_47 : decode cX9_dayOfTurn 47 = .ok (.iadd, 1) := by decide +kernel
theorem dX9_dayOfTurn_48 : decode cX9_dayOfTurn 48 = .ok (.bipush 100, 2) := by decide +kernel
theorem dX9_dayOfTurn_50 : decode cX9_dayOfTurn 50 = .ok (.isub, 1) := by decide +kernel
theorem dX9_dayOfTurn_51 : decode cX9_dayOfTurn 51 = .ok (.istore 5, 2) := by decide +kernel
theorem dX9_dayOfTurn_53 : decode cX9_dayOfTurn 53 = .ok (.iload 5, 2) := by decide +kernel
theorem dX9_dayOfTurn_55 : decode cX9_dayOfTurn 55 = .ok (.invokestatic 126, 3) := by decide +kernel
theorem dX9_dayOfTurn_58 : decode cX9_dayOfTurn 58 = .ok (.ifCond .eq 17, 3) := by decide +kernel
theorem dX9_dayOfTurn_61 : decode cX9_dayOfTurn 61 = .ok (.iload 5, 2) := by decide +kernel
theorem dX9_dayOfTurn_63 : decode cX9_dayOfTurn 63 = .ok (.invokestatic 109, 3) := by decide +kernel
theorem dX9_dayOfTurn_66 : decode cX9_dayOfTurn 66 = .ok (.iload_n 3, 1) := by decide +kernel
theorem dX9_dayOfTurn_67 : decode cX9_dayOfTurn 67 = .ok (.if_icmp .ne 8, 3) := by decide +kernel
theorem dX9_dayOfTurn_70 : decode cX9_dayOfTurn 70 = .ok (.iload 5, 2) := by decide +kernel
theorem dX9_dayOfTurn_72 : decode cX9_dayOfTurn 72 = .ok (.goto 4, 3) := by decide +kernel
theorem dX9_dayOfTurn_75 : decode cX9_dayOfTurn 75 = .ok (.iconst (-1), 1) := by decide +kernel
theorem dX9_dayOfTurn_76 : decode cX9_dayOfTurn 76 = .ok (.ireturn, 1) := by decide +kernel
theorem dX9_lay_0 : decode cX9_lay 0 = .ok (.aload_n 0, 1) := by decide +kernel
theorem dX9_lay_1 : decode cX9_lay 1 = .ok (.getfield 28, 3) := by decide +kernel
theorem dX9_lay_4 : decode cX9_lay 4 = .ok (.iload_n 1, 1) := by decide +kernel
theorem dX9_lay_5 : decode cX9_lay 5 = .ok (.iaload, 1) := by decide +kernel
theorem dX9_lay_6 : decode cX9_lay 6 = .ok (.iconst (-1), 1) := by decide +kernel
theorem dX9_lay_7 : decode cX9_lay 7 = .ok (.if_icmp .eq 4, 3) := by decide +kernel
theorem dX9_lay_10 : decode cX9_lay 10 = .ok (.return_, 1) := by decide +kernel
theorem dX9_lay_11 : decode cX9_lay 11 = .ok (.iconst 0, 1) := by decide +kernel
theorem dX9_lay_12 : decode cX9_lay 12 = .ok (.istore_n 2, 1) := by decide +kernel
theorem dX9_lay_13 : decode cX9_lay 13 = .ok (.iconst 0, 1) := by decide +kernel
theorem dX9_lay_14 : decode cX9_lay 14 = .ok (.istore_n 3, 1) := by decide +kernel
theorem dX9_lay_15 : decode cX9_lay 15 = .ok (.iload_n 3, 1) := by decide +kernel
theorem dX9_lay_16 : decode cX9_lay 16 = .ok (.aload_n 0, 1) := by decide +kernel
theorem dX9_lay_17 : decode cX9_lay 17 = .ok (.getfield 22, 3) := by decide +kernel
theorem dX9_lay_20 : decode cX9_lay 20 = .ok (.iload_n 1, 1) := by decide +kernel
theorem dX9_lay_21 : decode cX9_lay 21 = .ok (.iaload, 1) := by decide +kernel
theorem dX9_lay_22 : decode cX9_lay 22 = .ok (.if_icmp .ge 29, 3) := by decide +kernel
theorem dX9_lay_25 : decode cX9_lay 25 = .ok (.iload_n 2, 1) := by decide +kernel
theorem dX9_lay_26 : decode cX9_lay 26 = .ok (.aload_n 0, 1) := by decide +kernel
theorem dX9_lay_27 : decode cX9_lay 27 = .ok (.iload_n 1, 1) := by decide +kernel
theorem dX9_lay_28 : decode cX9_lay 28 = .ok (.iload_n 3, 1) := by decide +kernel
theorem dX9_lay_29 : decode cX9_lay 29 = .ok (.iconst 1, 1) := by decide +kernel
theorem dX9_lay_30 : decode cX9_lay 30 = .ok (.invokevirtual 170, 3) := by decide +kernel
theorem dX9_lay_33 : decode cX9_lay 33 = .ok (.aload_n 0, 1) := by decide +kernel
theorem dX9_lay_34 : decode cX9_lay 34 = .ok (.iload_n 1, 1) := by decide +kernel
theorem dX9_lay_35 : decode cX9_lay 35 = .ok (.iload_n 3, 1) := by decide +kernel
theorem dX9_lay_36 : decode cX9_lay 36 = .ok (.iconst 0, 1) := by decide +kernel
theorem dX9_lay_37 : decode cX9_lay 37 = .ok (.invokevirtual 170, 3) := by decide +kernel
theorem dX9_lay_40 : decode cX9_lay 40 = .ok (.isub, 1) := by decide +kernel
theorem dX9_lay_41 : decode cX9_lay 41 = .ok (.iconst 1, 1) := by decide +kernel
theorem dX9_lay_42 : decode cX9_lay 42 = .ok (.iadd, 1) := by decide +kernel
theorem dX9_lay_43 : decode cX9_lay 43 = .ok (.iadd, 1) := by decide +kernel
theorem dX9_lay_44 : decode cX9_lay 44 = .ok (.istore_n 2, 1) := by decide +kernel
theorem dX9_lay_45 : decode cX9_lay 45 = .ok (.iinc 3 1, 3) := by decide +kernel
theorem dX9_lay_48 : decode cX9_lay 48 = .ok (.goto (-33), 3) := by decide +kernel
theorem dX9_lay_51 : decode cX9_lay 51 = .ok (.iload_n 2, 1) := by decide +kernel
theorem dX9_lay_52 : decode cX9_lay 52 = .ok (.newarray .int, 2) := by decide +kernel
theorem dX9_lay_54 : decode cX9_lay 54 = .ok (.astore_n 3, 1) := by decide +kernel
theorem dX9_lay_55 : decode cX9_lay 55 = .ok (.iconst 0, 1) := by decide +kernel
theorem dX9_lay_56 : decode cX9_lay 56 = .ok (.istore 4, 2) := by decide +kernel
theorem dX9_lay_58 : decode cX9_lay 58 = .ok (.iconst 0, 1) := by decide +kernel
theorem dX9_lay_59 : decode cX9_lay 59 = .ok (.istore 5, 2) := by decide +kernel
theorem dX9_lay_61 : decode cX9_lay 61 = .ok (.iload 5, 2) := by decide +kernel
theorem dX9_lay_63 : decode cX9_lay 63 = .ok (.aload_n 0, 1) := by decide +kernel
theorem dX9_lay_64 : decode cX9_lay 64 = .ok (.getfield 22, 3) := by decide +kernel
theorem dX9_lay_67 : decode cX9_lay 67 = .ok (.iload_n 1, 1) := by decide +kernel
theorem dX9_lay_68 : decode cX9_lay 68 = .ok (.iaload, 1) := by decide +kernel
theorem dX9_lay_69 : decode cX9_lay 69 = .ok (.if_icmp .ge 86, 3) := by decide +kernel
theorem dX9_lay_72 : decode cX9_lay 72 = .ok (.aload_n 0, 1) := by decide +kernel
theorem dX9_lay_73 : decode cX9_lay 73 = .ok (.iload_n 1, 1) := by decide +kernel
theorem dX9_lay_74 : decode cX9_lay 74 = .ok (.iload 5, 2) := by decide +kernel
theorem dX9_lay_76 : decode cX9_lay 76 = .ok (.iconst 0, 1) := by decide +kernel
theorem dX9_lay_77 : decode cX9_lay 77 = .ok (.invokevirtual 170, 3) := by decide +kernel
theorem dX9_lay_80 : decode cX9_lay 80 = .ok (.istore 6, 2) := by decide +kernel
theorem dX9_lay_82 : decode cX9_lay 82 = .ok (.iload 6, 2) := by decide +kernel
theorem dX9_lay_84 : decode cX9_lay 84 = .ok (.aload_n 0, 1) := by decide +kernel
theorem dX9_lay_85 : decode cX9_lay 85 = .ok (.iload_n 1, 1) := by decide +kernel
theorem dX9_lay_86 : decode cX9_lay 86 = .ok (.iload 5, 2) := by decide +kernel
theorem dX9_lay_88 : decode cX9_lay 88 = .ok (.iconst 1, 1) := by decide +kernel
theorem dX9_lay_89 : decode cX9_lay 89 = .ok (.invokevirtual 170, 3) := by decide +kernel
theorem dX9_lay_92 : decode cX9_lay 92 = .ok (.if_icmp .gt 57, 3) := by decide +kernel
theorem dX9_lay_95 : decode cX9_lay 95 = .ok (.aload_n 0, 1) := by decide +kernel
theorem dX9_lay_96 : decode cX9_lay 96 = .ok (.iload_n 1, 1) := by decide +kernel
theorem dX9_lay_97 : decode cX9_lay 97 = .ok (.iload 5, 2) := by decide +kernel
theorem dX9_lay_99 : decode cX9_lay 99 = .ok (.iload 6, 2) := by decide +kernel
theorem dX9_lay_101 : decode cX9_lay 101 = .ok (.invokevirtual 173, 3) := by decide +kernel
theorem dX9_lay_104 : decode cX9_lay 104 = .ok (.istore 7, 2) := by decide +kernel
theorem dX9_lay_106 : decode cX9_lay 106 = .ok (.iload 7, 2) := by decide +kernel
theorem dX9_lay_108 : decode cX9_lay 108 = .ok (.iconst (-1), 1) := by decide +kernel
theorem dX9_lay_109 : decode cX9_lay 109 = .ok (.if_icmp .ne 6, 3) := by decide +kernel
theorem dX9_lay_112 : decode cX9_lay 112 = .ok (.goto 31, 3) := by decide +kernel
theorem dX9_lay_115 : decode cX9_lay 115 = .ok (.aload_n 3, 1) := by decide +kernel
theorem dX9_lay_116 : decode cX9_lay 116 = .ok (.iload 4, 2) := by decide +kernel
theorem dX9_lay_118 : decode cX9_lay 118 = .ok (.sipush 1440, 3) := by decide +kernel
theorem dX9_lay_121 : decode cX9_lay 121 = .ok (.iload 7, 2) := by decide +kernel
theorem dX9_lay_123 : decode cX9_lay 123 = .ok (.imul, 1) := by decide +kernel
theorem dX9_lay_124 : decode cX9_lay 124 = .ok (.aload_n 0, 1) := by decide +kernel
theorem dX9_lay_125 : decode cX9_lay 125 = .ok (.iload_n 1, 1) := by decide +kernel
theorem dX9_lay_126 : decode cX9_lay 126 = .ok (.iload 5, 2) := by decide +kernel
theorem dX9_lay_128 : decode cX9_lay 128 = .ok (.iconst 3, 1) := by decide +kernel
theorem dX9_lay_129 : decode cX9_lay 129 = .ok (.invokevirtual 170, 3) := by decide +kernel
theorem dX9_lay_132 : decode cX9_lay 132 = .ok (.iadd, 1) := by decide +kernel
theorem dX9_lay_133 : decode cX9_lay 133 = .ok (.bipush 8, 2) := by decide +kernel
theorem dX9_lay_135 : decode cX9_lay 135 = .ok (.imul, 1) := by decide +kernel
theorem dX9_lay_136 : decode cX9_lay 136 = .ok (.iload 5, 2) := by decide +kernel
theorem dX9_lay_138 : decode cX9_lay 138 = .ok (.iadd, 1) := by decide +kernel
theorem dX9_lay_139 : decode cX9_lay 139 = .ok (.iastore, 1) := by decide +kernel
theorem dX9_lay_140 : decode cX9_lay 140 = .ok (.iinc 4 1, 3) := by decide +kernel
theorem dX9_lay_143 : decode cX9_lay 143 = .ok (.iinc 6 1, 3) := by decide +kernel
theorem dX9_lay_146 : decode cX9_lay 146 = .ok (.goto (-64), 3) := by decide +kernel
theorem dX9_lay_149 : decode cX9_lay 149 = .ok (.iinc 5 1, 3) := by decide +kernel
theorem dX9_lay_152 : decode cX9_lay 152 = .ok (.goto (-91), 3) := by decide +kernel
theorem dX9_lay_155 : decode cX9_lay 155 = .ok (.aload_n 3, 1) := by decide +kernel
theorem dX9_lay_156 : decode cX9_lay 156 = .ok (.iconst 0, 1) := by decide +kernel
theorem dX9_lay_157 : decode cX9_lay 157 = .ok (.iload 4, 2) := by decide +kernel
theorem dX9_lay_159 : decode cX9_lay 159 = .ok (.invokestatic 176, 3) := by decide +kernel
theorem dX9_lay_162 : decode cX9_lay 162 = .ok (.aload_n 0, 1) := by decide +kernel
theorem dX9_lay_163 : decode cX9_lay 163 = .ok (.getfield 32, 3) := by decide +kernel
theorem dX9_lay_166 : decode cX9_lay 166 = .ok (.iload_n 1, 1) := by decide +kernel
theorem dX9_lay_167 : decode cX9_lay 167 = .ok (.iload 4, 2) := by decide +kernel
theorem dX9_lay_169 : decode cX9_lay 169 = .ok (.newarray .int, 2) := by decide +kernel
theorem dX9_lay_171 : decode cX9_lay 171 = .ok (.aastore, 1) := by decide +kernel
theorem dX9_lay_172 : decode cX9_lay 172 = .ok (.aload_n 0, 1) := by decide +kernel
theorem dX9_lay_173 : decode cX9_lay 173 = .ok (.getfield 36, 3) := by decide +kernel
theorem dX9_lay_176 : decode cX9_lay 176 = .ok (.iload_n 1, 1) := by decide +kernel
theorem dX9_lay_177 : decode cX9_lay 177 = .ok (.iload 4, 2) := by decide +kernel
theorem dX9_lay_179 : decode cX9_lay 179 = .ok (.newarray .int, 2) := by decide +kernel
theorem dX9_lay_181 : decode cX9_lay 181 = .ok (.aastore, 1) := by decide +kernel
theorem dX9_lay_182 : decode cX9_lay 182 = .ok (.iconst 0, 1) := by decide +kernel
theorem dX9_lay_183 : decode cX9_lay 183 = .ok (.istore 5, 2) := by decide +kernel
theorem dX9_lay_185 : decode cX9_lay 185 = .ok (.iload 5, 2) := by decide +kernel
theorem dX9_lay_187 : decode cX9_lay 187 = .ok (.iload 4, 2) := by decide +kernel
theorem dX9_lay_189 : decode cX9_lay 189 = .ok (.if_icmp .ge 132, 3) := by decide +kernel
theorem dX9_lay_192 : decode cX9_lay 192 = .ok (.aload_n 3, 1) := by decide +kernel
theorem dX9_lay_193 : decode cX9_lay 193 = .ok (.iload 5, 2) := by decide +kernel
theorem dX9_lay_195 : decode cX9_lay 195 = .ok (.iaload, 1) := by decide +kernel
theorem dX9_lay_196 : decode cX9_lay 196 = .ok (.bipush 8, 2) := by decide +kernel
theorem dX9_lay_198 : decode cX9_lay 198 = .ok (.irem, 1) := by decide +kernel
theorem dX9_lay_199 : decode cX9_lay 199 = .ok (.istore 6, 2) := by decide +kernel
theorem dX9_lay_201 : decode cX9_lay 201 = .ok (.aload_n 0, 1) := by decide +kernel
theorem dX9_lay_202 : decode cX9_lay 202 = .ok (.iload_n 1, 1) := by decide +kernel
theorem dX9_lay_203 : decode cX9_lay 203 = .ok (.iload 6, 2) := by decide +kernel
theorem dX9_lay_205 : decode cX9_lay 205 = .ok (.iconst 4, 1) := by decide +kernel
theorem dX9_lay_206 : decode cX9_lay 206 = .ok (.invokevirtual 170, 3) := by decide +kernel
theorem dX9_lay_209 : decode cX9_lay 209 = .ok (.istore 7, 2) := by decide +kernel
theorem dX9_lay_211 : decode cX9_lay 211 = .ok (.aload_n 3, 1) := by decide +kernel
theorem dX9_lay_212 : decode cX9_lay 212 = .ok (.iload 5, 2) := by decide +kernel
theorem dX9_lay_214 : decode cX9_lay 214 = .ok (.iaload, 1) := by decide +kernel
theorem dX9_lay_215 : decode cX9_lay 215 = .ok (.bipush 8, 2) := by decide +kernel
theorem dX9_lay_217 : decode cX9_lay 217 = .ok (.idiv, 1) := by decide +kernel
theorem dX9_lay_218 : decode cX9_lay 218 = .ok (.iload 7, 2) := by decide +kernel
theorem dX9_lay_220 : decode cX9_lay 220 = .ok (.iconst 2, 1) := by decide +kernel
theorem dX9_lay_221 : decode cX9_lay 221 = .ok (.if_icmp .ge 12, 3) := by decide +kernel
theorem dX9_lay_224 : decode cX9_lay 224 = .ok (.aload_n 0, 1) := by decide +kernel
theorem dX9_lay_225 : decode cX9_lay 225 = .ok (.getfield 19, 3) := by decide +kernel
theorem dX9_lay_228 : decode cX9_lay 228 = .ok (.iload_n 1, 1) := by decide +kernel
theorem dX9_lay_229 : decode cX9_lay 229 = .ok (.iaload, 1) := by decide +kernel
theorem dX9_lay_230 : decode cX9_lay 230 = .ok (.goto 4, 3) := by decide +kernel
theorem dX9_lay_233 : decode cX9_lay 233 = .ok (.iconst 0, 1) := by decide +kernel
theorem dX9_lay_234 : decode cX9_lay 234 = .ok (.isub, 1) := by decide +kernel
theorem dX9_lay_235 : decode cX9_lay 235 = .ok (.iload 7, 2) := by decide +kernel
theorem dX9_lay_237 : decode cX9_lay 237 = .ok (.ifCond .ne 22, 3) := by decide +kernel
theorem dX9_lay_240 : decode cX9_lay 240 = .ok (.iload 5, 2) := by decide +kernel
theorem dX9_lay_242 : decode cX9_lay 242 = .ok (.ifCond .le 17, 3) := by decide +kernel
theorem dX9_lay_245 : decode cX9_lay 245 = .ok (.aload_n 0, 1) := by decide +kernel
theorem dX9_lay_246 : decode cX9_lay 246 = .ok (.getfield 36, 3) := by decide +kernel
theorem dX9_lay_249 : decode cX9_lay 249 = .ok (.iload_n 1, 1) := by decide +kernel
theorem dX9_lay_250 : decode cX9_lay 250 = .ok (.aaload, 1) := by decide +kernel
theorem dX9_lay_251 : decode cX9_lay 251 = .ok (.iload 5, 2) := by decide +kernel
theorem dX9_lay_253 : decode cX9_lay 253 = .ok (.iconst 1, 1) := by decide +kernel
theorem dX9_lay_254 : decode cX9_lay 254 = .ok (.isub, 1) := by decide +kernel
theorem dX9_lay_255 : decode cX9_lay 255 = .ok (.iaload, 1) := by decide +kernel
theorem dX9_lay_256 : decode cX9_lay 256 = .ok (.goto 4, 3) := by decide +kernel
theorem dX9_lay_259 : decode cX9_lay 259 = .ok (.iconst 0, 1) := by decide +kernel
theorem dX9_lay_260 : decode cX9_lay 260 = .ok (.isub, 1) := by decide +kernel
theorem dX9_lay_261 : decode cX9_lay 261 = .ok (.istore 8, 2) := by decide +kernel
theorem dX9_lay_263 : decode cX9_lay 263 = .ok (.aload_n 0, 1) := by decide +kernel
theorem dX9_lay_264 : decode cX9_lay 264 = .ok (.getfield 32, 3) := by decide +kernel
theorem dX9_lay_267 : decode cX9_lay 267 = .ok (.iload_n 1, 1) := by decide +kernel
theorem dX9_lay_268 : decode cX9_lay 268 = .ok (.aaload, 1) := by decide +kernel
theorem dX9_lay_269 : decode cX9_lay 269 = .ok (.iload 5, 2) := by decide +kernel
theorem dX9_lay_271 : decode cX9_lay 271 = .ok (.iload 5, 2) := by decide +kernel
theorem dX9_lay_273 : decode cX9_lay 273 = .ok (.ifCond .le 22, 3) := by decide +kernel
theorem dX9_lay_276 : decode cX9_lay 276 = .ok (.iload 8, 2) := by decide +kernel
theorem dX9_lay_278 : decode cX9_lay 278 = .ok (.aload_n 0, 1) := by decide +kernel
theorem dX9_lay_279 : decode cX9_lay 279 = .ok (.getfield 32, 3) := by decide +kernel
theorem dX9_lay_282 : decode cX9_lay 282 = .ok (.iload_n 1, 1) := by decide +kernel
theorem dX9_lay_283 : decode cX9_lay 283 = .ok (.aaload, 1) := by decide +kernel
theorem dX9_lay_284 : decode cX9_lay 284 = .ok (.iload 5, 2) := by decide +kernel
theorem dX9_lay_286 : decode cX9_lay 286 = .ok (.iconst 1, 1) := by decide +kernel
theorem dX9_lay_287 : decode cX9_lay 287 = .ok (.isub, 1) := by decide +kernel
theorem dX9_lay_288 : decode cX9_lay 288 = .ok (.iaload, 1) := by decide +kernel
theorem dX9_lay_289 : decode cX9_lay 289 = .ok (.invokestatic 182, 3) := by decide +kernel
theorem dX9_lay_292 : decode cX9_lay 292 = .ok (.goto 5, 3) := by decide +kernel
theorem dX9_lay_295 : decode cX9_lay 295 = .ok (.iload 8, 2) := by decide +kernel
theorem dX9_lay_297 : decode cX9_lay 297 = .ok (.iastore, 1) := by decide +kernel
theorem dX9_lay_298 : decode cX9_lay 298 = .ok (.aload_n 0, 1) := by decide +kernel
theorem dX9_lay_299 : decode cX9_lay 299 = .ok (.getfield 36, 3) := by decide +kernel
theorem dX9_lay_302 : decode cX9_lay 302 = .ok (.iload_n 1, 1) := by decide +kernel
theorem dX9_lay_303 : decode cX9_lay 303 = .ok (.aaload, 1) := by decide +kernel
theorem dX9_lay_304 : decode cX9_lay 304 = .ok (.iload 5, 2) := by decide +kernel
theorem dX9_lay_306 : decode cX9_lay 306 = .ok (.aload_n 0, 1) := by decide +kernel
theorem dX9_lay_307 : decode cX9_lay 307 = .ok (.iload_n 1, 1) := by decide +kernel
theorem dX9_lay_308 : decode cX9_lay 308 = .ok (.iload 6, 2) := by decide +kernel
theorem dX9_lay_310 : decode cX9_lay 310 = .ok (.iconst 5, 1) := by decide +kernel
theorem dX9_lay_311 : decode cX9_lay 311 = .ok (.invokevirtual 170, 3) := by decide +kernel
theorem dX9_lay_314 : decode cX9_lay 314 = .ok (.iastore, 1) := by decide +kernel
theorem dX9_lay_315 : decode cX9_lay 315 = .ok (.iinc 5 1, 3) := by decide +kernel
theorem dX9_lay_318 : decode cX9_lay 318 = .ok (.goto (-133), 3) := by decide +kernel
theorem dX9_lay_321 : decode cX9_lay 321 = .ok (.aload_n 0, 1) := by decide +kernel
theorem dX9_lay_322 : decode cX9_lay 322 = .ok (.getfield 28, 3) := by decide +kernel
theorem dX9_lay_325 : decode cX9_lay 325 = .ok (.iload_n 1, 1) := by decide +kernel
theorem dX9_lay_326 : decode cX9_lay 326 = .ok (.iload 4, 2) := by decide +kernel
theorem dX9_lay_328 : decode cX9_lay 328 = .ok (.iastore, 1) := by decide +kernel
theorem dX9_lay_329 : decode cX9_lay 329 = .ok (.return_, 1) := by decide +kernel
theorem dX9_happened_0 : decode cX9_happened 0 = .ok (.aload_n 0, 1) := by decide +kernel
theorem dX9_happened_1 : decode cX9_happened 1 = .ok (.iload_n 1, 1) := by decide +kernel
theorem dX9_happened_2 : decode cX9_happened 2 = .ok (.invokevirtual 185, 3) := by decide +kernel
theorem dX9_happened_5 : decode cX9_happened 5 = .ok (.iconst 0, 1) := by decide +kernel
theorem dX9_happened_6 : decode cX9_happened 6 = .ok (.istore_n 3, 1) := by decide +kernel
theorem dX9_happened_7 : decode cX9_happened 7 = .ok (.aload_n 0, 1) := by decide +kernel
theorem dX9_happened_8 : decode cX9_happened 8 = .ok (.getfield 28, 3) := by decide +kernel
theorem dX9_happened_11 : decode cX9_happened 11 = .ok (.iload_n 1, 1) := by decide +kernel
theorem dX9_happened_12 : decode cX9_happened 12 = .ok (.iaload, 1) := by decide +kernel
theorem dX9_happened_13 : decode cX9_happened 13 = .ok (.istore 4, 2) := by decide +kernel
theorem dX9_happened_15 : decode cX9_happened 15 = .ok (.iload_n 3, 1) := by decide +kernel
theorem dX9_happened_16 : decode cX9_happened 16 = .ok (.iload 4, 2) := by decide +kernel
theorem dX9_happened_18 : decode cX9_happened 18 = .ok (.if_icmp .ge 39, 3) := by decide +kernel
theorem dX9_happened_21 : decode cX9_happened 21 = .ok (.iload_n 3, 1) := by decide +kernel
theorem dX9_happened_22 : decode cX9_happened 22 = .ok (.iload 4, 2) := by decide +kernel
theorem dX9_happened_24 : decode cX9_happened 24 = .ok (.iadd, 1) := by decide +kernel
theorem dX9_happened_25 : decode cX9_happened 25 = .ok (.iconst 2, 1) := by decide +kernel
theorem dX9_happened_26 : decode cX9_happened 26 = .ok (.idiv, 1) := by decide +kernel
theorem dX9_happened_27 : decode cX9_happened 27 = .ok (.istore 5, 2) := by decide +kernel
theorem dX9_happened_29 : decode cX9_happened 29 = .ok (.aload_n 0, 1) := by decide +kernel
theorem dX9_happened_30 : decode cX9_happened 30 = .ok (.getfield 32, 3) := by decide +kernel
theorem dX9_happened_33 : decode cX9_happened 33 = .ok (.iload_n 1, 1) := by decide +kernel
theorem dX9_happened_34 : decode cX9_happened 34 = .ok (.aaload, 1) := by decide +kernel
theorem dX9_happened_35 : decode cX9_happened 35 = .ok (.iload 5, 2) := by decide +kernel
theorem dX9_happened_37 : decode cX9_happened 37 = .ok (.iaload, 1) := by decide +kernel
theorem dX9_happened_38 : decode cX9_happened 38 = .ok (.iload_n 2, 1) := by decide +kernel
theorem dX9_happened_39 : decode cX9_happened 39 = .ok (.if_icmp .gt 11, 3) := by decide +kernel
theorem dX9_happened_42 : decode cX9_happened 42 = .ok (.iload 5, 2) := by decide +kernel
theorem dX9_happened_44 : decode cX9_happened 44 = .ok (.iconst 1, 1) := by decide +kernel
theorem dX9_happened_45 : decode cX9_happened 45 = .ok (.iadd, 1) := by decide +kernel
theorem dX9_happened_46 : decode cX9_happened 46 = .ok (.istore_n 3, 1) := by decide +kernel
theorem dX9_happened_47 : decode cX9_happened 47 = .ok (.goto 7, 3) := by decide +kernel
theorem dX9_happened_50 : decode cX9_happened 50 = .ok (.iload 5, 2) := by decide +kernel
theorem dX9_happened_52 : decode cX9_happened 52 = .ok (.istore 4, 2) := by decide +kernel
theorem dX9_happened_54 : decode cX9_happened 54 = .ok (.goto (-39), 3) := by decide +kernel
theorem dX9_happened_57 : decode cX9_happened 57 = .ok (.iload_n 3, 1) := by decide +kernel
theorem dX9_happened_58 : decode cX9_happened 58 = .ok (.ireturn, 1) := by decide +kernel
theorem dX9_savingBehind_0 : decode cX9_savingBehind 0 = .ok (.iload_n 2, 1) := by decide +kernel
theorem dX9_savingBehind_1 : decode cX9_savingBehind 1 = .ok (.ifCond .ne 7, 3) := by decide +kernel
theorem dX9_savingBehind_4 : decode cX9_savingBehind 4 = .ok (.iconst 0, 1) := by decide +kernel
theorem dX9_savingBehind_5 : decode cX9_savingBehind 5 = .ok (.goto 13, 3) := by decide +kernel
theorem dX9_savingBehind_8 : decode cX9_savingBehind 8 = .ok (.aload_n 0, 1) := by decide +kernel
theorem dX9_savingBehind_9 : decode cX9_savingBehind 9 = .ok (.getfield 36, 3) := by decide +kernel
theorem dX9_savingBehind_12 : decode cX9_savingBehind 12 = .ok (.iload_n 1, 1) := by decide +kernel
theorem dX9_savingBehind_13 : decode cX9_savingBehind 13 = .ok (.aaload, 1) := by decide +kernel
theorem dX9_savingBehind_14 : decode cX9_savingBehind 14 = .ok (.iload_n 2, 1) := by decide +kernel
theorem dX9_savingBehind_15 : decode cX9_savingBehind 15 = .ok (.iconst 1, 1) := by decide +kernel
theorem dX9_savingBehind_16 : decode cX9_savingBehind 16 = .ok (.isub, 1) := by decide +kernel
theorem dX9_savingBehind_17 : decode cX9_savingBehind 17 = .ok (.iaload, 1) := by decide +kernel
theorem dX9_savingBehind_18 : decode cX9_savingBehind 18 = .ok (.ireturn, 1) := by decide +kernel
theorem dX9_local_0 : decode cX9_local 0 = .ok (.iload_n 2, 1) := by decide +kernel
theorem dX9_local_1 : decode cX9_local 1 = .ok (.aload_n 0, 1) := by decide +kernel
theorem dX9_local_2 : decode cX9_local 2 = .ok (.getfield 19, 3) := by decide +kernel
theorem dX9_local_5 : decode cX9_local 5 = .ok (.iload_n 1, 1) := by decide +kernel
theorem dX9_local_6 : decode cX9_local 6 = .ok (.iaload, 1) := by decide +kernel
theorem dX9_local_7 : decode cX9_local 7 = .ok (.iadd, 1) := by decide +kernel
theorem dX9_local_8 : decode cX9_local 8 = .ok (.aload_n 0, 1) := by decide +kernel
theorem dX9_local_9 : decode cX9_local 9 = .ok (.iload_n 1, 1) := by decide +kernel
theorem dX9_local_10 : decode cX9_local 10 = .ok (.aload_n 0, 1) := by decide +kernel
theorem dX9_local_11 : decode cX9_local 11 = .ok (.iload_n 1, 1) := by decide +kernel
theorem dX9_local_12 : decode cX9_local 12 = .ok (.iload_n 2, 1) := by decide +kernel
theorem dX9_local_13 : decode cX9_local 13 = .ok (.invokevirtual 189, 3) := by decide +kernel
theorem dX9_local_16 : decode cX9_local 16 = .ok (.invokevirtual 192, 3) := by decide +kernel
theorem dX9_local_19 : decode cX9_local 19 = .ok (.iadd, 1) := by decide +kernel
theorem dX9_local_20 : decode cX9_local 20 = .ok (.ireturn, 1) := by decide +kernel
theorem dX9_savingAt_0 : decode cX9_savingAt 0 = .ok (.aload_n 0, 1) := by decide +kernel
theorem dX9_savingAt_1 : decode cX9_savingAt 1 = .ok (.iconst 0, 1) := by decide +kernel
theorem dX9_savingAt_2 : decode cX9_savingAt 2 = .ok (.putfield 87, 3) := by decide +kernel
theorem dX9_savingAt_5 : decode cX9_savingAt 5 = .ok (.aload_n 0, 1) := by decide +kernel
theorem dX9_savingAt_6 : decode cX9_savingAt 6 = .ok (.iload_n 1, 1) := by decide +kernel
theorem dX9_savingAt_7 : decode cX9_savingAt 7 = .ok (.invokevirtual 161, 3) := by decide +kernel
theorem dX9_savingAt_10 : decode cX9_savingAt 10 = .ok (.ifCond .eq 24, 3) := by decide +kernel
theorem dX9_savingAt_13 : decode cX9_savingAt 13 = .ok (.iload_n 2, 1) := by decide +kernel
theorem dX9_savingAt_14 : decode cX9_savingAt 14 = .ok (.invokestatic 195, 3) := by decide +kernel
theorem dX9_savingAt_17 : decode cX9_savingAt 17 = .ok (.ifCond .eq 17, 3) := by decide +kernel
theorem dX9_savingAt_20 : decode cX9_savingAt 20 = .ok (.aload_n 0, 1) := by decide +kernel
theorem dX9_savingAt_21 : decode cX9_savingAt 21 = .ok (.iload_n 1, 1) := by decide +kernel
theorem dX9_savingAt_22 : decode cX9_savingAt 22 = .ok (.aload_n 0, 1) := by decide +kernel
theorem dX9_savingAt_23 : decode cX9_savingAt 23 = .ok (.iload_n 1, 1) := by decide +kernel
theorem dX9_savingAt_24 : decode cX9_savingAt 24 = .ok (.iload_n 2, 1) := by decide +kernel
theorem dX9_savingAt_25 : decode cX9_savingAt 25 = .ok (.invokevirtual 189, 3) := by decide +kernel
theorem dX9_savingAt_28 : decode cX9_savingAt 28 = .ok (.invokevirtual 192, 3) := by decide +kernel
theorem dX9_savingAt_31 : decode cX9_savingAt 31 = .ok (.goto 8, 3) := by decide +kernel
theorem dX9_savingAt_34 : decode cX9_savingAt 34 = .ok (.aload_n 0, 1) := by decide +kernel
theorem dX9_savingAt_35 : decode cX9_savingAt 35 = .ok (.iconst 1, 1) := by decide +kernel
theorem dX9_savingAt_36 : decode cX9_savingAt 36 = .ok (.invokevirtual 123, 3) := by decide +kernel
theorem dX9_savingAt_39 : decode cX9_savingAt 39 = .ok (.ireturn, 1) := by decide +kernel
theorem dX9_localAt_0 : decode cX9_localAt 0 = .ok (.aload_n 0, 1) := by decide +kernel
theorem dX9_localAt_1 : decode cX9_localAt 1 = .ok (.iconst 0, 1) := by decide +kernel
theorem dX9_localAt_2 : decode cX9_localAt 2 = .ok (.putfield 87, 3) := by decide +kernel
theorem dX9_localAt_5 : decode cX9_localAt 5 = .ok (.aload_n 0, 1) := by decide +kernel
theorem dX9_localAt_6 : decode cX9_localAt 6 = .ok (.iload_n 1, 1) := by decide +kernel
theorem dX9_localAt_7 : decode cX9_localAt 7 = .ok (.invokevirtual 161, 3) := by decide +kernel
theorem dX9_localAt_10 : decode cX9_localAt 10 = .ok (.ifCond .eq 19, 3) := by decide +kernel
theorem dX9_localAt_13 : decode cX9_localAt 13 = .ok (.iload_n 2, 1) := by decide +kernel
theorem dX9_localAt_14 : decode cX9_localAt 14 = .ok (.invokestatic 195, 3) := by decide +kernel
theorem dX9_localAt_17 : decode cX9_localAt 17 = .ok (.ifCond .eq 12, 3) := by decide +kernel
theorem dX9_localAt_20 : decode cX9_localAt 20 = .ok (.aload_n 0, 1) := by decide +kernel
theorem dX9_localAt_21 : decode cX9_localAt 21 = .ok (.iload_n 1, 1) := by decide +kernel
theorem dX9_localAt_22 : decode cX9_localAt 22 = .ok (.iload_n 2, 1) := by decide +kernel
theorem dX9_localAt_23 : decode cX9_localAt 23 = .ok (.invokevirtual 198, 3) := by decide +kernel
theorem dX9_localAt_26 : decode cX9_localAt 26 = .ok (.goto 8, 3) := by decide +kernel
theorem dX9_localAt_29 : decode cX9_localAt 29 = .ok (.aload_n 0, 1) := by decide +kernel
theorem dX9_localAt_30 : decode cX9_localAt 30 = .ok (.iconst 1, 1) := by decide +kernel
theorem dX9_localAt_31 : decode cX9_localAt 31 = .ok (.invokevirtual 123, 3) := by decide +kernel
theorem dX9_localAt_34 : decode cX9_localAt 34 = .ok (.ireturn, 1) := by decide +kernel
theorem dX9_changeBehind_0 : decode cX9_changeBehind 0 = .ok (.aload_n 0, 1) := by decide +kernel
theorem dX9_changeBehind_1 : decode cX9_changeBehind 1 = .ok (.iload_n 1, 1) := by decide +kernel
theorem dX9_changeBehind_2 : decode cX9_changeBehind 2 = .ok (.iload_n 2, 1) := by decide +kernel
theorem dX9_changeBehind_3 : decode cX9_changeBehind 3 = .ok (.invokevirtual 189, 3) := by decide +kernel
theorem dX9_changeBehind_6 : decode cX9_changeBehind 6 = .ok (.istore_n 3, 1) := by decide +kernel
theorem dX9_changeBehind_7 : decode cX9_changeBehind 7 = .ok (.iload_n 3, 1) := by decide +kernel
theorem dX9_changeBehind_8 : decode cX9_changeBehind 8 = .ok (.aload_n 0, 1) := by decide +kernel
theorem dX9_changeBehind_9 : decode cX9_changeBehind 9 = .ok (.getfield 28, 3) := by decide +kernel
theorem dX9_changeBehind_12 : decode cX9_changeBehind 12 = .ok (.iload_n 1, 1) := by decide +kernel
theorem dX9_changeBehind_13 : decode cX9_changeBehind 13 = .ok (.iaload, 1) := by decide +kernel
theorem dX9_changeBehind_14 : decode cX9_changeBehind 14 = .ok (.if_icmp .ge 56, 3) := by decide +kernel
theorem dX9_changeBehind_17 : decode cX9_changeBehind 17 = .ok (.aload_n 0, 1) := by decide +kernel
theorem dX9_changeBehind_18 : decode cX9_changeBehind 18 = .ok (.getfield 32, 3) := by decide +kernel
theorem dX9_changeBehind_21 : decode cX9_changeBehind 21 = .ok (.iload_n 1, 1) := by decide +kernel
theorem dX9_changeBehind_22 : decode cX9_changeBehind 22 = .ok (.aaload, 1) := by decide +kernel
theorem dX9_changeBehind_23 : decode cX9_changeBehind 23 = .ok (.iload_n 3, 1) := by decide +kernel
theorem dX9_changeBehind_24 : decode cX9_changeBehind 24 = .ok (.iaload, 1) := by decide +kernel
theorem dX9_changeBehind_25 : decode cX9_changeBehind 25 = .ok (.istore 4, 2) := by decide +kernel
theorem dX9_changeBehind_27 : decode cX9_changeBehind 27 = .ok (.iload 4, 2) := by decide +kernel
theorem dX9_changeBehind_29 : decode cX9_changeBehind 29 = .ok (.ldc 95, 2) := by decide +kernel
theorem dX9_changeBehind_31 : decode cX9_changeBehind 31 = .ok (.if_icmp .le 5, 3) := by decide +kernel
theorem dX9_changeBehind_34 : decode cX9_changeBehind 34 = .ok (.iconst (-1), 1) := by decide +kernel
theorem dX9_changeBehind_35 : decode cX9_changeBehind 35 = .ok (.ireturn, 1) := by decide +kernel
theorem dX9_changeBehind_36 : decode cX9_changeBehind 36 = .ok (.aload_n 0, 1) := by decide +kernel
theorem dX9_changeBehind_37 : decode cX9_changeBehind 37 = .ok (.iload_n 1, 1) := by decide +kernel
theorem dX9_changeBehind_38 : decode cX9_changeBehind 38 = .ok (.iload 4, 2) := by decide +kernel
theorem dX9_changeBehind_40 : decode cX9_changeBehind 40 = .ok (.invokevirtual 189, 3) := by decide +kernel
theorem dX9_changeBehind_43 : decode cX9_changeBehind 43 = .ok (.istore 5, 2) := by decide +kernel
theorem dX9_changeBehind_45 : decode cX9_changeBehind 45 = .ok (.aload_n 0, 1) := by decide +kernel
theorem dX9_changeBehind_46 : decode cX9_changeBehind 46 = .ok (.iload_n 1, 1) := by decide +kernel
theorem dX9_changeBehind_47 : decode cX9_changeBehind 47 = .ok (.iload 5, 2) := by decide +kernel
theorem dX9_changeBehind_49 : decode cX9_changeBehind 49 = .ok (.invokevirtual 192, 3) := by decide +kernel
theorem dX9_changeBehind_52 : decode cX9_changeBehind 52 = .ok (.aload_n 0, 1) := by decide +kernel
theorem dX9_changeBehind_53 : decode cX9_changeBehind 53 = .ok (.iload_n 1, 1) := by decide +kernel
theorem dX9_changeBehind_54 : decode cX9_changeBehind 54 = .ok (.iload_n 3, 1) := by decide +kernel
theorem dX9_changeBehind_55 : decode cX9_changeBehind 55 = .ok (.invokevirtual 192, 3) := by decide +kernel
theorem dX9_changeBehind_58 : decode cX9_changeBehind 58 = .ok (.if_icmp .eq 6, 3) := by decide +kernel
theorem dX9_changeBehind_61 : decode cX9_changeBehind 61 = .ok (.iload 4, 2) := by decide +kernel
theorem dX9_changeBehind_63 : decode cX9_changeBehind 63 = .ok (.ireturn, 1) := by decide +kernel
theorem dX9_changeBehind_64 : decode cX9_changeBehind 64 = .ok (.iload 5, 2) := by decide +kernel
theorem dX9_changeBehind_66 : decode cX9_changeBehind 66 = .ok (.istore_n 3, 1) := by decide +kernel
theorem dX9_changeBehind_67 : decode cX9_changeBehind 67 = .ok (.goto (-60), 3) := by decide +kernel
theorem dX9_changeBehind_70 : decode cX9_changeBehind 70 = .ok (.iconst (-1), 1) := by decide +kernel
theorem dX9_changeBehind_71 : decode cX9_changeBehind 71 = .ok (.ireturn, 1) := by decide +kernel
theorem dX9_nextChange_0 : decode cX9_nextChange 0 = .ok (.aload_n 0, 1) := by decide +kernel
theorem dX9_nextChange_1 : decode cX9_nextChange 1 = .ok (.iconst 0, 1) := by decide +kernel
theorem dX9_nextChange_2 : decode cX9_nextChange 2 = .ok (.putfield 87, 3) := by decide +kernel
theorem dX9_nextChange_5 : decode cX9_nextChange 5 = .ok (.aload_n 0, 1) := by decide +kernel
theorem dX9_nextChange_6 : decode cX9_nextChange 6 = .ok (.iload_n 1, 1) := by decide +kernel
theorem dX9_nextChange_7 : decode cX9_nextChange 7 = .ok (.invokevirtual 161, 3) := by decide +kernel
theorem dX9_nextChange_10 : decode cX9_nextChange 10 = .ok (.ifCond .eq 19, 3) := by decide +kernel
theorem dX9_nextChange_13 : decode cX9_nextChange 13 = .ok (.iload_n 2, 1) := by decide +kernel
theorem dX9_nextChange_14 : decode cX9_nextChange 14 = .ok (.invokestatic 195, 3) := by decide +kernel
theorem dX9_nextChange_17 : decode cX9_nextChange 17 = .ok (.ifCond .eq 12, 3) := by decide +kernel
theorem dX9_nextChange_20 : decode cX9_nextChange 20 = .ok (.aload_n 0, 1) := by decide +kernel
theorem dX9_nextChange_21 : decode cX9_nextChange 21 = .ok (.iload_n 1, 1) := by decide +kernel
theorem dX9_nextChange_22 : decode cX9_nextChange 22 = .ok (.iload_n 2, 1) := by decide +kernel
theorem dX9_nextChange_23 : decode cX9_nextChange 23 = .ok (.invokevirtual 201, 3) := by decide +kernel
theorem dX9_nextChange_26 : decode cX9_nextChange 26 = .ok (.goto 8, 3) := by decide +kernel
theorem dX9_nextChange_29 : decode cX9_nextChange 29 = .ok (.aload_n 0, 1) := by decide +kernel
theorem dX9_nextChange_30 : decode cX9_nextChange 30 = .ok (.iconst 1, 1) := by decide +kernel
theorem dX9_nextChange_31 : decode cX9_nextChange 31 = .ok (.invokevirtual 123, 3) := by decide +kernel
theorem dX9_nextChange_34 : decode cX9_nextChange 34 = .ok (.ireturn, 1) := by decide +kernel
theorem dX9_find_0 : decode cX9_find 0 = .ok (.aload_n 0, 1) := by decide +kernel
theorem dX9_find_1 : decode cX9_find 1 = .ok (.iload_n 1, 1) := by decide +kernel
theorem dX9_find_2 : decode cX9_find 2 = .ok (.invokevirtual 185, 3) := by decide +kernel
theorem dX9_find_5 : decode cX9_find 5 = .ok (.aload_n 0, 1) := by decide +kernel
theorem dX9_find_6 : decode cX9_find 6 = .ok (.iconst (-1), 1) := by decide +kernel
theorem dX9_find_7 : decode cX9_find 7 = .ok (.putfield 204, 3) := by decide +kernel
theorem dX9_find_10 : decode cX9_find 10 = .ok (.aload_n 0, 1) := by decide +kernel
theorem dX9_find_11 : decode cX9_find 11 = .ok (.iconst (-1), 1) := by decide +kernel
theorem dX9_find_12 : decode cX9_find 12 = .ok (.putfield 207, 3) := by decide +kernel
theorem dX9_find_15 : decode cX9_find 15 = .ok (.aload_n 0, 1) := by decide +kernel
theorem dX9_find_16 : decode cX9_find 16 = .ok (.iconst 0, 1) := by decide +kernel
theorem dX9_find_17 : decode cX9_find 17 = .ok (.putfield 210, 3) := by decide +kernel
theorem dX9_find_20 : decode cX9_find 20 = .ok (.aload_n 0, 1) := by decide +kernel
theorem dX9_find_21 : decode cX9_find 21 = .ok (.iconst (-1), 1) := by decide +kernel
theorem dX9_find_22 : decode cX9_find 22 = .ok (.putfield 213, 3) := by decide +kernel
theorem dX9_find_25 : decode cX9_find 25 = .ok (.iconst 0, 1) := by decide +kernel
theorem dX9_find_26 : decode cX9_find 26 = .ok (.istore 4, 2) := by decide +kernel
theorem dX9_find_28 : decode cX9_find 28 = .ok (.iload 4, 2) := by decide +kernel
theorem dX9_find_30 : decode cX9_find 30 = .ok (.aload_n 0, 1) := by decide +kernel
theorem dX9_find_31 : decode cX9_find 31 = .ok (.getfield 28, 3) := by decide +kernel
theorem dX9_find_34 : decode cX9_find 34 = .ok (.iload_n 1, 1) := by decide +kernel
theorem dX9_find_35 : decode cX9_find 35 = .ok (.iaload, 1) := by decide +kernel
theorem dX9_find_36 : decode cX9_find 36 = .ok (.if_icmp .gt 206, 3) := by decide +kernel
theorem dX9_find_39 : decode cX9_find 39 = .ok (.iload 4, 2) := by decide +kernel
theorem dX9_find_41 : decode cX9_find 41 = .ok (.ifCond .ne 7, 3) := by decide +kernel
theorem dX9_find_44 : decode cX9_find 44 = .ok (.lconst 0, 1) := by decide +kernel
theorem dX9_find_45 : decode cX9_find 45 = .ok (.goto 19, 3) := by decide +kernel
theorem dX9_find_48 : decode cX9_find 48 = .ok (.iconst 0, 1) := by decide +kernel
theorem dX9_find_49 : decode cX9_find 49 = .ok (.aload_n 0, 1) := by decide +kernel
theorem dX9_find_50 : decode cX9_find 50 = .ok (.getfield 32, 3) := by decide +kernel
theorem dX9_find_53 : decode cX9_find 53 = .ok (.iload_n 1, 1) := by decide +kernel
theorem dX9_find_54 : decode cX9_find 54 = .ok (.aaload, 1) := by decide +kernel
theorem dX9_find_55 : decode cX9_find 55 = .ok (.iload 4, 2) := by decide +kernel
theorem dX9_find_57 : decode cX9_find 57 = .ok (.iconst 1, 1) := by decide +kernel
theorem dX9_find_58 : decode cX9_find 58 = .ok (.isub, 1) := by decide +kernel
theorem dX9_find_59 : decode cX9_find 59 = .ok (.iaload, 1) := by decide +kernel
theorem dX9_find_60 : decode cX9_find 60 = .ok (.invokestatic 182, 3) := by decide +kernel
theorem dX9_find_63 : decode cX9_find 63 = .ok (.i2l, 1) := by decide +kernel
theorem dX9_find_64 : decode cX9_find 64 = .ok (.lstore 5, 2) := by decide +kernel
theorem dX9_find_66 : decode cX9_find 66 = .ok (.iload 4, 2) := by decide +kernel
theorem dX9_find_68 : decode cX9_find 68 = .ok (.aload_n 0, 1) := by decide +kernel
theorem dX9_find_69 : decode cX9_find 69 = .ok (.getfield 28, 3) := by decide +kernel
theorem dX9_find_72 : decode cX9_find 72 = .ok (.iload_n 1, 1) := by decide +kernel
theorem dX9_find_73 : decode cX9_find 73 = .ok (.iaload, 1) := by decide +kernel
theorem dX9_find_74 : decode cX9_find 74 = .ok (.if_icmp .ne 9, 3) := by decide +kernel
theorem dX9_find_77 : decode cX9_find 77 = .ok (.ldc2_w 216, 3) := by decide +kernel
theorem dX9_find_80 : decode cX9_find 80 = .ok (.goto 21, 3) := by decide +kernel
theorem dX9_find_83 : decode cX9_find 83 = .ok (.ldc2_w 216, 3) := by decide +kernel
theorem dX9_find_86 : decode cX9_find 86 = .ok (.aload_n 0, 1) := by decide +kernel
theorem dX9_find_87 : decode cX9_find 87 = .ok (.getfield 32, 3) := by decide +kernel
theorem dX9_find_90 : decode cX9_find 90 = .ok (.iload_n 1, 1) := by decide +kernel
theorem dX9_find_91 : decode cX9_find 91 = .ok (.aaload, 1) := by decide +kernel
theorem dX9_find_92 : decode cX9_find 92 = .ok (.iload 4, 2) := by decide +kernel
theorem dX9_find_94 : decode cX9_find 94 = .ok (.iaload, 1) := by decide +kernel
theorem dX9_find_95 : decode cX9_find 95 = .ok (.i2l, 1) := by decide +kernel
theorem dX9_find_96 : decode cX9_find 96 = .ok (.lconst 1, 1) := by decide +kernel
theorem dX9_find_97 : decode cX9_find 97 = .ok (.lsub, 1) := by decide +kernel
theorem dX9_find_98 : decode cX9_find 98 = .ok (.invokestatic 218, 3) := by decide +kernel
theorem dX9_find_101 : decode cX9_find 101 = .ok (.lstore 7, 2) := by decide +kernel
theorem dX9_find_103 : decode cX9_find 103 = .ok (.lload 5, 2) := by decide +kernel
theorem dX9_find_105 : decode cX9_find 105 = .ok (.lload 7, 2) := by decide +kernel
theorem dX9_find_107 : decode cX9_find 107 = .ok (.lcmp, 1) := by decide +kernel
theorem dX9_find_108 : decode cX9_find 108 = .ok (.ifCond .le 6, 3) := by decide +kernel
theorem dX9_find_111 : decode cX9_find 111 = .ok (.goto 125, 3) := by decide +kernel
theorem dX9_find_114 : decode cX9_find 114 = .ok (.aload_n 0, 1) := by decide +kernel
theorem dX9_find_115 : decode cX9_find 115 = .ok (.getfield 19, 3) := by decide +kernel
theorem dX9_find_118 : decode cX9_find 118 = .ok (.iload_n 1, 1) := by decide +kernel
theorem dX9_find_119 : decode cX9_find 119 = .ok (.iaload, 1) := by decide +kernel
theorem dX9_find_120 : decode cX9_find 120 = .ok (.aload_n 0, 1) := by decide +kernel
theorem dX9_find_121 : decode cX9_find 121 = .ok (.iload_n 1, 1) := by decide +kernel
theorem dX9_find_122 : decode cX9_find 122 = .ok (.iload 4, 2) := by decide +kernel
theorem dX9_find_124 : decode cX9_find 124 = .ok (.invokevirtual 192, 3) := by decide +kernel
theorem dX9_find_127 : decode cX9_find 127 = .ok (.iadd, 1) := by decide +kernel
theorem dX9_find_128 : decode cX9_find 128 = .ok (.i2l, 1) := by decide +kernel
theorem dX9_find_129 : decode cX9_find 129 = .ok (.lstore 9, 2) := by decide +kernel
theorem dX9_find_131 : decode cX9_find 131 = .ok (.lload 5, 2) := by decide +kernel
theorem dX9_find_133 : decode cX9_find 133 = .ok (.lconst 0, 1) := by decide +kernel
theorem dX9_find_134 : decode cX9_find 134 = .ok (.lcmp, 1) := by decide +kernel
theorem dX9_find_135 : decode cX9_find 135 = .ok (.ifCond .le 44, 3) := by decide +kernel
theorem dX9_find_138 : decode cX9_find 138 = .ok (.aload_n 0, 1) := by decide +kernel
theorem dX9_find_139 : decode cX9_find 139 = .ok (.getfield 213, 3) := by decide +kernel
theorem dX9_find_142 : decode cX9_find 142 = .ok (.iconst (-1), 1) := by decide +kernel
theorem dX9_find_143 : decode cX9_find 143 = .ok (.if_icmp .ne 36, 3) := by decide +kernel
theorem dX9_find_146 : decode cX9_find 146 = .ok (.lload 5, 2) := by decide +kernel
theorem dX9_find_148 : decode cX9_find 148 = .ok (.lload 9, 2) := by decide +kernel
theorem dX9_find_150 : decode cX9_find 150 = .ok (.ladd, 1) := by decide +kernel
theorem dX9_find_151 : decode cX9_find 151 = .ok (.lload_n 2, 1) := by decide +kernel
theorem dX9_find_152 : decode cX9_find 152 = .ok (.lcmp, 1) := by decide +kernel
theorem dX9_find_153 : decode cX9_find 153 = .ok (.ifCond .le 26, 3) := by decide +kernel
theorem dX9_find_156 : decode cX9_find 156 = .ok (.aload_n 0, 1) := by decide +kernel
theorem dX9_find_157 : decode cX9_find 157 = .ok (.iload_n 1, 1) := by decide +kernel
theorem dX9_find_158 : decode cX9_find 158 = .ok (.lload 5, 2) := by decide +kernel
theorem dX9_find_160 : decode cX9_find 160 = .ok (.l2i, 1) := by decide +kernel
theorem dX9_find_161 : decode cX9_find 161 = .ok (.iconst 1, 1) := by decide +kernel
theorem dX9_find_162 : decode cX9_find 162 = .ok (.isub, 1) := by decide +kernel
theorem dX9_find_163 : decode cX9_find 163 = .ok (.invokevirtual 198, 3) := by decide +kernel
theorem dX9_find_166 : decode cX9_find 166 = .ok (.i2l, 1) := by decide +kernel
theorem dX9_find_167 : decode cX9_find 167 = .ok (.lload_n 2, 1) := by decide +kernel
theorem dX9_find_168 : decode cX9_find 168 = .ok (.lcmp, 1) := by decide +kernel
theorem dX9_find_169 : decode cX9_find 169 = .ok (.ifCond .ge 10, 3) := by decide +kernel
theorem dX9_find_172 : decode cX9_find 172 = .ok (.aload_n 0, 1) := by decide +kernel
theorem dX9_find_173 : decode cX9_find 173 = .ok (.lload 5, 2) := by decide +kernel
theorem dX9_find_175 : decode cX9_find 175 = .ok (.l2i, 1) := by decide +kernel
theorem dX9_find_176 : decode cX9_find 176 = .ok (.putfield 213, 3) := by decide +kernel
theorem dX9_find_179 : decode cX9_find 179 = .ok (.lload_n 2, 1) := by decide +kernel
theorem dX9_find_180 : decode cX9_find 180 = .ok (.lload 9, 2) := by decide +kernel
theorem dX9_find_182 : decode cX9_find 182 = .ok (.lsub, 1) := by decide +kernel
theorem dX9_find_183 : decode cX9_find 183 = .ok (.lstore 11, 2) := by decide +kernel
theorem dX9_find_185 : decode cX9_find 185 = .ok (.lload 11, 2) := by decide +kernel
theorem dX9_find_187 : decode cX9_find 187 = .ok (.lload 5, 2) := by decide +kernel
theorem dX9_find_189 : decode cX9_find 189 = .ok (.lcmp, 1) := by decide +kernel
theorem dX9_find_190 : decode cX9_find 190 = .ok (.ifCond .lt 46, 3) := by decide +kernel
theorem dX9_find_193 : decode cX9_find 193 = .ok (.lload 11, 2) := by decide +kernel
theorem dX9_find_195 : decode cX9_find 195 = .ok (.lload 7, 2) := by decide +kernel
theorem dX9_find_197 : decode cX9_find 197 = .ok (.lcmp, 1) := by decide +kernel
theorem dX9_find_198 : decode cX9_find 198 = .ok (.ifCond .le 6, 3) := by decide +kernel
theorem dX9_find_201 : decode cX9_find 201 = .ok (.goto 35, 3) := by decide +kernel
theorem dX9_find_204 : decode cX9_find 204 = .ok (.aload_n 0, 1) := by decide +kernel
theorem dX9_find_205 : decode cX9_find 205 = .ok (.getfield 204, 3) := by decide +kernel
theorem dX9_find_208 : decode cX9_find 208 = .ok (.iconst (-1), 1) := by decide +kernel
theorem dX9_find_209 : decode cX9_find 209 = .ok (.if_icmp .ne 10, 3) := by decide +kernel
theorem dX9_find_212 : decode cX9_find 212 = .ok (.aload_n 0, 1) := by decide +kernel
theorem dX9_find_213 : decode cX9_find 213 = .ok (.lload 11, 2) := by decide +kernel
theorem dX9_find_215 : decode cX9_find 215 = .ok (.l2i, 1) := by decide +kernel
theorem dX9_find_216 : decode cX9_find 216 = .ok (.putfield 204, 3) := by decide +kernel
theorem dX9_find_219 : decode cX9_find 219 = .ok (.aload_n 0, 1) := by decide +kernel
theorem dX9_find_220 : decode cX9_find 220 = .ok (.lload 11, 2) := by decide +kernel
theorem dX9_find_222 : decode cX9_find 222 = .ok (.l2i, 1) := by decide +kernel
theorem dX9_find_223 : decode cX9_find 223 = .ok (.putfield 207, 3) := by decide +kernel
theorem dX9_find_226 : decode cX9_find 226 = .ok (.aload_n 0, 1) := by decide +kernel
theorem dX9_find_227 : decode cX9_find 227 = .ok (.dup, 1) := by decide +kernel
theorem dX9_find_228 : decode cX9_find 228 = .ok (.getfield 210, 3) := by decide +kernel
theorem dX9_find_231 : decode cX9_find 231 = .ok (.iconst 1, 1) := by decide +kernel
theorem dX9_find_232 : decode cX9_find 232 = .ok (.iadd, 1) := by decide +kernel
theorem dX9_find_233 : decode cX9_find 233 = .ok (.putfield 210, 3) := by decide +kernel
theorem dX9_find_236 : decode cX9_find 236 = .ok (.iinc 4 1, 3) := by decide +kernel
theorem dX9_find_239 : decode cX9_find 239 = .ok (.goto (-211), 3) := by decide +kernel
theorem dX9_find_242 : decode cX9_find 242 = .ok (.return_, 1) := by decide +kernel
theorem dX9_showsOften_0 : decode cX9_showsOften 0 = .ok (.aload_n 0, 1) := by decide +kernel
theorem dX9_showsOften_1 : decode cX9_showsOften 1 = .ok (.iconst 0, 1) := by decide +kernel
theorem dX9_showsOften_2 : decode cX9_showsOften 2 = .ok (.putfield 87, 3) := by decide +kernel
theorem dX9_showsOften_5 : decode cX9_showsOften 5 = .ok (.aload_n 0, 1) := by decide +kernel
theorem dX9_showsOften_6 : decode cX9_showsOften 6 = .ok (.iload_n 1, 1) := by decide +kernel
theorem dX9_showsOften_7 : decode cX9_showsOften 7 = .ok (.invokevirtual 161, 3) := by decide +kernel
theorem dX9_showsOften_10 : decode cX9_showsOften 10 = .ok (.ifCond .ne 9, 3) := by decide +kernel
theorem dX9_showsOften_13 : decode cX9_showsOften 13 = .ok (.aload_n 0, 1) := by decide +kernel
theorem dX9_showsOften_14 : decode cX9_showsOften 14 = .ok (.iconst 1, 1) := by decide +kernel
theorem dX9_showsOften_15 : decode cX9_showsOften 15 = .ok (.invokevirtual 123, 3) := by decide +kernel
theorem dX9_showsOften_18 : decode cX9_showsOften 18 = .ok (.ireturn, 1) := by decide +kernel
theorem dX9_showsOften_19 : decode cX9_showsOften 19 = .ok (.aload_n 0, 1) := by decide +kernel
theorem dX9_showsOften_20 : decode cX9_showsOften 20 = .ok (.iload_n 1, 1) := by decide +kernel
theorem dX9_showsOften_21 : decode cX9_showsOften 21 = .ok (.iload_n 2, 1) := by decide +kernel
theorem dX9_showsOften_22 : decode cX9_showsOften 22 = .ok (.i2l, 1) := by decide +kernel
theorem dX9_showsOften_23 : decode cX9_showsOften 23 = .ok (.invokevirtual 221, 3) := by decide +kernel
theorem dX9_showsOften_26 : decode cX9_showsOften 26 = .ok (.aload_n 0, 1) := by decide +kernel
theorem dX9_showsOften_27 : decode cX9_showsOften 27 = .ok (.getfield 210, 3) := by decide +kernel
theorem dX9_showsOften_30 : decode cX9_showsOften 30 = .ok (.ireturn, 1) := by decide +kernel
theorem dX9_momentFor_0 : decode cX9_momentFor 0 = .ok (.aload_n 0, 1) := by decide +kernel
theorem dX9_momentFor_1 : decode cX9_momentFor 1 = .ok (.iload_n 1, 1) := by decide +kernel
theorem dX9_momentFor_2 : decode cX9_momentFor 2 = .ok (.iload_n 2, 1) := by decide +kernel
theorem dX9_momentFor_3 : decode cX9_momentFor 3 = .ok (.i2l, 1) := by decide +kernel
theorem dX9_momentFor_4 : decode cX9_momentFor 4 = .ok (.invokevirtual 221, 3) := by decide +kernel
theorem dX9_momentFor_7 : decode cX9_momentFor 7 = .ok (.aload_n 0, 1) := by decide +kernel
theorem dX9_momentFor_8 : decode cX9_momentFor 8 = .ok (.getfield 204, 3) := by decide +kernel
theorem dX9_momentFor_11 : decode cX9_momentFor 11 = .ok (.iconst (-1), 1) := by decide +kernel
theorem dX9_momentFor_12 : decode cX9_momentFor 12 = .ok (.if_icmp .eq 10, 3) := by decide +kernel
theorem dX9_momentFor_15 : decode cX9_momentFor 15 = .ok (.aload_n 0, 1) := by decide +kernel
theorem dX9_momentFor_16 : decode cX9_momentFor 16 = .ok (.getfield 204, 3) := by decide +kernel
theorem dX9_momentFor_19 : decode cX9_momentFor 19 = .ok (.goto 7, 3) := by decide +kernel
theorem dX9_momentFor_22 : decode cX9_momentFor 22 = .ok (.aload_n 0, 1) := by decide +kernel
theorem dX9_momentFor_23 : decode cX9_momentFor 23 = .ok (.getfield 213, 3) := by decide +kernel
theorem dX9_momentFor_26 : decode cX9_momentFor 26 = .ok (.ireturn, 1) := by decide +kernel
theorem dX9_momentOf_0 : decode cX9_momentOf 0 = .ok (.aload_n 0, 1) := by decide +kernel
theorem dX9_momentOf_1 : decode cX9_momentOf 1 = .ok (.iconst 0, 1) := by decide +kernel
theorem dX9_momentOf_2 : decode cX9_momentOf 2 = .ok (.putfield 87, 3) := by decide +kernel
theorem dX9_momentOf_5 : decode cX9_momentOf 5 = .ok (.aload_n 0, 1) := by decide +kernel
theorem dX9_momentOf_6 : decode cX9_momentOf 6 = .ok (.iload_n 1, 1) := by decide +kernel
theorem dX9_momentOf_7 : decode cX9_momentOf 7 = .ok (.invokevirtual 161, 3) := by decide +kernel
theorem dX9_momentOf_10 : decode cX9_momentOf 10 = .ok (.ifCond .eq 12, 3) := by decide +kernel
theorem dX9_momentOf_13 : decode cX9_momentOf 13 = .ok (.aload_n 0, 1) := by decide +kernel
theorem dX9_momentOf_14 : decode cX9_momentOf 14 = .ok (.iload_n 1, 1) := by decide +kernel
theorem dX9_momentOf_15 : decode cX9_momentOf 15 = .ok (.iload_n 2, 1) := by decide +kernel
theorem dX9_momentOf_16 : decode cX9_momentOf 16 = .ok (.invokevirtual 225, 3) := by decide +kernel
theorem dX9_momentOf_19 : decode cX9_momentOf 19 = .ok (.goto 8, 3) := by decide +kernel
theorem dX9_momentOf_22 : decode cX9_momentOf 22 = .ok (.aload_n 0, 1) := by decide +kernel
theorem dX9_momentOf_23 : decode cX9_momentOf 23 = .ok (.iconst 1, 1) := by decide +kernel
theorem dX9_momentOf_24 : decode cX9_momentOf 24 = .ok (.invokevirtual 123, 3) := by decide +kernel
theorem dX9_momentOf_27 : decode cX9_momentOf 27 = .ok (.ireturn, 1) := by decide +kernel
theorem dX9_lastMomentOf_0 : decode cX9_lastMomentOf 0 = .ok (.aload_n 0, 1) := by decide +kernel
theorem dX9_lastMomentOf_1 : decode cX9_lastMomentOf 1 = .ok (.iconst 0, 1) := by decide +kernel
theorem dX9_lastMomentOf_2 : decode cX9_lastMomentOf 2 = .ok (.putfield 87, 3) := by decide +kernel
theorem dX9_lastMomentOf_5 : decode cX9_lastMomentOf 5 = .ok (.aload_n 0, 1) := by decide +kernel
theorem dX9_lastMomentOf_6 : decode cX9_lastMomentOf 6 = .ok (.iload_n 1, 1) := by decide +kernel
theorem dX9_lastMomentOf_7 : decode cX9_lastMomentOf 7 = .ok (.invokevirtual 161, 3) := by decide +kernel
theorem dX9_lastMomentOf_10 : decode cX9_lastMomentOf 10 = .ok (.ifCond .ne 9, 3) := by decide +kernel
theorem dX9_lastMomentOf_13 : decode cX9_lastMomentOf 13 = .ok (.aload_n 0, 1) := by decide +kernel
theorem dX9_lastMomentOf_14 : decode cX9_lastMomentOf 14 = .ok (.iconst 1, 1) := by decide +kernel
theorem dX9_lastMomentOf_15 : decode cX9_lastMomentOf 15 = .ok (.invokevirtual 123, 3) := by decide +kernel
theorem dX9_lastMomentOf_18 : decode cX9_lastMomentOf 18 = .ok (.ireturn, 1) := by decide +kernel
theorem dX9_lastMomentOf_19 : decode cX9_lastMomentOf 19 = .ok (.aload_n 0, 1) := by decide +kernel
theorem dX9_lastMomentOf_20 : decode cX9_lastMomentOf 20 = .ok (.iload_n 1, 1) := by decide +kernel
theorem dX9_lastMomentOf_21 : decode cX9_lastMomentOf 21 = .ok (.iload_n 2, 1) := by decide +kernel
theorem dX9_lastMomentOf_22 : decode cX9_lastMomentOf 22 = .ok (.i2l, 1) := by decide +kernel
theorem dX9_lastMomentOf_23 : decode cX9_lastMomentOf 23 = .ok (.invokevirtual 221, 3) := by decide +kernel
theorem dX9_lastMomentOf_26 : decode cX9_lastMomentOf 26 = .ok (.aload_n 0, 1) := by decide +kernel
theorem dX9_lastMomentOf_27 : decode cX9_lastMomentOf 27 = .ok (.getfield 207, 3) := by decide +kernel
theorem dX9_lastMomentOf_30 : decode cX9_lastMomentOf 30 = .ok (.ireturn, 1) := by decide +kernel
theorem dX9_ahead_0 : decode cX9_ahead 0 = .ok (.aload_n 0, 1) := by decide +kernel
theorem dX9_ahead_1 : decode cX9_ahead 1 = .ok (.iconst 0, 1) := by decide +kernel
theorem dX9_ahead_2 : decode cX9_ahead 2 = .ok (.putfield 87, 3) := by decide +kernel
theorem dX9_ahead_5 : decode cX9_ahead 5 = .ok (.aload_n 0, 1) := by decide +kernel
theorem dX9_ahead_6 : decode cX9_ahead 6 = .ok (.iload_n 1, 1) := by decide +kernel
theorem dX9_ahead_7 : decode cX9_ahead 7 = .ok (.invokevirtual 161, 3) := by decide +kernel
theorem dX9_ahead_10 : decode cX9_ahead 10 = .ok (.ifCond .eq 34, 3) := by decide +kernel
theorem dX9_ahead_13 : decode cX9_ahead 13 = .ok (.aload_n 0, 1) := by decide +kernel
theorem dX9_ahead_14 : decode cX9_ahead 14 = .ok (.iload_n 2, 1) := by decide +kernel
theorem dX9_ahead_15 : decode cX9_ahead 15 = .ok (.invokevirtual 161, 3) := by decide +kernel
theorem dX9_ahead_18 : decode cX9_ahead 18 = .ok (.ifCond .eq 26, 3) := by decide +kernel
theorem dX9_ahead_21 : decode cX9_ahead 21 = .ok (.iload_n 3, 1) := by decide +kernel
theorem dX9_ahead_22 : decode cX9_ahead 22 = .ok (.invokestatic 195, 3) := by decide +kernel
theorem dX9_ahead_25 : decode cX9_ahead 25 = .ok (.ifCond .eq 19, 3) := by decide +kernel
theorem dX9_ahead_28 : decode cX9_ahead 28 = .ok (.aload_n 0, 1) := by decide +kernel
theorem dX9_ahead_29 : decode cX9_ahead 29 = .ok (.iload_n 1, 1) := by decide +kernel
theorem dX9_ahead_30 : decode cX9_ahead 30 = .ok (.iload_n 3, 1) := by decide +kernel
theorem dX9_ahead_31 : decode cX9_ahead 31 = .ok (.invokevirtual 198, 3) := by decide +kernel
theorem dX9_ahead_34 : decode cX9_ahead 34 = .ok (.aload_n 0, 1) := by decide +kernel
theorem dX9_ahead_35 : decode cX9_ahead 35 = .ok (.iload_n 2, 1) := by decide +kernel
theorem dX9_ahead_36 : decode cX9_ahead 36 = .ok (.iload_n 3, 1) := by decide +kernel
theorem dX9_ahead_37 : decode cX9_ahead 37 = .ok (.invokevirtual 198, 3) := by decide +kernel
theorem dX9_ahead_40 : decode cX9_ahead 40 = .ok (.isub, 1) := by decide +kernel
theorem dX9_ahead_41 : decode cX9_ahead 41 = .ok (.goto 8, 3) := by decide +kernel
theorem dX9_ahead_44 : decode cX9_ahead 44 = .ok (.aload_n 0, 1) := by decide +kernel
theorem dX9_ahead_45 : decode cX9_ahead 45 = .ok (.iconst 1, 1) := by decide +kernel
theorem dX9_ahead_46 : decode cX9_ahead 46 = .ok (.invokevirtual 123, 3) := by decide +kernel
theorem dX9_ahead_49 : decode cX9_ahead 49 = .ok (.ireturn, 1) := by decide +kernel
theorem dX9_isSeries_0 : decode cX9_isSeries 0 = .ok (.iload_n 1, 1) := by decide +kernel
theorem dX9_isSeries_1 : decode cX9_isSeries 1 = .ok (.iconst 0, 1) := by decide +kernel
theorem dX9_isSeries_2 : decode cX9_isSeries 2 = .ok (.aload_n 0, 1) := by decide +kernel
theorem dX9_isSeries_3 : decode cX9_isSeries 3 = .ok (.getfield 228, 3) := by decide +kernel
theorem dX9_isSeries_6 : decode cX9_isSeries 6 = .ok (.iconst 1, 1) := by decide +kernel
theorem dX9_isSeries_7 : decode cX9_isSeries 7 = .ok (.isub, 1) := by decide +kernel
theorem dX9_isSeries_8 : decode cX9_isSeries 8 = .ok (.invokestatic 91, 3) := by decide +kernel
theorem dX9_isSeries_11 : decode cX9_isSeries 11 = .ok (.ireturn, 1) := by decide +kernel
theorem dX9_of_0 : decode cX9_of 0 = .ok (.aload_n 0, 1) := by decide +kernel
theorem dX9_of_1 : decode cX9_of 1 = .ok (.getfield 39, 3) := by decide +kernel
theorem dX9_of_4 : decode cX9_of 4 = .ok (.bipush 11, 2) := by decide +kernel
theorem dX9_of_6 : decode cX9_of 6 = .ok (.iload_n 1, 1) := by decide +kernel
theorem dX9_of_7 : decode cX9_of 7 = .ok (.imul, 1) := by decide +kernel
theorem dX9_of_8 : decode cX9_of 8 = .ok (.iload_n 2, 1) := by decide +kernel
theorem dX9_of_9 : decode cX9_of 9 = .ok (.iadd, 1) := by decide +kernel
theorem dX9_of_10 : decode cX9_of 10 = .ok (.iaload, 1) := by decide +kernel
theorem dX9_of_11 : decode cX9_of 11 = .ok (.ireturn, 1) := by decide +kernel
theorem dX9_addSeries_0 : decode cX9_addSeries 0 = .ok (.aload_n 0, 1) := by decide +kernel
theorem dX9_addSeries_1 : decode cX9_addSeries 1 = .ok (.iconst 0, 1) := by decide +kernel
theorem dX9_addSeries_2 : decode cX9_addSeries 2 = .ok (.putfield 87, 3) := by decide +kernel
theorem dX9_addSeries_5 : decode cX9_addSeries 5 = .ok (.aload_n 0, 1) := by decide +kernel
theorem dX9_addSeries_6 : decode cX9_addSeries 6 = .ok (.iload_n 1, 1) := by decide +kernel
theorem dX9_addSeries_7 : decode cX9_addSeries 7 = .ok (.invokevirtual 161, 3) := by decide +kernel
theorem dX9_addSeries_10 : decode cX9_addSeries 10 = .ok (.ifCond .ne 9, 3) := by decide +kernel
theorem dX9_addSeries_13 : decode cX9_addSeries 13 = .ok (.aload_n 0, 1) := by decide +kernel
theorem dX9_addSeries_14 : decode cX9_addSeries 14 = .ok (.iconst 1, 1) := by decide +kernel
theorem dX9_addSeries_15 : decode cX9_addSeries 15 = .ok (.invokevirtual 123, 3) := by decide +kernel
theorem dX9_addSeries_18 : decode cX9_addSeries 18 = .ok (.ireturn, 1) := by decide +kernel
theorem dX9_addSeries_19 : decode cX9_addSeries 19 = .ok (.iload_n 2, 1) := by decide +kernel
theorem dX9_addSeries_20 : decode cX9_addSeries 20 = .ok (.invokestatic 195, 3) := by decide +kernel
theorem dX9_addSeries_23 : decode cX9_addSeries 23 = .ok (.ifCond .eq 34, 3) := by decide +kernel
theorem dX9_addSeries_26 : decode cX9_addSeries 26 = .ok (.iload_n 3, 1) := by decide +kernel
theorem dX9_addSeries_27 : decode cX9_addSeries 27 = .ok (.iconst 0, 1) := by decide +kernel
theorem dX9_addSeries_28 : decode cX9_addSeries 28 = .ok (.iconst 3, 1) := by decide +kernel
theorem dX9_addSeries_29 : decode cX9_addSeries 29 = .ok (.invokestatic 91, 3) := by decide +kernel
theorem dX9_addSeries_32 : decode cX9_addSeries 32 = .ok (.ifCond .eq 25, 3) := by decide +kernel
theorem dX9_addSeries_35 : decode cX9_addSeries 35 = .ok (.iload 4, 2) := by decide +kernel
theorem dX9_addSeries_37 : decode cX9_addSeries 37 = .ok (.iconst 1, 1) := by decide +kernel
theorem dX9_addSeries_38 : decode cX9_addSeries 38 = .ok (.bipush 60, 2) := by decide +kernel
theorem dX9_addSeries_40 : decode cX9_addSeries 40 = .ok (.invokestatic 91, 3) := by decide +kernel
theorem dX9_addSeries_43 : decode cX9_addSeries 43 = .ok (.ifCond .eq 14, 3) := by decide +kernel
theorem dX9_addSeries_46 : decode cX9_addSeries 46 = .ok (.iload 5, 2) := by decide +kernel
theorem dX9_addSeries_48 : decode cX9_addSeries 48 = .ok (.iconst 0, 1) := by decide +kernel
theorem dX9_addSeries_49 : decode cX9_addSeries 49 = .ok (.bipush 127, 2) := by decide +kernel
theorem dX9_addSeries_51 : decode cX9_addSeries 51 = .ok (.invokestatic 91, 3) := by decide +kernel
theorem dX9_addSeries_54 : decode cX9_addSeries 54 = .ok (.ifCond .ne 9, 3) := by decide +kernel
theorem dX9_addSeries_57 : decode cX9_addSeries 57 = .ok (.aload_n 0, 1) := by decide +kernel
theorem dX9_addSeries_58 : decode cX9_addSeries 58 = .ok (.iconst 2, 1) := by decide +kernel
theorem dX9_addSeries_59 : decode cX9_addSeries 59 = .ok (.invokevirtual 123, 3) := by decide +kernel
theorem dX9_addSeries_62 : decode cX9_addSeries 62 = .ok (.ireturn, 1) := by decide +kernel
theorem dX9_addSeries_63 : decode cX9_addSeries 63 = .ok (.aload_n 0, 1) := by decide +kernel
theorem dX9_addSeries_64 : decode cX9_addSeries 64 = .ok (.getfield 228, 3) := by decide +kernel
theorem dX9_addSeries_67 : decode cX9_addSeries 67 = .ok (.bipush 6, 2) := by decide +kernel
theorem dX9_addSeries_69 : decode cX9_addSeries 69 = .ok (.if_icmp .ne 9, 3) := by decide +kernel
theorem dX9_addSeries_72 : decode cX9_addSeries 72 = .ok (.aload_n 0, 1) := by decide +kernel
theorem dX9_addSeries_73 : decode cX9_addSeries 73 = .ok (.iconst 3, 1) := by decide +kernel
theorem dX9_addSeries_74 : decode cX9_addSeries 74 = .ok (.invokevirtual 123, 3) := by decide +kernel
theorem dX9_addSeries_77 : decode cX9_addSeries 77 = .ok (.ireturn, 1) := by decide +kernel
theorem dX9_addSeries_78 : decode cX9_addSeries 78 = .ok (.ldc 90, 2) := by decide +kernel
theorem dX9_addSeries_80 : decode cX9_addSeries 80 = .ok (.iload_n 2, 1) := by decide +kernel
theorem dX9_addSeries_81 : decode cX9_addSeries 81 = .ok (.sipush 1440, 3) := by decide +kernel
theorem dX9_addSeries_84 : decode cX9_addSeries 84 = .ok (.idiv, 1) := by decide +kernel
theorem dX9_addSeries_85 : decode cX9_addSeries 85 = .ok (.sipush 4000, 3) := by decide +kernel
theorem dX9_addSeries_88 : decode cX9_addSeries 88 = .ok (.iadd, 1) := by decide +kernel
theorem dX9_addSeries_89 : decode cX9_addSeries 89 = .ok (.invokestatic 104, 3) := by decide +kernel
theorem dX9_addSeries_92 : decode cX9_addSeries 92 = .ok (.istore 6, 2) := by decide +kernel
theorem dX9_addSeries_94 : decode cX9_addSeries 94 = .ok (.bipush 11, 2) := by decide +kernel
theorem dX9_addSeries_96 : decode cX9_addSeries 96 = .ok (.newarray .int, 2) := by decide +kernel
theorem dX9_addSeries_98 : decode cX9_addSeries 98 = .ok (.dup, 1) := by decide +kernel
theorem dX9_addSeries_99 : decode cX9_addSeries 99 = .ok (.iconst 0, 1) := by decide +kernel
theorem dX9_addSeries_100 : decode cX9_addSeries 100 = .ok (.iload_n 1, 1) := by decide +kernel
theorem dX9_addSeries_101 : decode cX9_addSeries 101 = .ok (.iastore, 1) := by decide +kernel
theorem dX9_addSeries_102 : decode cX9_addSeries 102 = .ok (.dup, 1) := by decide +kernel
theorem dX9_addSeries_103 : decode cX9_addSeries 103 = .ok (.iconst 1, 1) := by decide +kernel
theorem dX9_addSeries_104 : decode cX9_addSeries 104 = .ok (.iload_n 2, 1) := by decide +kernel
theorem dX9_addSeries_105 : decode cX9_addSeries 105 = .ok (.iastore, 1) := by decide +kernel
theorem dX9_addSeries_106 : decode cX9_addSeries 106 = .ok (.dup, 1) := by decide +kernel
theorem dX9_addSeries_107 : decode cX9_addSeries 107 = .ok (.iconst 2, 1) := by decide +kernel
theorem dX9_addSeries_108 : decode cX9_addSeries 108 = .ok (.iload_n 3, 1) := by decide +kernel
theorem dX9_addSeries_109 : decode cX9_addSeries 109 = .ok (.iastore, 1) := by decide +kernel
theorem dX9_addSeries_110 : decode cX9_addSeries 110 = .ok (.dup, 1) := by decide +kernel
theorem dX9_addSeries_111 : decode cX9_addSeries 111 = .ok (.iconst 3, 1) := by decide +kernel
theorem dX9_addSeries_112 : decode cX9_addSeries 112 = .ok (.iload 4, 2) := by decide +kernel
theorem dX9_addSeries_114 : decode cX9_addSeries 114 = .ok (.iastore, 1) := by decide +kernel
theorem dX9_addSeries_115 : decode cX9_addSeries 115 = .ok (.dup, 1) := by decide +kernel
theorem dX9_addSeries_116 : decode cX9_addSeries 116 = .ok (.iconst 4, 1) := by decide +kernel
theorem dX9_addSeries_117 : decode cX9_addSeries 117 = .ok (.iload 5, 2) := by decide +kernel
theorem dX9_addSeries_119 : decode cX9_addSeries 119 = .ok (.iastore, 1) := by decide +kernel
theorem dX9_addSeries_120 : decode cX9_addSeries 120 = .ok (.dup, 1) := by decide +kernel
theorem dX9_addSeries_121 : decode cX9_addSeries 121 = .ok (.iconst 5, 1) := by decide +kernel
theorem dX9_addSeries_122 : decode cX9_addSeries 122 = .ok (.iconst 0, 1) := by decide +kernel
theorem dX9_addSeries_123 : decode cX9_addSeries 123 = .ok (.iastore, 1) := by decide +kernel
theorem dX9_addSeries_124 : decode cX9_addSeries 124 = .ok (.dup, 1) := by decide +kernel
theorem dX9_addSeries_125 : decode cX9_addSeries 125 = .ok (.bipush 6, 2) := by decide +kernel
theorem dX9_addSeries_127 : decode cX9_addSeries 127 = .ok (.iconst 0, 1) := by decide +kernel
theorem dX9_addSeries_128 : decode cX9_addSeries 128 = .ok (.iastore, 1) := by decide +kernel
theorem dX9_addSeries_129 : decode cX9_addSeries 129 = .ok (.dup, 1) := by decide +kernel
theorem dX9_addSeries_130 : decode cX9_addSeries 130 = .ok (.bipush 7, 2) := by decide +kernel
theorem dX9_addSeries_132 : decode cX9_addSeries 132 = .ok (.iload 6, 2) := by decide +kernel
theorem dX9_addSeries_134 : decode cX9_addSeries 134 = .ok (.iastore, 1) := by decide +kernel
theorem dX9_addSeries_135 : decode cX9_addSeries 135 = .ok (.dup, 1) := by decide +kernel
theorem dX9_addSeries_136 : decode cX9_addSeries 136 = .ok (.bipush 8, 2) := by decide +kernel
theorem dX9_addSeries_138 : decode cX9_addSeries 138 = .ok (.iload 6, 2) := by decide +kernel
theorem dX9_addSeries_140 : decode cX9_addSeries 140 = .ok (.iastore, 1) := by decide +kernel
theorem dX9_addSeries_141 : decode cX9_addSeries 141 = .ok (.dup, 1) := by decide +kernel
theorem dX9_addSeries_142 : decode cX9_addSeries 142 = .ok (.bipush 9, 2) := by decide +kernel
theorem dX9_addSeries_144 : decode cX9_addSeries 144 = .ok (.iconst 0, 1) := by decide +kernel
theorem dX9_addSeries_145 : decode cX9_addSeries 145 = .ok (.iastore, 1) := by decide +kernel
theorem dX9_addSeries_146 : decode cX9_addSeries 146 = .ok (.dup, 1) := by decide +kernel
theorem dX9_addSeries_147 : decode cX9_addSeries 147 = .ok (.bipush 10, 2) := by decide +kernel
theorem dX9_addSeries_149 : decode cX9_addSeries 149 = .ok (.iconst 0, 1) := by decide +kernel
theorem dX9_addSeries_150 : decode cX9_addSeries 150 = .ok (.iastore, 1) := by decide +kernel
theorem dX9_addSeries_151 : decode cX9_addSeries 151 = .ok (.astore 7, 2) := by decide +kernel
theorem dX9_addSeries_153 : decode cX9_addSeries 153 = .ok (.aload 7, 2) := by decide +kernel
theorem dX9_addSeries_155 : decode cX9_addSeries 155 = .ok (.iconst 0, 1) := by decide +kernel
theorem dX9_addSeries_156 : decode cX9_addSeries 156 = .ok (.aload_n 0, 1) := by decide +kernel
theorem dX9_addSeries_157 : decode cX9_addSeries 157 = .ok (.getfield 39, 3) := by decide +kernel
theorem dX9_addSeries_160 : decode cX9_addSeries 160 = .ok (.bipush 11, 2) := by decide +kernel
theorem dX9_addSeries_162 : decode cX9_addSeries 162 = .ok (.aload_n 0, 1) := by decide +kernel
theorem dX9_addSeries_163 : decode cX9_addSeries 163 = .ok (.getfield 228, 3) := by decide +kernel
theorem dX9_addSeries_166 : decode cX9_addSeries 166 = .ok (.imul, 1) := by decide +kernel
theorem dX9_addSeries_167 : decode cX9_addSeries 167 = .ok (.bipush 11, 2) := by decide +kernel
theorem dX9_addSeries_169 : decode cX9_addSeries 169 = .ok (.invokestatic 164, 3) := by decide +kernel
theorem dX9_addSeries_172 : decode cX9_addSeries 172 = .ok (.aload_n 0, 1) := by decide +kernel
theorem dX9_addSeries_173 : decode cX9_addSeries 173 = .ok (.dup, 1) := by decide +kernel
theorem dX9_addSeries_174 : decode cX9_addSeries 174 = .ok (.getfield 228, 3) := by decide +kernel
theorem dX9_addSeries_177 : decode cX9_addSeries 177 = .ok (.iconst 1, 1) := by decide +kernel
theorem dX9_addSeries_178 : decode cX9_addSeries 178 = .ok (.iadd, 1) := by decide +kernel
theorem dX9_addSeries_179 : decode cX9_addSeries 179 = .ok (.putfield 228, 3) := by decide +kernel
theorem dX9_addSeries_182 : decode cX9_addSeries 182 = .ok (.aload_n 0, 1) := by decide +kernel
theorem dX9_addSeries_183 : decode cX9_addSeries 183 = .ok (.getfield 228, 3) := by decide +kernel
theorem dX9_addSeries_186 : decode cX9_addSeries 186 = .ok (.iconst 1, 1) := by decide +kernel
theorem dX9_addSeries_187 : decode cX9_addSeries 187 = .ok (.isub, 1) := by decide +kernel
theorem dX9_addSeries_188 : decode cX9_addSeries 188 = .ok (.ireturn, 1) := by decide +kernel
theorem dX9_usePattern_0 : decode cX9_usePattern 0 = .ok (.aload_n 0, 1) := by decide +kernel
theorem dX9_usePattern_1 : decode cX9_usePattern 1 = .ok (.iconst 0, 1) := by decide +kernel
theorem dX9_usePattern_2 : decode cX9_usePattern 2 = .ok (.putfield 87, 3) := by decide +kernel
theorem dX9_usePattern_5 : decode cX9_usePattern 5 = .ok (.aload_n 0, 1) := by decide +kernel
theorem dX9_usePattern_6 : decode cX9_usePattern 6 = .ok (.iload_n 1, 1) := by decide +kernel
theorem dX9_usePattern_7 : decode cX9_usePattern 7 = .ok (.invokevirtual 231, 3) := by decide +kernel
theorem dX9_usePattern_10 : decode cX9_usePattern 10 = .ok (.ifCond .eq 11, 3) := by decide +kernel
theorem dX9_usePattern_13 : decode cX9_usePattern 13 = .ok (.aload_n 0, 1) := by decide +kernel
theorem dX9_usePattern_14 : decode cX9_usePattern 14 = .ok (.iload_n 2, 1) := by decide +kernel
theorem dX9_usePattern_15 : decode cX9_usePattern 15 = .ok (.invokevirtual 148, 3) := by decide +kernel
theorem dX9_usePattern_18 : decode cX9_usePattern 18 = .ok (.ifCond .ne 9, 3) := by decide +kernel
theorem dX9_usePattern_21 : decode cX9_usePattern 21 = .ok (.aload_n 0, 1) := by decide +kernel
theorem dX9_usePattern_22 : decode cX9_usePattern 22 = .ok (.iconst 1, 1) := by decide +kernel
theorem dX9_usePattern_23 : decode cX9_usePattern 23 = .ok (.invokevirtual 123, 3) := by decide +kernel
theorem dX9_usePattern_26 : decode cX9_usePattern 26 = .ok (.ireturn, 1) := by decide +kernel
theorem dX9_usePattern_27 : decode cX9_usePattern 27 = .ok (.aload_n 0, 1) := by decide +kernel
theorem dX9_usePattern_28 : decode cX9_usePattern 28 = .ok (.iload_n 1, 1) := by decide +kernel
theorem dX9_usePattern_29 : decode cX9_usePattern 29 = .ok (.bipush 9, 2) := by decide +kernel
theorem dX9_usePattern_31 : decode cX9_usePattern 31 = .ok (.invokevirtual 234, 3) := by decide +kernel
theorem dX9_usePattern_34 : decode cX9_usePattern 34 = .ok (.iconst 4, 1) := by decide +kernel
theorem dX9_usePattern_35 : decode cX9_usePattern 35 = .ok (.if_icmp .ne 9, 3) := by decide +kernel
theorem dX9_usePattern_38 : decode cX9_usePattern 38 = .ok (.aload_n 0, 1) := by decide +kernel
theorem dX9_usePattern_39 : decode cX9_usePattern 39 = .ok (.iconst 2, 1) := by decide +kernel
theorem dX9_usePattern_40 : decode cX9_usePattern 40 = .ok (.invokevirtual 123, 3) := by decide +kernel
theorem dX9_usePattern_43 : decode cX9_usePattern 43 = .ok (.ireturn, 1) := by decide +kernel
theorem dX9_usePattern_44 : decode cX9_usePattern 44 = .ok (.aload_n 0, 1) := by decide +kernel
theorem dX9_usePattern_45 : decode cX9_usePattern 45 = .ok (.getfield 42, 3) := by decide +kernel
theorem dX9_usePattern_48 : decode cX9_usePattern 48 = .ok (.iconst 4, 1) := by decide +kernel
theorem dX9_usePattern_49 : decode cX9_usePattern 49 = .ok (.iload_n 1, 1) := by decide +kernel
theorem dX9_usePattern_50 : decode cX9_usePattern 50 = .ok (.imul, 1) := by decide +kernel
theorem dX9_usePattern_51 : decode cX9_usePattern 51 = .ok (.aload_n 0, 1) := by decide +kernel
theorem dX9_usePattern_52 : decode cX9_usePattern 52 = .ok (.iload_n 1, 1) := by decide +kernel
theorem dX9_usePattern_53 : decode cX9_usePattern 53 = .ok (.bipush 9, 2) := by decide +kernel
theorem dX9_usePattern_55 : decode cX9_usePattern 55 = .ok (.invokevirtual 234, 3) := by decide +kernel
theorem dX9_usePattern_58 : decode cX9_usePattern 58 = .ok (.iadd, 1) := by decide +kernel
theorem dX9_usePattern_59 : decode cX9_usePattern 59 = .ok (.iload_n 2, 1) := by decide +kernel
theorem dX9_usePattern_60 : decode cX9_usePattern 60 = .ok (.iastore, 1) := by decide +kernel
theorem dX9_usePattern_61 : decode cX9_usePattern 61 = .ok (.aload_n 0, 1) := by decide +kernel
theorem dX9_usePattern_62 : decode cX9_usePattern 62 = .ok (.getfield 39, 3) := by decide +kernel
theorem dX9_usePattern_65 : decode cX9_usePattern 65 = .ok (.bipush 11, 2) := by decide +kernel
theorem dX9_usePattern_67 : decode cX9_usePattern 67 = .ok (.iload_n 1, 1) := by decide +kernel
theorem dX9_usePattern_68 : decode cX9_usePattern 68 = .ok (.imul, 1) := by decide +kernel
theorem dX9_usePattern_69 : decode cX9_usePattern 69 = .ok (.bipush 9, 2) := by decide +kernel
theorem dX9_usePattern_71 : decode cX9_usePattern 71 = .ok (.iadd, 1) := by decide +kernel
theorem dX9_usePattern_72 : decode cX9_usePattern 72 = .ok (.dup2, 1) := by decide +kernel
theorem dX9_usePattern_73 : decode cX9_usePattern 73 = .ok (.iaload, 1) := by decide +kernel
theorem dX9_usePattern_74 : decode cX9_usePattern 74 = .ok (.iconst 1, 1) := by decide +kernel
theorem dX9_usePattern_75 : decode cX9_usePattern 75 = .ok (.iadd, 1) := by decide +kernel
theorem dX9_usePattern_76 : decode cX9_usePattern 76 = .ok (.iastore, 1) := by decide +kernel
theorem dX9_usePattern_77 : decode cX9_usePattern 77 = .ok (.aload_n 0, 1) := by decide +kernel
theorem dX9_usePattern_78 : decode cX9_usePattern 78 = .ok (.getfield 51, 3) := by decide +kernel
theorem dX9_usePattern_81 : decode cX9_usePattern 81 = .ok (.iload_n 1, 1) := by decide +kernel
theorem dX9_usePattern_82 : decode cX9_usePattern 82 = .ok (.aconst_null, 1) := by decide +kernel
theorem dX9_usePattern_83 : decode cX9_usePattern 83 = .ok (.aastore, 1) := by decide +kernel
theorem dX9_usePattern_84 : decode cX9_usePattern 84 = .ok (.aload_n 0, 1) := by decide +kernel
theorem dX9_usePattern_85 : decode cX9_usePattern 85 = .ok (.iload_n 1, 1) := by decide +kernel
theorem dX9_usePattern_86 : decode cX9_usePattern 86 = .ok (.bipush 9, 2) := by decide +kernel
theorem dX9_usePattern_88 : decode cX9_usePattern 88 = .ok (.invokevirtual 234, 3) := by decide +kernel
theorem dX9_usePattern_91 : decode cX9_usePattern 91 = .ok (.ireturn, 1) := by decide +kernel
theorem dX9_set_0 : decode cX9_set 0 = .ok (.aload_n 0, 1) := by decide +kernel
theorem dX9_set_1 : decode cX9_set 1 = .ok (.iconst 0, 1) := by decide +kernel
theorem dX9_set_2 : decode cX9_set 2 = .ok (.putfield 87, 3) := by decide +kernel
theorem dX9_set_5 : decode cX9_set 5 = .ok (.aload_n 0, 1) := by decide +kernel
theorem dX9_set_6 : decode cX9_set 6 = .ok (.iload_n 1, 1) := by decide +kernel
theorem dX9_set_7 : decode cX9_set 7 = .ok (.invokevirtual 231, 3) := by decide +kernel
theorem dX9_set_10 : decode cX9_set 10 = .ok (.ifCond .ne 9, 3) := by decide +kernel
theorem dX9_set_13 : decode cX9_set 13 = .ok (.aload_n 0, 1) := by decide +kernel
theorem dX9_set_14 : decode cX9_set 14 = .ok (.iconst 1, 1) := by decide +kernel
theorem dX9_set_15 : decode cX9_set 15 = .ok (.invokevirtual 123, 3) := by decide +kernel
theorem dX9_set_18 : decode cX9_set 18 = .ok (.ireturn, 1) := by decide +kernel
theorem dX9_set_19 : decode cX9_set 19 = .ok (.iload_n 3, 1) := by decide +kernel
theorem dX9_set_20 : decode cX9_set 20 = .ok (.iload 4, 2) := by decide +kernel
theorem dX9_set_22 : decode cX9_set 22 = .ok (.iload 5, 2) := by decide +kernel
theorem dX9_set_24 : decode cX9_set 24 = .ok (.invokestatic 91, 3) := by decide +kernel
theorem dX9_set_27 : decode cX9_set 27 = .ok (.ifCond .ne 9, 3) := by decide +kernel
theorem dX9_set_30 : decode cX9_set 30 = .ok (.aload_n 0, 1) := by decide +kernel
theorem dX9_set_31 : decode cX9_set 31 = .ok (.iconst 2, 1) := by decide +kernel
theorem dX9_set_32 : decode cX9_set 32 = .ok (.invokevirtual 123, 3) := by decide +kernel
theorem dX9_set_35 : decode cX9_set 35 = .ok (.ireturn, 1) := by decide +kernel
theorem dX9_set_36 : decode cX9_set 36 = .ok (.aload_n 0, 1) := by decide +kernel
theorem dX9_set_37 : decode cX9_set 37 = .ok (.iload_n 1, 1) := by decide +kernel
theorem dX9_set_38 : decode cX9_set 38 = .ok (.iload_n 2, 1) := by decide +kernel
theorem dX9_set_39 : decode cX9_set 39 = .ok (.invokevirtual 234, 3) := by decide +kernel
theorem dX9_set_42 : decode cX9_set 42 = .ok (.istore 6, 2) := by decide +kernel
theorem dX9_set_44 : decode cX9_set 44 = .ok (.aload_n 0, 1) := by decide +kernel
theorem dX9_set_45 : decode cX9_set 45 = .ok (.getfield 39, 3) := by decide +kernel
theorem dX9_set_48 : decode cX9_set 48 = .ok (.bipush 11, 2) := by decide +kernel
theorem dX9_set_50 : decode cX9_set 50 = .ok (.iload_n 1, 1) := by decide +kernel
theorem dX9_set_51 : decode cX9_set 51 = .ok (.imul, 1) := by decide +kernel
theorem dX9_set_52 : decode cX9_set 52 = .ok (.iload_n 2, 1) := by decide +kernel
theorem dX9_set_53 : decode cX9_set 53 = .ok (.iadd, 1) := by decide +kernel
theorem dX9_set_54 : decode cX9_set 54 = .ok (.iload_n 3, 1) := by decide +kernel
theorem dX9_set_55 : decode cX9_set 55 = .ok (.iastore, 1) := by decide +kernel
theorem dX9_set_56 : decode cX9_set 56 = .ok (.aload_n 0, 1) := by decide +kernel
theorem dX9_set_57 : decode cX9_set 57 = .ok (.getfield 51, 3) := by decide +kernel
theorem dX9_set_60 : decode cX9_set 60 = .ok (.iload_n 1, 1) := by decide +kernel
theorem dX9_set_61 : decode cX9_set 61 = .ok (.aconst_null, 1) := by decide +kernel
theorem dX9_set_62 : decode cX9_set 62 = .ok (.aastore, 1) := by decide +kernel
theorem dX9_set_63 : decode cX9_set 63 = .ok (.iload 6, 2) := by decide +kernel
theorem dX9_set_65 : decode cX9_set 65 = .ok (.ireturn, 1) := by decide +kernel
theorem dX9_setChoice_0 : decode cX9_setChoice 0 = .ok (.aload_n 0, 1) := by decide +kernel
theorem dX9_setChoice_1 : decode cX9_setChoice 1 = .ok (.iload_n 1, 1) := by decide +kernel
theorem dX9_setChoice_2 : decode cX9_setChoice 2 = .ok (.iconst 5, 1) := by decide +kernel
theorem dX9_setChoice_3 : decode cX9_setChoice 3 = .ok (.iload_n 2, 1) := by decide +kernel
theorem dX9_setChoice_4 : decode cX9_setChoice 4 = .ok (.bipush (-6), 2) := by decide +kernel
theorem dX9_setChoice_6 : decode cX9_setChoice 6 = .ok (.bipush 6, 2) := by decide +kernel
theorem dX9_setChoice_8 : decode cX9_setChoice 8 = .ok (.invokevirtual 237, 3) := by decide +kernel
theorem dX9_setChoice_11 : decode cX9_setChoice 11 = .ok (.ireturn, 1) := by decide +kernel
theorem dX9_setMost_0 : decode cX9_setMost 0 = .ok (.aload_n 0, 1) := by decide +kernel
theorem dX9_setMost_1 : decode cX9_setMost 1 = .ok (.iload_n 1, 1) := by decide +kernel
theorem dX9_setMost_2 : decode cX9_setMost 2 = .ok (.bipush 6, 2) := by decide +kernel
theorem dX9_setMost_4 : decode cX9_setMost 4 = .ok (.iload_n 2, 1) := by decide +kernel
theorem dX9_setMost_5 : decode cX9_setMost 5 = .ok (.iconst 0, 1) := by decide +kernel
theorem dX9_setMost_6 : decode cX9_setMost 6 = .ok (.sipush 500, 3) := by decide +kernel
theorem dX9_setMost_9 : decode cX9_setMost 9 = .ok (.invokevirtual 237, 3) := by decide +kernel
theorem dX9_setMost_12 : decode cX9_setMost 12 = .ok (.ireturn, 1) := by decide +kernel
theorem dX9_setLast_0 : decode cX9_setLast 0 = .ok (.aload_n 0, 1) := by decide +kernel
theorem dX9_setLast_1 : decode cX9_setLast 1 = .ok (.iload_n 1, 1) := by decide +kernel
theorem dX9_setLast_2 : decode cX9_setLast 2 = .ok (.invokevirtual 231, 3) := by decide +kernel
theorem dX9_setLast_5 : decode cX9_setLast 5 = .ok (.ifCond .eq 31, 3) := by decide +kernel
theorem dX9_setLast_8 : decode cX9_setLast 8 = .ok (.aload_n 0, 1) := by decide +kernel
theorem dX9_setLast_9 : decode cX9_setLast 9 = .ok (.iload_n 1, 1) := by decide +kernel
theorem dX9_setLast_10 : decode cX9_setLast 10 = .ok (.bipush 7, 2) := by decide +kernel
theorem dX9_setLast_12 : decode cX9_setLast 12 = .ok (.iload_n 2, 1) := by decide +kernel
theorem dX9_setLast_13 : decode cX9_setLast 13 = .ok (.aload_n 0, 1) := by decide +kernel
theorem dX9_setLast_14 : decode cX9_setLast 14 = .ok (.iload_n 1, 1) := by decide +kernel
theorem dX9_setLast_15 : decode cX9_setLast 15 = .ok (.iconst 1, 1) := by decide +kernel
theorem dX9_setLast_16 : decode cX9_setLast 16 = .ok (.invokevirtual 234, 3) := by decide +kernel
theorem dX9_setLast_19 : decode cX9_setLast 19 = .ok (.sipush 1440, 3) := by decide +kernel
theorem dX9_setLast_22 : decode cX9_setLast 22 = .ok (.idiv, 1) := by decide +kernel
theorem dX9_setLast_23 : decode cX9_setLast 23 = .ok (.aload_n 0, 1) := by decide +kernel
theorem dX9_setLast_24 : decode cX9_setLast 24 = .ok (.iload_n 1, 1) := by decide +kernel
theorem dX9_setLast_25 : decode cX9_setLast 25 = .ok (.bipush 8, 2) := by decide +kernel
theorem dX9_setLast_27 : decode cX9_setLast 27 = .ok (.invokevirtual 234, 3) := by decide +kernel
theorem dX9_setLast_30 : decode cX9_setLast 30 = .ok (.invokevirtual 237, 3) := by decide +kernel
theorem dX9_setLast_33 : decode cX9_setLast 33 = .ok (.goto 13, 3) := by decide +kernel
theorem dX9_setLast_36 : decode cX9_setLast 36 = .ok (.aload_n 0, 1) := by decide +kernel
theorem dX9_setLast_37 : decode cX9_setLast 37 = .ok (.iload_n 1, 1) := by decide +kernel
theorem dX9_setLast_38 : decode cX9_setLast 38 = .ok (.bipush 7, 2) := by decide +kernel
theorem dX9_setLast_40 : decode cX9_setLast 40 = .ok (.iload_n 2, 1) := by decide +kernel
theorem dX9_setLast_41 : decode cX9_setLast 41 = .ok (.iconst 0, 1) := by decide +kernel
theorem dX9_setLast_42 : decode cX9_setLast 42 = .ok (.iconst 0, 1) := by decide +kernel
theorem dX9_setLast_43 : decode cX9_setLast 43 = .ok (.invokevirtual 237, 3) := by decide +kernel
theorem dX9_setLast_46 : decode cX9_setLast 46 = .ok (.ireturn, 1) := by decide +kernel
theorem dX9_isOut_0 : decode cX9_isOut 0 = .ok (.iconst 0, 1) := by decide +kernel
theorem dX9_isOut_1 : decode cX9_isOut 1 = .ok (.istore_n 3, 1) := by decide +kernel
theorem dX9_isOut_2 : decode cX9_isOut 2 = .ok (.iconst 0, 1) := by decide +kernel
theorem dX9_isOut_3 : decode cX9_isOut 3 = .ok (.istore 4, 2) := by decide +kernel
theorem dX9_isOut_5 : decode cX9_isOut 5 = .ok (.iload 4, 2) := by decide +kernel
theorem dX9_isOut_7 : decode cX9_isOut 7 = .ok (.aload_n 0, 1) := by decide +kernel
theorem dX9_isOut_8 : decode cX9_isOut 8 = .ok (.iload_n 1, 1) := by decide +kernel
theorem dX9_isOut_9 : decode cX9_isOut 9 = .ok (.bipush 10, 2) := by decide +kernel
theorem dX9_isOut_11 : decode cX9_isOut 11 = .ok (.invokevirtual 234, 3) := by decide +kernel
theorem dX9_isOut_14 : decode cX9_isOut 14 = .ok (.if_icmp .ge 33, 3) := by decide +kernel
theorem dX9_isOut_17 : decode cX9_isOut 17 = .ok (.iload_n 3, 1) := by decide +kernel
theorem dX9_isOut_18 : decode cX9_isOut 18 = .ok (.aload_n 0, 1) := by decide +kernel
theorem dX9_isOut_19 : decode cX9_isOut 19 = .ok (.getfield 45, 3) := by decide +kernel
theorem dX9_isOut_22 : decode cX9_isOut 22 = .ok (.bipush 8, 2) := by decide +kernel
theorem dX9_isOut_24 : decode cX9_isOut 24 = .ok (.iload_n 1, 1) := by decide +kernel
theorem dX9_isOut_25 : decode cX9_isOut 25 = .ok (.imul, 1) := by decide +kernel
theorem dX9_isOut_26 : decode cX9_isOut 26 = .ok (.iload 4, 2) := by decide +kernel
theorem dX9_isOut_28 : decode cX9_isOut 28 = .ok (.iadd, 1) := by decide +kernel
theorem dX9_isOut_29 : decode cX9_isOut 29 = .ok (.iaload, 1) := by decide +kernel
theorem dX9_isOut_30 : decode cX9_isOut 30 = .ok (.iload_n 2, 1) := by decide +kernel
theorem dX9_isOut_31 : decode cX9_isOut 31 = .ok (.if_icmp .ne 7, 3) := by decide +kernel
theorem dX9_isOut_34 : decode cX9_isOut 34 = .ok (.iconst 1, 1) := by decide +kernel
theorem dX9_isOut_35 : decode cX9_isOut 35 = .ok (.goto 4, 3) := by decide +kernel
theorem dX9_isOut_38 : decode cX9_isOut 38 = .ok (.iconst 0, 1) := by decide +kernel
theorem dX9_isOut_39 : decode cX9_isOut 39 = .ok (.ior, 1) := by decide +kernel
theorem dX9_isOut_40 : decode cX9_isOut 40 = .ok (.istore_n 3, 1) := by decide +kernel
theorem dX9_isOut_41 : decode cX9_isOut 41 = .ok (.iinc 4 1, 3) := by decide +kernel
theorem dX9_isOut_44 : decode cX9_isOut 44 = .ok (.goto (-39), 3) := by decide +kernel
theorem dX9_isOut_47 : decode cX9_isOut 47 = .ok (.iload_n 3, 1) := by decide +kernel
theorem dX9_isOut_48 : decode cX9_isOut 48 = .ok (.ireturn, 1) := by decide +kernel
theorem dX9_except_0 : decode cX9_except 0 = .ok (.aload_n 0, 1) := by decide +kernel
theorem dX9_except_1 : decode cX9_except 1 = .ok (.iconst 0, 1) := by decide +kernel
theorem dX9_except_2 : decode cX9_except 2 = .ok (.putfield 87, 3) := by decide +kernel
theorem dX9_except_5 : decode cX9_except 5 = .ok (.aload_n 0, 1) := by decide +kernel
theorem dX9_except_6 : decode cX9_except 6 = .ok (.iload_n 1, 1) := by decide +kernel
theorem dX9_except_7 : decode cX9_except 7 = .ok (.invokevirtual 231, 3) := by decide +kernel
theorem dX9_except_10 : decode cX9_except 10 = .ok (.ifCond .eq 10, 3) := by decide +kernel
theorem dX9_except_13 : decode cX9_except 13 = .ok (.iload_n 2, 1) := by decide +kernel
theorem dX9_except_14 : decode cX9_except 14 = .ok (.invokestatic 126, 3) := by decide +kernel
theorem dX9_except_17 : decode cX9_except 17 = .ok (.ifCond .ne 9, 3) := by decide +kernel
theorem dX9_except_20 : decode cX9_except 20 = .ok (.aload_n 0, 1) := by decide +kernel
theorem dX9_except_21 : decode cX9_except 21 = .ok (.iconst 1, 1) := by decide +kernel
theorem dX9_except_22 : decode cX9_except 22 = .ok (.invokevirtual 123, 3) := by decide +kernel
theorem dX9_except_25 : decode cX9_except 25 = .ok (.ireturn, 1) := by decide +kernel
theorem dX9_except_26 : decode cX9_except 26 = .ok (.aload_n 0, 1) := by decide +kernel
theorem dX9_except_27 : decode cX9_except 27 = .ok (.iload_n 1, 1) := by decide +kernel
theorem dX9_except_28 : decode cX9_except 28 = .ok (.iload_n 2, 1) := by decide +kernel
theorem dX9_except_29 : decode cX9_except 29 = .ok (.invokevirtual 241, 3) := by decide +kernel
theorem dX9_except_32 : decode cX9_except 32 = .ok (.ifCond .eq 11, 3) := by decide +kernel
theorem dX9_except_35 : decode cX9_except 35 = .ok (.aload_n 0, 1) := by decide +kernel
theorem dX9_except_36 : decode cX9_except 36 = .ok (.iload_n 1, 1) := by decide +kernel
theorem dX9_except_37 : decode cX9_except 37 = .ok (.bipush 10, 2) := by decide +kernel
theorem dX9_except_39 : decode cX9_except 39 = .ok (.invokevirtual 234, 3) := by decide +kernel
theorem dX9_except_42 : decode cX9_except 42 = .ok (.ireturn, 1) := by decide +kernel
theorem dX9_except_43 : decode cX9_except 43 = .ok (.aload_n 0, 1) := by decide +kernel
theorem dX9_except_44 : decode cX9_except 44 = .ok (.iload_n 1, 1) := by decide +kernel
theorem dX9_except_45 : decode cX9_except 45 = .ok (.bipush 10, 2) := by decide +kernel
theorem dX9_except_47 : decode cX9_except 47 = .ok (.invokevirtual 234, 3) := by decide +kernel
theorem dX9_except_50 : decode cX9_except 50 = .ok (.bipush 8, 2) := by decide +kernel
theorem dX9_except_52 : decode cX9_except 52 = .ok (.if_icmp .ne 9, 3) := by decide +kernel
theorem dX9_except_55 : decode cX9_except 55 = .ok (.aload_n 0, 1) := by decide +kernel
theorem dX9_except_56 : decode cX9_except 56 = .ok (.iconst 2, 1) := by decide +kernel
theorem dX9_except_57 : decode cX9_except 57 = .ok (.invokevirtual 123, 3) := by decide +kernel
theorem dX9_except_60 : decode cX9_except 60 = .ok (.ireturn, 1) := by decide +kernel
theorem dX9_except_61 : decode cX9_except 61 = .ok (.aload_n 0, 1) := by decide +kernel
theorem dX9_except_62 : decode cX9_except 62 = .ok (.getfield 45, 3) := by decide +kernel
theorem dX9_except_65 : decode cX9_except 65 = .ok (.bipush 8, 2) := by decide +kernel
theorem dX9_except_67 : decode cX9_except 67 = .ok (.iload_n 1, 1) := by decide +kernel
theorem dX9_except_68 : decode cX9_except 68 = .ok (.imul, 1) := by decide +kernel
theorem dX9_except_69 : decode cX9_except 69 = .ok (.aload_n 0, 1) := by decide +kernel
theorem dX9_except_70 : decode cX9_except 70 = .ok (.iload_n 1, 1) := by decide +kernel
theorem dX9_except_71 : decode cX9_except 71 = .ok (.bipush 10, 2) := by decide +kernel
theorem dX9_except_73 : decode cX9_except 73 = .ok (.invokevirtual 234, 3) := by decide +kernel
theorem dX9_except_76 : decode cX9_except 76 = .ok (.iadd, 1) := by decide +kernel
theorem dX9_except_77 : decode cX9_except 77 = .ok (.iload_n 2, 1) := by decide +kernel
theorem dX9_except_78 : decode cX9_except 78 = .ok (.iastore, 1) := by decide +kernel
theorem dX9_except_79 : decode cX9_except 79 = .ok (.aload_n 0, 1) := by decide +kernel
theorem dX9_except_80 : decode cX9_except 80 = .ok (.getfield 39, 3) := by decide +kernel
theorem dX9_except_83 : decode cX9_except 83 = .ok (.bipush 11, 2) := by decide +kernel
theorem dX9_except_85 : decode cX9_except 85 = .ok (.iload_n 1, 1) := by decide +kernel
theorem dX9_except_86 : decode cX9_except 86 = .ok (.imul, 1) := by decide +kernel
theorem dX9_except_87 : decode cX9_except 87 = .ok (.bipush 10, 2) := by decide +kernel
theorem dX9_except_89 : decode cX9_except 89 = .ok (.iadd, 1) := by decide +kernel
theorem dX9_except_90 : decode cX9_except 90 = .ok (.dup2, 1) := by decide +kernel
theorem dX9_except_91 : decode cX9_except 91 = .ok (.iaload, 1) := by decide +kernel
theorem dX9_except_92 : decode cX9_except 92 = .ok (.iconst 1, 1) := by decide +kernel
theorem dX9_except_93 : decode cX9_except 93 = .ok (.iadd, 1) := by decide +kernel
theorem dX9_except_94 : decode cX9_except 94 = .ok (.iastore, 1) := by decide +kernel
theorem dX9_except_95 : decode cX9_except 95 = .ok (.aload_n 0, 1) := by decide +kernel
theorem dX9_except_96 : decode cX9_except 96 = .ok (.getfield 51, 3) := by decide +kernel
theorem dX9_except_99 : decode cX9_except 99 = .ok (.iload_n 1, 1) := by decide +kernel
theorem dX9_except_100 : decode cX9_except 100 = .ok (.aconst_null, 1) := by decide +kernel
theorem dX9_except_101 : decode cX9_except 101 = .ok (.aastore, 1) := by decide +kernel
theorem dX9_except_102 : decode cX9_except 102 = .ok (.aload_n 0, 1) := by decide +kernel
theorem dX9_except_103 : decode cX9_except 103 = .ok (.iload_n 1, 1) := by decide +kernel
theorem dX9_except_104 : decode cX9_except 104 = .ok (.bipush 10, 2) := by decide +kernel
theorem dX9_except_106 : decode cX9_except 106 = .ok (.invokevirtual 234, 3) := by decide +kernel
theorem dX9_except_109 : decode cX9_except 109 = .ok (.ireturn, 1) := by decide +kernel
theorem dX9_counts_0 : decode cX9_counts 0 = .ok (.aload_n 0, 1) := by decide +kernel
theorem dX9_counts_1 : decode cX9_counts 1 = .ok (.iload_n 1, 1) := by decide +kernel
theorem dX9_counts_2 : decode cX9_counts 2 = .ok (.iconst 1, 1) := by decide +kernel
theorem dX9_counts_3 : decode cX9_counts 3 = .ok (.invokevirtual 234, 3) := by decide +kernel
theorem dX9_counts_6 : decode cX9_counts 6 = .ok (.sipush 1440, 3) := by decide +kernel
theorem dX9_counts_9 : decode cX9_counts 9 = .ok (.idiv, 1) := by decide +kernel
theorem dX9_counts_10 : decode cX9_counts 10 = .ok (.istore_n 3, 1) := by decide +kernel
theorem dX9_counts_11 : decode cX9_counts 11 = .ok (.aload_n 0, 1) := by decide +kernel
theorem dX9_counts_12 : decode cX9_counts 12 = .ok (.iload_n 1, 1) := by decide +kernel
theorem dX9_counts_13 : decode cX9_counts 13 = .ok (.iconst 2, 1) := by decide +kernel
theorem dX9_counts_14 : decode cX9_counts 14 = .ok (.invokevirtual 234, 3) := by decide +kernel
theorem dX9_counts_17 : decode cX9_counts 17 = .ok (.istore 4, 2) := by decide +kernel
theorem dX9_counts_19 : decode cX9_counts 19 = .ok (.aload_n 0, 1) := by decide +kernel
theorem dX9_counts_20 : decode cX9_counts 20 = .ok (.iload_n 1, 1) := by decide +kernel
theorem dX9_counts_21 : decode cX9_counts 21 = .ok (.iconst 4, 1) := by decide +kernel
theorem dX9_counts_22 : decode cX9_counts 22 = .ok (.invokevirtual 234, 3) := by decide +kernel
theorem dX9_counts_25 : decode cX9_counts 25 = .ok (.istore 5, 2) := by decide +kernel
theorem dX9_counts_27 : decode cX9_counts 27 = .ok (.aload_n 0, 1) := by decide +kernel
theorem dX9_counts_28 : decode cX9_counts 28 = .ok (.iload_n 1, 1) := by decide +kernel
theorem dX9_counts_29 : decode cX9_counts 29 = .ok (.bipush 9, 2) := by decide +kernel
theorem dX9_counts_31 : decode cX9_counts 31 = .ok (.invokevirtual 234, 3) := by decide +kernel
theorem dX9_counts_34 : decode cX9_counts 34 = .ok (.ifCond .ne 7, 3) := by decide +kernel
theorem dX9_counts_37 : decode cX9_counts 37 = .ok (.iconst 1, 1) := by decide +kernel
theorem dX9_counts_38 : decode cX9_counts 38 = .ok (.goto 4, 3) := by decide +kernel
theorem dX9_counts_41 : decode cX9_counts 41 = .ok (.iconst 0, 1) := by decide +kernel
theorem dX9_counts_42 : decode cX9_counts 42 = .ok (.istore 6, 2) := by decide +kernel
theorem dX9_counts_44 : decode cX9_counts 44 = .ok (.iload 5, 2) := by decide +kernel
theorem dX9_counts_46 : decode cX9_counts 46 = .ok (.ifCond .eq 17, 3) := by decide +kernel
theorem dX9_counts_49 : decode cX9_counts 49 = .ok (.iload 5, 2) := by decide +kernel
theorem dX9_counts_51 : decode cX9_counts 51 = .ok (.iload_n 2, 1) := by decide +kernel
theorem dX9_counts_52 : decode cX9_counts 52 = .ok (.bipush 7, 2) := by decide +kernel
theorem dX9_counts_54 : decode cX9_counts 54 = .ok (.irem, 1) := by decide +kernel
theorem dX9_counts_55 : decode cX9_counts 55 = .ok (.ishr, 1) := by decide +kernel
theorem dX9_counts_56 : decode cX9_counts 56 = .ok (.iconst 1, 1) := by decide +kernel
theorem dX9_counts_57 : decode cX9_counts 57 = .ok (.iand, 1) := by decide +kernel
theorem dX9_counts_58 : decode cX9_counts 58 = .ok (.ifCond .ne 5, 3) := by decide +kernel
theorem dX9_counts_61 : decode cX9_counts 61 = .ok (.iconst 0, 1) := by decide +kernel
theorem dX9_counts_62 : decode cX9_counts 62 = .ok (.ireturn, 1) := by decide +kernel
theorem dX9_counts_63 : decode cX9_counts 63 = .ok (.iload 6, 2) := by decide +kernel
theorem dX9_counts_65 : decode cX9_counts 65 = .ok (.ifCond .ne 51, 3) := by decide +kernel
theorem dX9_counts_68 : decode cX9_counts 68 = .ok (.iconst 0, 1) := by decide +kernel
theorem dX9_counts_69 : decode cX9_counts 69 = .ok (.istore 7, 2) := by decide +kernel
theorem dX9_counts_71 : decode cX9_counts 71 = .ok (.iconst 0, 1) := by decide +kernel
theorem dX9_counts_72 : decode cX9_counts 72 = .ok (.istore 8, 2) := by decide +kernel
theorem dX9_counts_74 : decode cX9_counts 74 = .ok (.iload 8, 2) := by decide +kernel
theorem dX9_counts_76 : decode cX9_counts 76 = .ok (.aload_n 0, 1) := by decide +kernel
theorem dX9_counts_77 : decode cX9_counts 77 = .ok (.iload_n 1, 1) := by decide +kernel
theorem dX9_counts_78 : decode cX9_counts 78 = .ok (.bipush 9, 2) := by decide +kernel
theorem dX9_counts_80 : decode cX9_counts 80 = .ok (.invokevirtual 234, 3) := by decide +kernel
theorem dX9_counts_83 : decode cX9_counts 83 = .ok (.if_icmp .ge 30, 3) := by decide +kernel
theorem dX9_counts_86 : decode cX9_counts 86 = .ok (.iload 7, 2) := by decide +kernel
theorem dX9_counts_88 : decode cX9_counts 88 = .ok (.aload_n 0, 1) := by decide +kernel
theorem dX9_counts_89 : decode cX9_counts 89 = .ok (.aload_n 0, 1) := by decide +kernel
theorem dX9_counts_90 : decode cX9_counts 90 = .ok (.getfield 42, 3) := by decide +kernel
theorem dX9_counts_93 : decode cX9_counts 93 = .ok (.iconst 4, 1) := by decide +kernel
theorem dX9_counts_94 : decode cX9_counts 94 = .ok (.iload_n 1, 1) := by decide +kernel
theorem dX9_counts_95 : decode cX9_counts 95 = .ok (.imul, 1) := by decide +kernel
theorem dX9_counts_96 : decode cX9_counts 96 = .ok (.iload 8, 2) := by decide +kernel
theorem dX9_counts_98 : decode cX9_counts 98 = .ok (.iadd, 1) := by decide +kernel
theorem dX9_counts_99 : decode cX9_counts 99 = .ok (.iaload, 1) := by decide +kernel
theorem dX9_counts_100 : decode cX9_counts 100 = .ok (.iload_n 2, 1) := by decide +kernel
theorem dX9_counts_101 : decode cX9_counts 101 = .ok (.invokevirtual 151, 3) := by decide +kernel
theorem dX9_counts_104 : decode cX9_counts 104 = .ok (.ior, 1) := by decide +kernel
theorem dX9_counts_105 : decode cX9_counts 105 = .ok (.istore 7, 2) := by decide +kernel
theorem dX9_counts_107 : decode cX9_counts 107 = .ok (.iinc 8 1, 3) := by decide +kernel
theorem dX9_counts_110 : decode cX9_counts 110 = .ok (.goto (-36), 3) := by decide +kernel
theorem dX9_counts_113 : decode cX9_counts 113 = .ok (.iload 7, 2) := by decide +kernel
theorem dX9_counts_115 : decode cX9_counts 115 = .ok (.ireturn, 1) := by decide +kernel
theorem dX9_counts_116 : decode cX9_counts 116 = .ok (.iload 4, 2) := by decide +kernel
theorem dX9_counts_118 : decode cX9_counts 118 = .ok (.iconst 1, 1) := by decide +kernel
theorem dX9_counts_119 : decode cX9_counts 119 = .ok (.if_icmp .ne 25, 3) := by decide +kernel
theorem dX9_counts_122 : decode cX9_counts 122 = .ok (.iload 5, 2) := by decide +kernel
theorem dX9_counts_124 : decode cX9_counts 124 = .ok (.ifCond .ne 14, 3) := by decide +kernel
theorem dX9_counts_127 : decode cX9_counts 127 = .ok (.iload_n 2, 1) := by decide +kernel
theorem dX9_counts_128 : decode cX9_counts 128 = .ok (.bipush 7, 2) := by decide +kernel
theorem dX9_counts_130 : decode cX9_counts 130 = .ok (.irem, 1) := by decide +kernel
theorem dX9_counts_131 : decode cX9_counts 131 = .ok (.iload_n 3, 1) := by decide +kernel
theorem dX9_counts_132 : decode cX9_counts 132 = .ok (.bipush 7, 2) := by decide +kernel
theorem dX9_counts_134 : decode cX9_counts 134 = .ok (.irem, 1) := by decide +kernel
theorem dX9_counts_135 : decode cX9_counts 135 = .ok (.if_icmp .ne 7, 3) := by decide +kernel
theorem dX9_counts_138 : decode cX9_counts 138 = .ok (.iconst 1, 1) := by decide +kernel
theorem dX9_counts_139 : decode cX9_counts 139 = .ok (.goto 4, 3) := by decide +kernel
theorem dX9_counts_142 : decode cX9_counts 142 = .ok (.iconst 0, 1) := by decide +kernel
theorem dX9_counts_143 : decode cX9_counts 143 = .ok (.ireturn, 1) := by decide +kernel
theorem dX9_counts_144 : decode cX9_counts 144 = .ok (.iload 4, 2) := by decide +kernel
theorem dX9_counts_146 : decode cX9_counts 146 = .ok (.ifCond .ne 5, 3) := by decide +kernel
theorem dX9_counts_149 : decode cX9_counts 149 = .ok (.iconst 1, 1) := by decide +kernel
theorem dX9_counts_150 : decode cX9_counts 150 = .ok (.ireturn, 1) := by decide +kernel
theorem dX9_counts_151 : decode cX9_counts 151 = .ok (.iload_n 2, 1) := by decide +kernel
theorem dX9_counts_152 : decode cX9_counts 152 = .ok (.invokestatic 129, 3) := by decide +kernel
theorem dX9_counts_155 : decode cX9_counts 155 = .ok (.iload_n 3, 1) := by decide +kernel
theorem dX9_counts_156 : decode cX9_counts 156 = .ok (.invokestatic 129, 3) := by decide +kernel
theorem dX9_counts_159 : decode cX9_counts 159 = .ok (.if_icmp .ne 24, 3) := by decide +kernel
theorem dX9_counts_162 : decode cX9_counts 162 = .ok (.iload 4, 2) := by decide +kernel
theorem dX9_counts_164 : decode cX9_counts 164 = .ok (.iconst 2, 1) := by decide +kernel
theorem dX9_counts_165 : decode cX9_counts 165 = .ok (.if_icmp .eq 14, 3) := by decide +kernel
theorem dX9_counts_168 : decode cX9_counts 168 = .ok (.iload_n 2, 1) := by decide +kernel
theorem dX9_counts_169 : decode cX9_counts 169 = .ok (.invokestatic 112, 3) := by decide +kernel
theorem dX9_counts_172 : decode cX9_counts 172 = .ok (.iload_n 3, 1) := by decide +kernel
theorem dX9_counts_173 : decode cX9_counts 173 = .ok (.invokestatic 112, 3) := by decide +kernel
theorem dX9_counts_176 : decode cX9_counts 176 = .ok (.if_icmp .ne 7, 3) := by decide +kernel
theorem dX9_counts_179 : decode cX9_counts 179 = .ok (.iconst 1, 1) := by decide +kernel
theorem dX9_counts_180 : decode cX9_counts 180 = .ok (.goto 4, 3) := by decide +kernel
theorem dX9_counts_183 : decode cX9_counts 183 = .ok (.iconst 0, 1) := by decide +kernel
theorem dX9_counts_184 : decode cX9_counts 184 = .ok (.ireturn, 1) := by decide +kernel
theorem dX9_beginOfSpan_0 : decode cX9_beginOfSpan 0 = .ok (.aload_n 0, 1) := by decide +kernel
theorem dX9_beginOfSpan_1 : decode cX9_beginOfSpan 1 = .ok (.iload_n 1, 1) := by decide +kernel
theorem dX9_beginOfSpan_2 : decode cX9_beginOfSpan 2 = .ok (.iconst 1, 1) := by decide +kernel
theorem dX9_beginOfSpan_3 : decode cX9_beginOfSpan 3 = .ok (.invokevirtual 234, 3) := by decide +kernel
theorem dX9_beginOfSpan_6 : decode cX9_beginOfSpan 6 = .ok (.sipush 1440, 3) := by decide +kernel
theorem dX9_beginOfSpan_9 : decode cX9_beginOfSpan 9 = .ok (.idiv, 1) := by decide +kernel
theorem dX9_beginOfSpan_10 : decode cX9_beginOfSpan 10 = .ok (.istore_n 3, 1) := by decide +kernel
theorem dX9_beginOfSpan_11 : decode cX9_beginOfSpan 11 = .ok (.aload_n 0, 1) := by decide +kernel
theorem dX9_beginOfSpan_12 : decode cX9_beginOfSpan 12 = .ok (.iload_n 1, 1) := by decide +kernel
theorem dX9_beginOfSpan_13 : decode cX9_beginOfSpan 13 = .ok (.iconst 2, 1) := by decide +kernel
theorem dX9_beginOfSpan_14 : decode cX9_beginOfSpan 14 = .ok (.invokevirtual 234, 3) := by decide +kernel
theorem dX9_beginOfSpan_17 : decode cX9_beginOfSpan 17 = .ok (.istore 4, 2) := by decide +kernel
theorem dX9_beginOfSpan_19 : decode cX9_beginOfSpan 19 = .ok (.iload 4, 2) := by decide +kernel
theorem dX9_beginOfSpan_21 : decode cX9_beginOfSpan 21 = .ok (.ifCond .ne 7, 3) := by decide +kernel
theorem dX9_beginOfSpan_24 : decode cX9_beginOfSpan 24 = .ok (.iload_n 3, 1) := by decide +kernel
theorem dX9_beginOfSpan_25 : decode cX9_beginOfSpan 25 = .ok (.iload_n 2, 1) := by decide +kernel
theorem dX9_beginOfSpan_26 : decode cX9_beginOfSpan 26 = .ok (.iadd, 1) := by decide +kernel
theorem dX9_beginOfSpan_27 : decode cX9_beginOfSpan 27 = .ok (.ireturn, 1) := by decide +kernel
theorem dX9_beginOfSpan_28 : decode cX9_beginOfSpan 28 = .ok (.iload 4, 2) := by decide +kernel
theorem dX9_beginOfSpan_30 : decode cX9_beginOfSpan 30 = .ok (.iconst 1, 1) := by decide +kernel
theorem dX9_beginOfSpan_31 : decode cX9_beginOfSpan 31 = .ok (.if_icmp .ne 16, 3) := by decide +kernel
theorem dX9_beginOfSpan_34 : decode cX9_beginOfSpan 34 = .ok (.iload_n 3, 1) := by decide +kernel
theorem dX9_beginOfSpan_35 : decode cX9_beginOfSpan 35 = .ok (.bipush 7, 2) := by decide +kernel
theorem dX9_beginOfSpan_37 : decode cX9_beginOfSpan 37 = .ok (.idiv, 1) := by decide +kernel
theorem dX9_beginOfSpan_38 : decode cX9_beginOfSpan 38 = .ok (.bipush 7, 2) := by decide +kernel
theorem dX9_beginOfSpan_40 : decode cX9_beginOfSpan 40 = .ok (.imul, 1) := by decide +kernel
theorem dX9_beginOfSpan_41 : decode cX9_beginOfSpan 41 = .ok (.bipush 7, 2) := by decide +kernel
theorem dX9_beginOfSpan_43 : decode cX9_beginOfSpan 43 = .ok (.iload_n 2, 1) := by decide +kernel
theorem dX9_beginOfSpan_44 : decode cX9_beginOfSpan 44 = .ok (.imul, 1) := by decide +kernel
theorem dX9_beginOfSpan_45 : decode cX9_beginOfSpan 45 = .ok (.iadd, 1) := by decide +kernel
theorem dX9_beginOfSpan_46 : decode cX9_beginOfSpan 46 = .ok (.ireturn, 1) := by decide +kernel
theorem dX9_beginOfSpan_47 : decode cX9_beginOfSpan 47 = .ok (.iload_n 3, 1) := by decide +kernel
theorem dX9_beginOfSpan_48 : decode cX9_beginOfSpan 48 = .ok (.invokestatic 109, 3) := by decide +kernel
theorem dX9_beginOfSpan_51 : decode cX9_beginOfSpan 51 = .ok (.istore 5, 2) := by decide +kernel
theorem dX9_beginOfSpan_53 : decode cX9_beginOfSpan 53 = .ok (.iload 4, 2) := by decide +kernel
theorem dX9_beginOfSpan_55 : decode cX9_beginOfSpan 55 = .ok (.iconst 2, 1) := by decide +kernel
theorem dX9_beginOfSpan_56 : decode cX9_beginOfSpan 56 = .ok (.if_icmp .ne 24, 3) := by decide +kernel
theorem dX9_beginOfSpan_59 : decode cX9_beginOfSpan 59 = .ok (.bipush 12, 2) := by decide +kernel
theorem dX9_beginOfSpan_61 : decode cX9_beginOfSpan 61 = .ok (.iload 5, 2) := by decide +kernel
theorem dX9_beginOfSpan_63 : decode cX9_beginOfSpan 63 = .ok (.sipush 1900, 3) := by decide +kernel
theorem dX9_beginOfSpan_66 : decode cX9_beginOfSpan 66 = .ok (.isub, 1) := by decide +kernel
theorem dX9_beginOfSpan_67 : decode cX9_beginOfSpan 67 = .ok (.imul, 1) := by decide +kernel
theorem dX9_beginOfSpan_68 : decode cX9_beginOfSpan 68 = .ok (.iload_n 3, 1) := by decide +kernel
theorem dX9_beginOfSpan_69 : decode cX9_beginOfSpan 69 = .ok (.invokestatic 112, 3) := by decide +kernel
theorem dX9_beginOfSpan_72 : decode cX9_beginOfSpan 72 = .ok (.iadd, 1) := by decide +kernel
theorem dX9_beginOfSpan_73 : decode cX9_beginOfSpan 73 = .ok (.iconst 1, 1) := by decide +kernel
theorem dX9_beginOfSpan_74 : decode cX9_beginOfSpan 74 = .ok (.isub, 1) := by decide +kernel
theorem dX9_beginOfSpan_75 : decode cX9_beginOfSpan 75 = .ok (.iload_n 2, 1) := by decide +kernel
theorem dX9_beginOfSpan_76 : decode cX9_beginOfSpan 76 = .ok (.iadd, 1) := by decide +kernel
theorem dX9_beginOfSpan_77 : decode cX9_beginOfSpan 77 = .ok (.goto 14, 3) := by decide +kernel
theorem dX9_beginOfSpan_80 : decode cX9_beginOfSpan 80 = .ok (.bipush 12, 2) := by decide +kernel
theorem dX9_beginOfSpan_82 : decode cX9_beginOfSpan 82 = .ok (.iload 5, 2) := by decide +kernel
theorem dX9_beginOfSpan_84 : decode cX9_beginOfSpan 84 = .ok (.sipush 1900, 3) := by decide +kernel
theorem dX9_beginOfSpan_87 : decode cX9_beginOfSpan 87 = .ok (.isub, 1) := by decide +kernel
theorem dX9_beginOfSpan_88 : decode cX9_beginOfSpan 88 = .ok (.iload_n 2, 1) := by decide +kernel
theorem dX9_beginOfSpan_89 : decode cX9_beginOfSpan 89 = .ok (.iadd, 1) := by decide +kernel
theorem dX9_beginOfSpan_90 : decode cX9_beginOfSpan 90 = .ok (.imul, 1) := by decide +kernel
theorem dX9_beginOfSpan_91 : decode cX9_beginOfSpan 91 = .ok (.istore 6, 2) := by decide +kernel
theorem dX9_beginOfSpan_93 : decode cX9_beginOfSpan 93 = .ok (.iload 6, 2) := by decide +kernel
theorem dX9_beginOfSpan_95 : decode cX9_beginOfSpan 95 = .ok (.sipush 2400, 3) := by decide +kernel
theorem dX9_beginOfSpan_98 : decode cX9_beginOfSpan 98 = .ok (.if_icmp .lt 8, 3) := by decide +kernel
theorem dX9_beginOfSpan_101 : decode cX9_beginOfSpan 101 = .ok (.ldc 82, 2) := by decide +kernel
theorem dX9_beginOfSpan_103 : decode cX9_beginOfSpan 103 = .ok (.goto 23, 3) := by decide +kernel
theorem dX9_beginOfSpan_106 : decode cX9_beginOfSpan 106 = .ok (.sipush 1900, 3) := by decide +kernel
theorem dX9_beginOfSpan_109 : decode cX9_beginOfSpan 109 = .ok (.iload 6, 2) := by decide +kernel
theorem dX9_beginOfSpan_111 : decode cX9_beginOfSpan 111 = .ok (.bipush 12, 2) := by decide +kernel
theorem dX9_beginOfSpan_113 : decode cX9_beginOfSpan 113 = .ok (.idiv, 1) := by decide +kernel
theorem dX9_beginOfSpan_114 : decode cX9_beginOfSpan 114 = .ok (.iadd, 1) := by decide +kernel
theorem dX9_beginOfSpan_115 : decode cX9_beginOfSpan 115 = .ok (.iload 6, 2) := by decide +kernel
theorem dX9_beginOfSpan_117 : decode cX9_beginOfSpan 117 = .ok (.bipush 12, 2) := by decide +kernel
theorem dX9_beginOfSpan_119 : decode cX9_beginOfSpan 119 = .ok (.irem, 1) := by decide +kernel
theorem dX9_beginOfSpan_120 : decode cX9_beginOfSpan 120 = .ok (.iconst 1, 1) := by decide +kernel
theorem dX9_beginOfSpan_121 : decode cX9_beginOfSpan 121 = .ok (.iadd, 1) := by decide +kernel
theorem dX9_beginOfSpan_122 : decode cX9_beginOfSpan 122 = .ok (.iconst 1, 1) := by decide +kernel
theorem dX9_beginOfSpan_123 : decode cX9_beginOfSpan 123 = .ok (.invokestatic 115, 3) := by decide +kernel
theorem dX9_beginOfSpan_126 : decode cX9_beginOfSpan 126 = .ok (.ireturn, 1) := by decide +kernel
theorem dX9_dated_0 : decode cX9_dated 0 = .ok (.aload_n 0, 1) := by decide +kernel
theorem dX9_dated_1 : decode cX9_dated 1 = .ok (.getfield 51, 3) := by decide +kernel
theorem dX9_dated_4 : decode cX9_dated 4 = .ok (.iload_n 1, 1) := by decide +kernel
theorem dX9_dated_5 : decode cX9_dated 5 = .ok (.aaload, 1) := by decide +kernel
theorem dX9_dated_6 : decode cX9_dated 6 = .ok (.ifnonnull 25, 3) := by decide +kernel
theorem dX9_dated_9 : decode cX9_dated 9 = .ok (.aload_n 0, 1) := by decide +kernel
theorem dX9_dated_10 : decode cX9_dated 10 = .ok (.iload_n 1, 1) := by decide +kernel
theorem dX9_dated_11 : decode cX9_dated 11 = .ok (.invokevirtual 244, 3) := by decide +kernel
theorem dX9_dated_14 : decode cX9_dated 14 = .ok (.aload_n 0, 1) := by decide +kernel
theorem dX9_dated_15 : decode cX9_dated 15 = .ok (.getfield 51, 3) := by decide +kernel
theorem dX9_dated_18 : decode cX9_dated 18 = .ok (.iload_n 1, 1) := by decide +kernel
theorem dX9_dated_19 : decode cX9_dated 19 = .ok (.aload_n 0, 1) := by decide +kernel
theorem dX9_dated_20 : decode cX9_dated 20 = .ok (.getfield 54, 3) := by decide +kernel
theorem dX9_dated_23 : decode cX9_dated 23 = .ok (.aload_n 0, 1) := by decide +kernel
theorem dX9_dated_24 : decode cX9_dated 24 = .ok (.getfield 247, 3) := by decide +kernel
theorem dX9_dated_27 : decode cX9_dated 27 = .ok (.invokestatic 250, 3) := by decide +kernel
theorem dX9_dated_30 : decode cX9_dated 30 = .ok (.aastore, 1) := by decide +kernel
theorem dX9_dated_31 : decode cX9_dated 31 = .ok (.aload_n 0, 1) := by decide +kernel
theorem dX9_dated_32 : decode cX9_dated 32 = .ok (.getfield 51, 3) := by decide +kernel
theorem dX9_dated_35 : decode cX9_dated 35 = .ok (.iload_n 1, 1) := by decide +kernel
theorem dX9_dated_36 : decode cX9_dated 36 = .ok (.aaload, 1) := by decide +kernel
theorem dX9_dated_37 : decode cX9_dated 37 = .ok (.areturn, 1) := by decide +kernel
theorem dX9_date_0 : decode cX9_date 0 = .ok (.aload_n 0, 1) := by decide +kernel
theorem dX9_date_1 : decode cX9_date 1 = .ok (.iconst 0, 1) := by decide +kernel
theorem dX9_date_2 : decode cX9_date 2 = .ok (.putfield 247, 3) := by decide +kernel
theorem dX9_date_5 : decode cX9_date 5 = .ok (.aload_n 0, 1) := by decide +kernel
theorem dX9_date_6 : decode cX9_date 6 = .ok (.iload_n 1, 1) := by decide +kernel
theorem dX9_date_7 : decode cX9_date 7 = .ok (.bipush 6, 2) := by decide +kernel
theorem dX9_date_9 : decode cX9_date 9 = .ok (.invokevirtual 234, 3) := by decide +kernel
theorem dX9_date_12 : decode cX9_date 12 = .ok (.ifCond .ne 9, 3) := by decide +kernel
theorem dX9_date_15 : decode cX9_date 15 = .ok (.ldc_w 256, 3) := by decide +kernel
theorem dX9_date_18 : decode cX9_date 18 = .ok (.goto 10, 3) := by decide +kernel
theorem dX9_date_21 : decode cX9_date 21 = .ok (.aload_n 0, 1) := by decide +kernel
theorem dX9_date_22 : decode cX9_date 22 = .ok (.iload_n 1, 1) := by decide +kernel
theorem dX9_date_23 : decode cX9_date 23 = .ok (.bipush 6, 2) := by decide +kernel
theorem dX9_date_25 : decode cX9_date 25 = .ok (.invokevirtual 234, 3) := by decide +kernel
theorem dX9_date_28 : decode cX9_date 28 = .ok (.istore_n 2, 1) := by decide +kernel
theorem dX9_date_29 : decode cX9_date 29 = .ok (.aload_n 0, 1) := by decide +kernel
theorem dX9_date_30 : decode cX9_date 30 = .ok (.iload_n 1, 1) := by decide +kernel
theorem dX9_date_31 : decode cX9_date 31 = .ok (.iconst 5, 1) := by decide +kernel
theorem dX9_date_32 : decode cX9_date 32 = .ok (.invokevirtual 234, 3) := by decide +kernel
theorem dX9_date_35 : decode cX9_date 35 = .ok (.istore_n 3, 1) := by decide +kernel
theorem dX9_date_36 : decode cX9_date 36 = .ok (.aload_n 0, 1) := by decide +kernel
theorem dX9_date_37 : decode cX9_date 37 = .ok (.iload_n 1, 1) := by decide +kernel
theorem dX9_date_38 : decode cX9_date 38 = .ok (.iconst 1, 1) := by decide +kernel
theorem dX9_date_39 : decode cX9_date 39 = .ok (.invokevirtual 234, 3) := by decide +kernel
theorem dX9_date_42 : decode cX9_date 42 = .ok (.sipush 1440, 3) := by decide +kernel
theorem dX9_date_45 : decode cX9_date 45 = .ok (.idiv, 1) := by decide +kernel
theorem dX9_date_46 : decode cX9_date 46 = .ok (.istore 4, 2) := by decide +kernel
theorem dX9_date_48 : decode cX9_date 48 = .ok (.iconst 0, 1) := by decide +kernel
theorem dX9_date_49 : decode cX9_date 49 = .ok (.istore 5, 2) := by decide +kernel
theorem dX9_date_51 : decode cX9_date 51 = .ok (.iload_n 2, 1) := by decide +kernel
theorem dX9_date_52 : decode cX9_date 52 = .ok (.ifCond .le 271, 3) := by decide +kernel
theorem dX9_date_55 : decode cX9_date 55 = .ok (.aload_n 0, 1) := by decide +kernel
theorem dX9_date_56 : decode cX9_date 56 = .ok (.iload_n 1, 1) := by decide +kernel
theorem dX9_date_57 : decode cX9_date 57 = .ok (.iload 5, 2) := by decide +kernel
theorem dX9_date_59 : decode cX9_date 59 = .ok (.invokevirtual 257, 3) := by decide +kernel
theorem dX9_date_62 : decode cX9_date 62 = .ok (.istore 6, 2) := by decide +kernel
theorem dX9_date_64 : decode cX9_date 64 = .ok (.iload 6, 2) := by decide +kernel
theorem dX9_date_66 : decode cX9_date 66 = .ok (.aload_n 0, 1) := by decide +kernel
theorem dX9_date_67 : decode cX9_date 67 = .ok (.iload_n 1, 1) := by decide +kernel
theorem dX9_date_68 : decode cX9_date 68 = .ok (.bipush 7, 2) := by decide +kernel
theorem dX9_date_70 : decode cX9_date 70 = .ok (.invokevirtual 234, 3) := by decide +kernel
theorem dX9_date_73 : decode cX9_date 73 = .ok (.if_icmp .le 4, 3) := by decide +kernel
theorem dX9_date_76 : decode cX9_date 76 = .ok (.return_, 1) := by decide +kernel
theorem dX9_date_77 : decode cX9_date 77 = .ok (.ldc 82, 2) := by decide +kernel
theorem dX9_date_79 : decode cX9_date 79 = .ok (.aload_n 0, 1) := by decide +kernel
theorem dX9_date_80 : decode cX9_date 80 = .ok (.iload_n 1, 1) := by decide +kernel
theorem dX9_date_81 : decode cX9_date 81 = .ok (.iload 5, 2) := by decide +kernel
theorem dX9_date_83 : decode cX9_date 83 = .ok (.iconst 1, 1) := by decide +kernel
theorem dX9_date_84 : decode cX9_date 84 = .ok (.iadd, 1) := by decide +kernel
theorem dX9_date_85 : decode cX9_date 85 = .ok (.invokevirtual 257, 3) := by decide +kernel
theorem dX9_date_88 : decode cX9_date 88 = .ok (.invokestatic 104, 3) := by decide +kernel
theorem dX9_date_91 : decode cX9_date 91 = .ok (.istore 7, 2) := by decide +kernel
theorem dX9_date_93 : decode cX9_date 93 = .ok (.aload_n 0, 1) := by decide +kernel
theorem dX9_date_94 : decode cX9_date 94 = .ok (.iconst 0, 1) := by decide +kernel
theorem dX9_date_95 : decode cX9_date 95 = .ok (.putfield 260, 3) := by decide +kernel
theorem dX9_date_98 : decode cX9_date 98 = .ok (.iload 6, 2) := by decide +kernel
theorem dX9_date_100 : decode cX9_date 100 = .ok (.istore 8, 2) := by decide +kernel
theorem dX9_date_102 : decode cX9_date 102 = .ok (.iload 8, 2) := by decide +kernel
theorem dX9_date_104 : decode cX9_date 104 = .ok (.iload 7, 2) := by decide +kernel
theorem dX9_date_106 : decode cX9_date 106 = .ok (.if_icmp .ge 43, 3) := by decide +kernel
theorem dX9_date_109 : decode cX9_date 109 = .ok (.aload_n 0, 1) := by decide +kernel
theorem dX9_date_110 : decode cX9_date 110 = .ok (.iload_n 1, 1) := by decide +kernel
theorem dX9_date_111 : decode cX9_date 111 = .ok (.iload 8, 2) := by decide +kernel
theorem dX9_date_113 : decode cX9_date 113 = .ok (.invokevirtual 263, 3) := by decide +kernel
theorem dX9_date_116 : decode cX9_date 116 = .ok (.ifCond .ne 6, 3) := by decide +kernel
theorem dX9_date_119 : decode cX9_date 119 = .ok (.goto 24, 3) := by decide +kernel
theorem dX9_date_122 : decode cX9_date 122 = .ok (.aload_n 0, 1) := by decide +kernel
theorem dX9_date_123 : decode cX9_date 123 = .ok (.getfield 48, 3) := by decide +kernel
theorem dX9_date_126 : decode cX9_date 126 = .ok (.aload_n 0, 1) := by decide +kernel
theorem dX9_date_127 : decode cX9_date 127 = .ok (.getfield 260, 3) := by decide +kernel
theorem dX9_date_130 : decode cX9_date 130 = .ok (.iload 8, 2) := by decide +kernel
theorem dX9_date_132 : decode cX9_date 132 = .ok (.iastore, 1) := by decide +kernel
theorem dX9_date_133 : decode cX9_date 133 = .ok (.aload_n 0, 1) := by decide +kernel
theorem dX9_date_134 : decode cX9_date 134 = .ok (.dup, 1) := by decide +kernel
theorem dX9_date_135 : decode cX9_date 135 = .ok (.getfield 260, 3) := by decide +kernel
theorem dX9_date_138 : decode cX9_date 138 = .ok (.iconst 1, 1) := by decide +kernel
theorem dX9_date_139 : decode cX9_date 139 = .ok (.iadd, 1) := by decide +kernel
theorem dX9_date_140 : decode cX9_date 140 = .ok (.putfield 260, 3) := by decide +kernel
theorem dX9_date_143 : decode cX9_date 143 = .ok (.iinc 8 1, 3) := by decide +kernel
theorem dX9_date_146 : decode cX9_date 146 = .ok (.goto (-44), 3) := by decide +kernel
theorem dX9_date_149 : decode cX9_date 149 = .ok (.iload_n 3, 1) := by decide +kernel
theorem dX9_date_150 : decode cX9_date 150 = .ok (.ifCond .ne 7, 3) := by decide +kernel
theorem dX9_date_153 : decode cX9_date 153 = .ok (.iconst 0, 1) := by decide +kernel
theorem dX9_date_154 : decode cX9_date 154 = .ok (.goto 19, 3) := by decide +kernel
theorem dX9_date_157 : decode cX9_date 157 = .ok (.iload_n 3, 1) := by decide +kernel
theorem dX9_date_158 : decode cX9_date 158 = .ok (.ifCond .le 9, 3) := by decide +kernel
theorem dX9_date_161 : decode cX9_date 161 = .ok (.iload_n 3, 1) := by decide +kernel
theorem dX9_date_162 : decode cX9_date 162 = .ok (.iconst 1, 1) := by decide +kernel
theorem dX9_date_163 : decode cX9_date 163 = .ok (.isub, 1) := by decide +kernel
theorem dX9_date_164 : decode cX9_date 164 = .ok (.goto 9, 3) := by decide +kernel
theorem dX9_date_167 : decode cX9_date 167 = .ok (.aload_n 0, 1) := by decide +kernel
theorem dX9_date_168 : decode cX9_date 168 = .ok (.getfield 260, 3) := by decide +kernel
theorem dX9_date_171 : decode cX9_date 171 = .ok (.iload_n 3, 1) := by decide +kernel
theorem dX9_date_172 : decode cX9_date 172 = .ok (.iadd, 1) := by decide +kernel
theorem dX9_date_173 : decode cX9_date 173 = .ok (.istore 8, 2) := by decide +kernel
theorem dX9_date_175 : decode cX9_date 175 = .ok (.iload_n 3, 1) := by decide +kernel
theorem dX9_date_176 : decode cX9_date 176 = .ok (.ifCond .ne 10, 3) := by decide +kernel
theorem dX9_date_179 : decode cX9_date 179 = .ok (.aload_n 0, 1) := by decide +kernel
theorem dX9_date_180 : decode cX9_date 180 = .ok (.getfield 260, 3) := by decide +kernel
theorem dX9_date_183 : decode cX9_date 183 = .ok (.goto 7, 3) := by decide +kernel
theorem dX9_date_186 : decode cX9_date 186 = .ok (.iload 8, 2) := by decide +kernel
theorem dX9_date_188 : decode cX9_date 188 = .ok (.iconst 1, 1) := by decide +kernel
theorem dX9_date_189 : decode cX9_date 189 = .ok (.iadd, 1) := by decide +kernel
theorem dX9_date_190 : decode cX9_date 190 = .ok (.istore 9, 2) := by decide +kernel
theorem dX9_date_192 : decode cX9_date 192 = .ok (.iload 8, 2) := by decide +kernel
theorem dX9_date_194 : decode cX9_date 194 = .ok (.ifCond .lt 115, 3) := by decide +kernel
theorem dX9_date_197 : decode cX9_date 197 = .ok (.iload 9, 2) := by decide +kernel
theorem dX9_date_199 : decode cX9_date 199 = .ok (.aload_n 0, 1) := by decide +kernel
theorem dX9_date_200 : decode cX9_date 200 = .ok (.getfield 260, 3) := by decide +kernel
theorem dX9_date_203 : decode cX9_date 203 = .ok (.if_icmp .le 6, 3) := by decide +kernel
theorem dX9_date_206 : decode cX9_date 206 = .ok (.goto 103, 3) := by decide +kernel
theorem dX9_date_209 : decode cX9_date 209 = .ok (.iload 8, 2) := by decide +kernel
theorem dX9_date_211 : decode cX9_date 211 = .ok (.istore 10, 2) := by decide +kernel
theorem dX9_date_213 : decode cX9_date 213 = .ok (.iload 10, 2) := by decide +kernel
theorem dX9_date_215 : decode cX9_date 215 = .ok (.iload 9, 2) := by decide +kernel
theorem dX9_date_217 : decode cX9_date 217 = .ok (.if_icmp .ge 92, 3) := by decide +kernel
theorem dX9_date_220 : decode cX9_date 220 = .ok (.iload_n 2, 1) := by decide +kernel
theorem dX9_date_221 : decode cX9_date 221 = .ok (.ifCond .le 88, 3) := by decide +kernel
theorem dX9_date_224 : decode cX9_date 224 = .ok (.aload_n 0, 1) := by decide +kernel
theorem dX9_date_225 : decode cX9_date 225 = .ok (.getfield 48, 3) := by decide +kernel
theorem dX9_date_228 : decode cX9_date 228 = .ok (.iload 10, 2) := by decide +kernel
theorem dX9_date_230 : decode cX9_date 230 = .ok (.iaload, 1) := by decide +kernel
theorem dX9_date_231 : decode cX9_date 231 = .ok (.iload 4, 2) := by decide +kernel
theorem dX9_date_233 : decode cX9_date 233 = .ok (.if_icmp .lt 70, 3) := by decide +kernel
theorem dX9_date_236 : decode cX9_date 236 = .ok (.aload_n 0, 1) := by decide +kernel
theorem dX9_date_237 : decode cX9_date 237 = .ok (.getfield 48, 3) := by decide +kernel
theorem dX9_date_240 : decode cX9_date 240 = .ok (.iload 10, 2) := by decide +kernel
theorem dX9_date_242 : decode cX9_date 242 = .ok (.iaload, 1) := by decide +kernel
theorem dX9_date_243 : decode cX9_date 243 = .ok (.aload_n 0, 1) := by decide +kernel
theorem dX9_date_244 : decode cX9_date 244 = .ok (.iload_n 1, 1) := by decide +kernel
theorem dX9_date_245 : decode cX9_date 245 = .ok (.bipush 7, 2) := by decide +kernel
theorem dX9_date_247 : decode cX9_date 247 = .ok (.invokevirtual 234, 3) := by decide +kernel
theorem dX9_date_250 : decode cX9_date 250 = .ok (.if_icmp .le 6, 3) := by decide +kernel
theorem dX9_date_253 : decode cX9_date 253 = .ok (.goto 50, 3) := by decide +kernel
theorem dX9_date_256 : decode cX9_date 256 = .ok (.iinc 2 (-1), 3) := by decide +kernel
theorem dX9_date_259 : decode cX9_date 259 = .ok (.aload_n 0, 1) := by decide +kernel
theorem dX9_date_260 : decode cX9_date 260 = .ok (.iload_n 1, 1) := by decide +kernel
theorem dX9_date_261 : decode cX9_date 261 = .ok (.aload_n 0, 1) := by decide +kernel
theorem dX9_date_262 : decode cX9_date 262 = .ok (.getfield 48, 3) := by decide +kernel
theorem dX9_date_265 : decode cX9_date 265 = .ok (.iload 10, 2) := by decide +kernel
theorem dX9_date_267 : decode cX9_date 267 = .ok (.iaload, 1) := by decide +kernel
theorem dX9_date_268 : decode cX9_date 268 = .ok (.invokevirtual 241, 3) := by decide +kernel
theorem dX9_date_271 : decode cX9_date 271 = .ok (.ifCond .eq 6, 3) := by decide +kernel
theorem dX9_date_274 : decode cX9_date 274 = .ok (.goto 29, 3) := by decide +kernel
theorem dX9_date_277 : decode cX9_date 277 = .ok (.aload_n 0, 1) := by decide +kernel
theorem dX9_date_278 : decode cX9_date 278 = .ok (.getfield 54, 3) := by decide +kernel
theorem dX9_date_281 : decode cX9_date 281 = .ok (.aload_n 0, 1) := by decide +kernel
theorem dX9_date_282 : decode cX9_date 282 = .ok (.getfield 247, 3) := by decide +kernel
theorem dX9_date_285 : decode cX9_date 285 = .ok (.aload_n 0, 1) := by decide +kernel
theorem dX9_date_286 : decode cX9_date 286 = .ok (.getfield 48, 3) := by decide +kernel
theorem dX9_date_289 : decode cX9_date 289 = .ok (.iload 10, 2) := by decide +kernel
theorem dX9_date_291 : decode cX9_date 291 = .ok (.iaload, 1) := by decide +kernel
theorem dX9_date_292 : decode cX9_date 292 = .ok (.iastore, 1) := by decide +kernel
theorem dX9_date_293 : decode cX9_date 293 = .ok (.aload_n 0, 1) := by decide +kernel
theorem dX9_date_294 : decode cX9_date 294 = .ok (.dup, 1) := by decide +kernel
theorem dX9_date_295 : decode cX9_date 295 = .ok (.getfield 247, 3) := by decide +kernel
theorem dX9_date_298 : decode cX9_date 298 = .ok (.iconst 1, 1) := by decide +kernel
theorem dX9_date_299 : decode cX9_date 299 = .ok (.iadd, 1) := by decide +kernel
theorem dX9_date_300 : decode cX9_date 300 = .ok (.putfield 247, 3) := by decide +kernel
theorem dX9_date_303 : decode cX9_date 303 = .ok (.iinc 10 1, 3) := by decide +kernel
theorem dX9_date_306 : decode cX9_date 306 = .ok (.goto (-93), 3) := by decide +kernel
theorem dX9_date_309 : decode cX9_date 309 = .ok (.iload 5, 2) := by decide +kernel
theorem dX9_date_311 : decode cX9_date 311 = .ok (.aload_n 0, 1) := by decide +kernel
theorem dX9_date_312 : decode cX9_date 312 = .ok (.iload_n 1, 1) := by decide +kernel
theorem dX9_date_313 : decode cX9_date 313 = .ok (.iconst 3, 1) := by decide +kernel
theorem dX9_date_314 : decode cX9_date 314 = .ok (.invokevirtual 234, 3) := by decide +kernel
theorem dX9_date_317 : decode cX9_date 317 = .ok (.iadd, 1) := by decide +kernel
theorem dX9_date_318 : decode cX9_date 318 = .ok (.istore 5, 2) := by decide +kernel
theorem dX9_date_320 : decode cX9_date 320 = .ok (.goto (-269), 3) := by decide +kernel
theorem dX9_date_323 : decode cX9_date 323 = .ok (.return_, 1) := by decide +kernel
theorem dX9_dates_0 : decode cX9_dates 0 = .ok (.aload_n 0, 1) := by decide +kernel
theorem dX9_dates_1 : decode cX9_dates 1 = .ok (.iconst 0, 1) := by decide +kernel
theorem dX9_dates_2 : decode cX9_dates 2 = .ok (.putfield 87, 3) := by decide +kernel
theorem dX9_dates_5 : decode cX9_dates 5 = .ok (.aload_n 0, 1) := by decide +kernel
theorem dX9_dates_6 : decode cX9_dates 6 = .ok (.iload_n 1, 1) := by decide +kernel
theorem dX9_dates_7 : decode cX9_dates 7 = .ok (.invokevirtual 231, 3) := by decide +kernel
theorem dX9_dates_10 : decode cX9_dates 10 = .ok (.ifCond .eq 12, 3) := by decide +kernel
theorem dX9_dates_13 : decode cX9_dates 13 = .ok (.aload_n 0, 1) := by decide +kernel
theorem dX9_dates_14 : decode cX9_dates 14 = .ok (.iload_n 1, 1) := by decide +kernel
theorem dX9_dates_15 : decode cX9_dates 15 = .ok (.invokevirtual 266, 3) := by decide +kernel
theorem dX9_dates_18 : decode cX9_dates 18 = .ok (.arraylength, 1) := by decide +kernel
theorem dX9_dates_19 : decode cX9_dates 19 = .ok (.goto 8, 3) := by decide +kernel
theorem dX9_dates_22 : decode cX9_dates 22 = .ok (.aload_n 0, 1) := by decide +kernel
theorem dX9_dates_23 : decode cX9_dates 23 = .ok (.iconst 1, 1) := by decide +kernel
theorem dX9_dates_24 : decode cX9_dates 24 = .ok (.invokevirtual 123, 3) := by decide +kernel
theorem dX9_dates_27 : decode cX9_dates 27 = .ok (.ireturn, 1) := by decide +kernel
theorem dX9_hasDate_0 : decode cX9_hasDate 0 = .ok (.aload_n 0, 1) := by decide +kernel
theorem dX9_hasDate_1 : decode cX9_hasDate 1 = .ok (.iload_n 1, 1) := by decide +kernel
theorem dX9_hasDate_2 : decode cX9_hasDate 2 = .ok (.invokevirtual 231, 3) := by decide +kernel
theorem dX9_hasDate_5 : decode cX9_hasDate 5 = .ok (.ifCond .eq 23, 3) := by decide +kernel
theorem dX9_hasDate_8 : decode cX9_hasDate 8 = .ok (.iload_n 2, 1) := by decide +kernel
theorem dX9_hasDate_9 : decode cX9_hasDate 9 = .ok (.iconst 0, 1) := by decide +kernel
theorem dX9_hasDate_10 : decode cX9_hasDate 10 = .ok (.aload_n 0, 1) := by decide +kernel
theorem dX9_hasDate_11 : decode cX9_hasDate 11 = .ok (.iload_n 1, 1) := by decide +kernel
theorem dX9_hasDate_12 : decode cX9_hasDate 12 = .ok (.invokevirtual 266, 3) := by decide +kernel
theorem dX9_hasDate_15 : decode cX9_hasDate 15 = .ok (.arraylength, 1) := by decide +kernel
theorem dX9_hasDate_16 : decode cX9_hasDate 16 = .ok (.iconst 1, 1) := by decide +kernel
theorem dX9_hasDate_17 : decode cX9_hasDate 17 = .ok (.isub, 1) := by decide +kernel
theorem dX9_hasDate_18 : decode cX9_hasDate 18 = .ok (.invokestatic 91, 3) := by decide +kernel
theorem dX9_hasDate_21 : decode cX9_hasDate 21 = .ok (.ifCond .eq 7, 3) := by decide +kernel
theorem dX9_hasDate_24 : decode cX9_hasDate 24 = .ok (.iconst 1, 1) := by decide +kernel
theorem dX9_hasDate_25 : decode cX9_hasDate 25 = .ok (.goto 4, 3) := by decide +kernel
theorem dX9_hasDate_28 : decode cX9_hasDate 28 = .ok (.iconst 0, 1) := by decide +kernel
theorem dX9_hasDate_29 : decode cX9_hasDate 29 = .ok (.ireturn, 1) := by decide +kernel
theorem dX9_dateAt_0 : decode cX9_dateAt 0 = .ok (.aload_n 0, 1) := by decide +kernel
theorem dX9_dateAt_1 : decode cX9_dateAt 1 = .ok (.iconst 0, 1) := by decide +kernel
theorem dX9_dateAt_2 : decode cX9_dateAt 2 = .ok (.putfield 87, 3) := by decide +kernel
theorem dX9_dateAt_5 : decode cX9_dateAt 5 = .ok (.aload_n 0, 1) := by decide +kernel
theorem dX9_dateAt_6 : decode cX9_dateAt 6 = .ok (.iload_n 1, 1) := by decide +kernel
theorem dX9_dateAt_7 : decode cX9_dateAt 7 = .ok (.iload_n 2, 1) := by decide +kernel
theorem dX9_dateAt_8 : decode cX9_dateAt 8 = .ok (.invokevirtual 269, 3) := by decide +kernel
theorem dX9_dateAt_11 : decode cX9_dateAt 11 = .ok (.ifCond .eq 13, 3) := by decide +kernel
theorem dX9_dateAt_14 : decode cX9_dateAt 14 = .ok (.aload_n 0, 1) := by decide +kernel
theorem dX9_dateAt_15 : decode cX9_dateAt 15 = .ok (.iload_n 1, 1) := by decide +kernel
theorem dX9_dateAt_16 : decode cX9_dateAt 16 = .ok (.invokevirtual 266, 3) := by decide +kernel
theorem dX9_dateAt_19 : decode cX9_dateAt 19 = .ok (.iload_n 2, 1) := by decide +kernel
theorem dX9_dateAt_20 : decode cX9_dateAt 20 = .ok (.iaload, 1) := by decide +kernel
theorem dX9_dateAt_21 : decode cX9_dateAt 21 = .ok (.goto 8, 3) := by decide +kernel
theorem dX9_dateAt_24 : decode cX9_dateAt 24 = .ok (.aload_n 0, 1) := by decide +kernel
theorem dX9_dateAt_25 : decode cX9_dateAt 25 = .ok (.iconst 1, 1) := by decide +kernel
theorem dX9_dateAt_26 : decode cX9_dateAt 26 = .ok (.invokevirtual 123, 3) := by decide +kernel
theorem dX9_dateAt_29 : decode cX9_dateAt 29 = .ok (.ireturn, 1) := by decide +kernel
theorem dX9_dateFrom_0 : decode cX9_dateFrom 0 = .ok (.aload_n 0, 1) := by decide +kernel
theorem dX9_dateFrom_1 : decode cX9_dateFrom 1 = .ok (.iconst 0, 1) := by decide +kernel
theorem dX9_dateFrom_2 : decode cX9_dateFrom 2 = .ok (.putfield 87, 3) := by decide +kernel
theorem dX9_dateFrom_5 : decode cX9_dateFrom 5 = .ok (.aload_n 0, 1) := by decide +kernel
theorem dX9_dateFrom_6 : decode cX9_dateFrom 6 = .ok (.iload_n 1, 1) := by decide +kernel
theorem dX9_dateFrom_7 : decode cX9_dateFrom 7 = .ok (.invokevirtual 231, 3) := by decide +kernel
theorem dX9_dateFrom_10 : decode cX9_dateFrom 10 = .ok (.ifCond .eq 10, 3) := by decide +kernel
theorem dX9_dateFrom_13 : decode cX9_dateFrom 13 = .ok (.iload_n 2, 1) := by decide +kernel
theorem dX9_dateFrom_14 : decode cX9_dateFrom 14 = .ok (.invokestatic 126, 3) := by decide +kernel
theorem dX9_dateFrom_17 : decode cX9_dateFrom 17 = .ok (.ifCond .ne 9, 3) := by decide +kernel
theorem dX9_dateFrom_20 : decode cX9_dateFrom 20 = .ok (.aload_n 0, 1) := by decide +kernel
theorem dX9_dateFrom_21 : decode cX9_dateFrom 21 = .ok (.iconst 1, 1) := by decide +kernel
theorem dX9_dateFrom_22 : decode cX9_dateFrom 22 = .ok (.invokevirtual 123, 3) := by decide +kernel
theorem dX9_dateFrom_25 : decode cX9_dateFrom 25 = .ok (.ireturn, 1) := by decide +kernel
theorem dX9_dateFrom_26 : decode cX9_dateFrom 26 = .ok (.aload_n 0, 1) := by decide +kernel
theorem dX9_dateFrom_27 : decode cX9_dateFrom 27 = .ok (.iload_n 1, 1) := by decide +kernel
theorem dX9_dateFrom_28 : decode cX9_dateFrom 28 = .ok (.invokevirtual 266, 3) := by decide +kernel
theorem dX9_dateFrom_31 : decode cX9_dateFrom 31 = .ok (.astore_n 3, 1) := by decide +kernel
theorem dX9_dateFrom_32 : decode cX9_dateFrom 32 = .ok (.iconst 0, 1) := by decide +kernel
theorem dX9_dateFrom_33 : decode cX9_dateFrom 33 = .ok (.istore 4, 2) := by decide +kernel
theorem dX9_dateFrom_35 : decode cX9_dateFrom 35 = .ok (.iload 4, 2) := by decide +kernel
theorem dX9_dateFrom_37 : decode cX9_dateFrom 37 = .ok (.aload_n 3, 1) := by decide +kernel
theorem dX9_dateFrom_38 : decode cX9_dateFrom 38 = .ok (.arraylength, 1) := by decide +kernel
theorem dX9_dateFrom_39 : decode cX9_dateFrom 39 = .ok (.if_icmp .ge 17, 3) := by decide +kernel
theorem dX9_dateFrom_42 : decode cX9_dateFrom 42 = .ok (.aload_n 3, 1) := by decide +kernel
theorem dX9_dateFrom_43 : decode cX9_dateFrom 43 = .ok (.iload 4, 2) := by decide +kernel
theorem dX9_dateFrom_45 : decode cX9_dateFrom 45 = .ok (.iaload, 1) := by decide +kernel
theorem dX9_dateFrom_46 : decode cX9_dateFrom 46 = .ok (.iload_n 2, 1) := by decide +kernel
theorem dX9_dateFrom_47 : decode cX9_dateFrom 47 = .ok (.if_icmp .ge 9, 3) := by decide +kernel
theorem dX9_dateFrom_50 : decode cX9_dateFrom 50 = .ok (.iinc 4 1, 3) := by decide +kernel
theorem dX9_dateFrom_53 : decode cX9_dateFrom 53 = .ok (.goto (-18), 3) := by decide +kernel
theorem dX9_dateFrom_56 : decode cX9_dateFrom 56 = .ok (.iload 4, 2) := by decide +kernel
theorem dX9_dateFrom_58 : decode cX9_dateFrom 58 = .ok (.aload_n 3, 1) := by decide +kernel
theorem dX9_dateFrom_59 : decode cX9_dateFrom 59 = .ok (.arraylength, 1) := by decide +kernel
theorem dX9_dateFrom_60 : decode cX9_dateFrom 60 = .ok (.if_icmp .ge 8, 3) := by decide +kernel
theorem dX9_dateFrom_63 : decode cX9_dateFrom 63 = .ok (.iload 4, 2) := by decide +kernel
theorem dX9_dateFrom_65 : decode cX9_dateFrom 65 = .ok (.goto 4, 3) := by decide +kernel
theorem dX9_dateFrom_68 : decode cX9_dateFrom 68 = .ok (.iconst (-1), 1) := by decide +kernel
theorem dX9_dateFrom_69 : decode cX9_dateFrom 69 = .ok (.ireturn, 1) := by decide +kernel
theorem dX9_momentOfDate_0 : decode cX9_momentOfDate 0 = .ok (.aload_n 0, 1) := by decide +kernel
theorem dX9_momentOfDate_1 : decode cX9_momentOfDate 1 = .ok (.aload_n 0, 1) := by decide +kernel
theorem dX9_momentOfDate_2 : decode cX9_momentOfDate 2 = .ok (.iload_n 1, 1) := by decide +kernel
theorem dX9_momentOfDate_3 : decode cX9_momentOfDate 3 = .ok (.iconst 0, 1) := by decide +kernel
theorem dX9_momentOfDate_4 : decode cX9_momentOfDate 4 = .ok (.invokevirtual 234, 3) := by decide +kernel
theorem dX9_momentOfDate_7 : decode cX9_momentOfDate 7 = .ok (.sipush 1440, 3) := by decide +kernel
theorem dX9_momentOfDate_10 : decode cX9_momentOfDate 10 = .ok (.iload_n 2, 1) := by decide +kernel
theorem dX9_momentOfDate_11 : decode cX9_momentOfDate 11 = .ok (.imul, 1) := by decide +kernel
theorem dX9_momentOfDate_12 : decode cX9_momentOfDate 12 = .ok (.aload_n 0, 1) := by decide +kernel
theorem dX9_momentOfDate_13 : decode cX9_momentOfDate 13 = .ok (.iload_n 1, 1) := by decide +kernel
theorem dX9_momentOfDate_14 : decode cX9_momentOfDate 14 = .ok (.iconst 1, 1) := by decide +kernel
theorem dX9_momentOfDate_15 : decode cX9_momentOfDate 15 = .ok (.invokevirtual 234, 3) := by decide +kernel
theorem dX9_momentOfDate_18 : decode cX9_momentOfDate 18 = .ok (.sipush 1440, 3) := by decide +kernel
theorem dX9_momentOfDate_21 : decode cX9_momentOfDate 21 = .ok (.irem, 1) := by decide +kernel
theorem dX9_momentOfDate_22 : decode cX9_momentOfDate 22 = .ok (.iadd, 1) := by decide +kernel
theorem dX9_momentOfDate_23 : decode cX9_momentOfDate 23 = .ok (.invokevirtual 225, 3) := by decide +kernel
theorem dX9_momentOfDate_26 : decode cX9_momentOfDate 26 = .ok (.ireturn, 1) := by decide +kernel
theorem dX9_dateMoment_0 : decode cX9_dateMoment 0 = .ok (.aload_n 0, 1) := by decide +kernel
theorem dX9_dateMoment_1 : decode cX9_dateMoment 1 = .ok (.iconst 0, 1) := by decide +kernel
theorem dX9_dateMoment_2 : decode cX9_dateMoment 2 = .ok (.putfield 87, 3) := by decide +kernel
theorem dX9_dateMoment_5 : decode cX9_dateMoment 5 = .ok (.aload_n 0, 1) := by decide +kernel
theorem dX9_dateMoment_6 : decode cX9_dateMoment 6 = .ok (.iload_n 1, 1) := by decide +kernel
theorem dX9_dateMoment_7 : decode cX9_dateMoment 7 = .ok (.iload_n 2, 1) := by decide +kernel
theorem dX9_dateMoment_8 : decode cX9_dateMoment 8 = .ok (.invokevirtual 269, 3) := by decide +kernel
theorem dX9_dateMoment_11 : decode cX9_dateMoment 11 = .ok (.ifCond .eq 18, 3) := by decide +kernel
theorem dX9_dateMoment_14 : decode cX9_dateMoment 14 = .ok (.aload_n 0, 1) := by decide +kernel
theorem dX9_dateMoment_15 : decode cX9_dateMoment 15 = .ok (.iload_n 1, 1) := by decide +kernel
theorem dX9_dateMoment_16 : decode cX9_dateMoment 16 = .ok (.aload_n 0, 1) := by decide +kernel
theorem dX9_dateMoment_17 : decode cX9_dateMoment 17 = .ok (.iload_n 1, 1) := by decide +kernel
theorem dX9_dateMoment_18 : decode cX9_dateMoment 18 = .ok (.invokevirtual 266, 3) := by decide +kernel
theorem dX9_dateMoment_21 : decode cX9_dateMoment 21 = .ok (.iload_n 2, 1) := by decide +kernel
theorem dX9_dateMoment_22 : decode cX9_dateMoment 22 = .ok (.iaload, 1) := by decide +kernel
theorem dX9_dateMoment_23 : decode cX9_dateMoment 23 = .ok (.invokevirtual 272, 3) := by decide +kernel
theorem dX9_dateMoment_26 : decode cX9_dateMoment 26 = .ok (.goto 8, 3) := by decide +kernel
theorem dX9_dateMoment_29 : decode cX9_dateMoment 29 = .ok (.aload_n 0, 1) := by decide +kernel
theorem dX9_dateMoment_30 : decode cX9_dateMoment 30 = .ok (.iconst 1, 1) := by decide +kernel
theorem dX9_dateMoment_31 : decode cX9_dateMoment 31 = .ok (.invokevirtual 123, 3) := by decide +kernel
theorem dX9_dateMoment_34 : decode cX9_dateMoment 34 = .ok (.ireturn, 1) := by decide +kernel
theorem dX9_shared_0 : decode cX9_shared 0 = .ok (.aload_n 0, 1) := by decide +kernel
theorem dX9_shared_1 : decode cX9_shared 1 = .ok (.iload_n 1, 1) := by decide +kernel
theorem dX9_shared_2 : decode cX9_shared 2 = .ok (.invokevirtual 266, 3) := by decide +kernel
theorem dX9_shared_5 : decode cX9_shared 5 = .ok (.astore_n 3, 1) := by decide +kernel
theorem dX9_shared_6 : decode cX9_shared 6 = .ok (.aload_n 0, 1) := by decide +kernel
theorem dX9_shared_7 : decode cX9_shared 7 = .ok (.iload_n 2, 1) := by decide +kernel
theorem dX9_shared_8 : decode cX9_shared 8 = .ok (.invokevirtual 266, 3) := by decide +kernel
theorem dX9_shared_11 : decode cX9_shared 11 = .ok (.astore 4, 2) := by decide +kernel
theorem dX9_shared_13 : decode cX9_shared 13 = .ok (.iconst 0, 1) := by decide +kernel
theorem dX9_shared_14 : decode cX9_shared 14 = .ok (.istore 5, 2) := by decide +kernel
theorem dX9_shared_16 : decode cX9_shared 16 = .ok (.iconst 0, 1) := by decide +kernel
theorem dX9_shared_17 : decode cX9_shared 17 = .ok (.istore 6, 2) := by decide +kernel
theorem dX9_shared_19 : decode cX9_shared 19 = .ok (.aload_n 3, 1) := by decide +kernel
theorem dX9_shared_20 : decode cX9_shared 20 = .ok (.astore 7, 2) := by decide +kernel
theorem dX9_shared_22 : decode cX9_shared 22 = .ok (.aload 7, 2) := by decide +kernel
theorem dX9_shared_24 : decode cX9_shared 24 = .ok (.arraylength, 1) := by decide +kernel
theorem dX9_shared_25 : decode cX9_shared 25 = .ok (.istore 8, 2) := by decide +kernel
theorem dX9_shared_27 : decode cX9_shared 27 = .ok (.iconst 0, 1) := by decide +kernel
theorem dX9_shared_28 : decode cX9_shared 28 = .ok (.istore 9, 2) := by decide +kernel
theorem dX9_shared_30 : decode cX9_shared 30 = .ok (.iload 9, 2) := by decide +kernel
theorem dX9_shared_32 : decode cX9_shared 32 = .ok (.iload 8, 2) := by decide +kernel
theorem dX9_shared_34 : decode cX9_shared 34 = .ok (.if_icmp .ge 68, 3) := by decide +kernel
theorem dX9_shared_37 : decode cX9_shared 37 = .ok (.aload 7, 2) := by decide +kernel
theorem dX9_shared_39 : decode cX9_shared 39 = .ok (.iload 9, 2) := by decide +kernel
theorem dX9_shared_41 : decode cX9_shared 41 = .ok (.iaload, 1) := by decide +kernel
theorem dX9_shared_42 : decode cX9_shared 42 = .ok (.istore 10, 2) := by decide +kernel
theorem dX9_shared_44 : decode cX9_shared 44 = .ok (.iload 6, 2) := by decide +kernel
theorem dX9_shared_46 : decode cX9_shared 46 = .ok (.aload 4, 2) := by decide +kernel
theorem dX9_shared_48 : decode cX9_shared 48 = .ok (.arraylength, 1) := by decide +kernel
theorem dX9_shared_49 : decode cX9_shared 49 = .ok (.if_icmp .ge 19, 3) := by decide +kernel
theorem dX9_shared_52 : decode cX9_shared 52 = .ok (.aload 4, 2) := by decide +kernel
theorem dX9_shared_54 : decode cX9_shared 54 = .ok (.iload 6, 2) := by decide +kernel
theorem dX9_shared_56 : decode cX9_shared 56 = .ok (.iaload, 1) := by decide +kernel
theorem dX9_shared_57 : decode cX9_shared 57 = .ok (.iload 10, 2) := by decide +kernel
theorem dX9_shared_59 : decode cX9_shared 59 = .ok (.if_icmp .ge 9, 3) := by decide +kernel
theorem dX9_shared_62 : decode cX9_shared 62 = .ok (.iinc 6 1, 3) := by decide +kernel
theorem dX9_shared_65 : decode cX9_shared 65 = .ok (.goto (-21), 3) := by decide +kernel
theorem dX9_shared_68 : decode cX9_shared 68 = .ok (.iload 5, 2) := by decide +kernel
theorem dX9_shared_70 : decode cX9_shared 70 = .ok (.iload 6, 2) := by decide +kernel
theorem dX9_shared_72 : decode cX9_shared 72 = .ok (.aload 4, 2) := by decide +kernel
theorem dX9_shared_74 : decode cX9_shared 74 = .ok (.arraylength, 1) := by decide +kernel
theorem dX9_shared_75 : decode cX9_shared 75 = .ok (.if_icmp .ge 17, 3) := by decide +kernel
theorem dX9_shared_78 : decode cX9_shared 78 = .ok (.aload 4, 2) := by decide +kernel
theorem dX9_shared_80 : decode cX9_shared 80 = .ok (.iload 6, 2) := by decide +kernel
theorem dX9_shared_82 : decode cX9_shared 82 = .ok (.iaload, 1) := by decide +kernel
theorem dX9_shared_83 : decode cX9_shared 83 = .ok (.iload 10, 2) := by decide +kernel
theorem dX9_shared_85 : decode cX9_shared 85 = .ok (.if_icmp .ne 7, 3) := by decide +kernel
theorem dX9_shared_88 : decode cX9_shared 88 = .ok (.iconst 1, 1) := by decide +kernel
theorem dX9_shared_89 : decode cX9_shared 89 = .ok (.goto 4, 3) := by decide +kernel
theorem dX9_shared_92 : decode cX9_shared 92 = .ok (.iconst 0, 1) := by decide +kernel
theorem dX9_shared_93 : decode cX9_shared 93 = .ok (.iadd, 1) := by decide +kernel
theorem dX9_shared_94 : decode cX9_shared 94 = .ok (.istore 5, 2) := by decide +kernel
theorem dX9_shared_96 : decode cX9_shared 96 = .ok (.iinc 9 1, 3) := by decide +kernel
theorem dX9_shared_99 : decode cX9_shared 99 = .ok (.goto (-69), 3) := by decide +kernel
theorem dX9_shared_102 : decode cX9_shared 102 = .ok (.iload 5, 2) := by decide +kernel
theorem dX9_shared_104 : decode cX9_shared 104 = .ok (.ireturn, 1) := by decide +kernel
theorem dX9_common_0 : decode cX9_common 0 = .ok (.aload_n 0, 1) := by decide +kernel
theorem dX9_common_1 : decode cX9_common 1 = .ok (.iconst 0, 1) := by decide +kernel
theorem dX9_common_2 : decode cX9_common 2 = .ok (.putfield 87, 3) := by decide +kernel
theorem dX9_common_5 : decode cX9_common 5 = .ok (.aload_n 0, 1) := by decide +kernel
theorem dX9_common_6 : decode cX9_common 6 = .ok (.iload_n 1, 1) := by decide +kernel
theorem dX9_common_7 : decode cX9_common 7 = .ok (.invokevirtual 231, 3) := by decide +kernel
theorem dX9_common_10 : decode cX9_common 10 = .ok (.ifCond .eq 20, 3) := by decide +kernel
theorem dX9_common_13 : decode cX9_common 13 = .ok (.aload_n 0, 1) := by decide +kernel
theorem dX9_common_14 : decode cX9_common 14 = .ok (.iload_n 2, 1) := by decide +kernel
theorem dX9_common_15 : decode cX9_common 15 = .ok (.invokevirtual 231, 3) := by decide +kernel
theorem dX9_common_18 : decode cX9_common 18 = .ok (.ifCond .eq 12, 3) := by decide +kernel
theorem dX9_common_21 : decode cX9_common 21 = .ok (.aload_n 0, 1) := by decide +kernel
theorem dX9_common_22 : decode cX9_common 22 = .ok (.iload_n 1, 1) := by decide +kernel
theorem dX9_common_23 : decode cX9_common 23 = .ok (.iload_n 2, 1) := by decide +kernel
theorem dX9_common_24 : decode cX9_common 24 = .ok (.invokevirtual 275, 3) := by decide +kernel
theorem dX9_common_27 : decode cX9_common 27 = .ok (.goto 8, 3) := by decide +kernel
theorem dX9_common_30 : decode cX9_common 30 = .ok (.aload_n 0, 1) := by decide +kernel
theorem dX9_common_31 : decode cX9_common 31 = .ok (.iconst 1, 1) := by decide +kernel
theorem dX9_common_32 : decode cX9_common 32 = .ok (.invokevirtual 123, 3) := by decide +kernel
theorem dX9_common_35 : decode cX9_common 35 = .ok (.ireturn, 1) := by decide +kernel
theorem dX9_widest_0 : decode cX9_widest 0 = .ok (.aload_n 0, 1) := by decide +kernel
theorem dX9_widest_1 : decode cX9_widest 1 = .ok (.iload_n 1, 1) := by decide +kernel
theorem dX9_widest_2 : decode cX9_widest 2 = .ok (.invokevirtual 266, 3) := by decide +kernel
theorem dX9_widest_5 : decode cX9_widest 5 = .ok (.astore_n 2, 1) := by decide +kernel
theorem dX9_widest_6 : decode cX9_widest 6 = .ok (.iconst 0, 1) := by decide +kernel
theorem dX9_widest_7 : decode cX9_widest 7 = .ok (.istore_n 3, 1) := by decide +kernel
theorem dX9_widest_8 : decode cX9_widest 8 = .ok (.iconst 1, 1) := by decide +kernel
theorem dX9_widest_9 : decode cX9_widest 9 = .ok (.istore 4, 2) := by decide +kernel
theorem dX9_widest_11 : decode cX9_widest 11 = .ok (.iload 4, 2) := by decide +kernel
theorem dX9_widest_13 : decode cX9_widest 13 = .ok (.aload_n 2, 1) := by decide +kernel
theorem dX9_widest_14 : decode cX9_widest 14 = .ok (.arraylength, 1) := by decide +kernel
theorem dX9_widest_15 : decode cX9_widest 15 = .ok (.if_icmp .ge 25, 3) := by decide +kernel
theorem dX9_widest_18 : decode cX9_widest 18 = .ok (.iload_n 3, 1) := by decide +kernel
theorem dX9_widest_19 : decode cX9_widest 19 = .ok (.aload_n 2, 1) := by decide +kernel
theorem dX9_widest_20 : decode cX9_widest 20 = .ok (.iload 4, 2) := by decide +kernel
theorem dX9_widest_22 : decode cX9_widest 22 = .ok (.iaload, 1) := by decide +kernel
theorem dX9_widest_23 : decode cX9_widest 23 = .ok (.aload_n 2, 1) := by decide +kernel
theorem dX9_widest_24 : decode cX9_widest 24 = .ok (.iload 4, 2) := by decide +kernel
theorem dX9_widest_26 : decode cX9_widest 26 = .ok (.iconst 1, 1) := by decide +kernel
theorem dX9_widest_27 : decode cX9_widest 27 = .ok (.isub, 1) := by decide +kernel
theorem dX9_widest_28 : decode cX9_widest 28 = .ok (.iaload, 1) := by decide +kernel
theorem dX9_widest_29 : decode cX9_widest 29 = .ok (.isub, 1) := by decide +kernel
theorem dX9_widest_30 : decode cX9_widest 30 = .ok (.invokestatic 182, 3) := by decide +kernel
theorem dX9_widest_33 : decode cX9_widest 33 = .ok (.istore_n 3, 1) := by decide +kernel
theorem dX9_widest_34 : decode cX9_widest 34 = .ok (.iinc 4 1, 3) := by decide +kernel
theorem dX9_widest_37 : decode cX9_widest 37 = .ok (.goto (-26), 3) := by decide +kernel
theorem dX9_widest_40 : decode cX9_widest 40 = .ok (.iload_n 3, 1) := by decide +kernel
theorem dX9_widest_41 : decode cX9_widest 41 = .ok (.ireturn, 1) := by decide +kernel
theorem dX9_widestGap_0 : decode cX9_widestGap 0 = .ok (.aload_n 0, 1) := by decide +kernel
theorem dX9_widestGap_1 : decode cX9_widestGap 1 = .ok (.iconst 0, 1) := by decide +kernel
theorem dX9_widestGap_2 : decode cX9_widestGap 2 = .ok (.putfield 87, 3) := by decide +kernel
theorem dX9_widestGap_5 : decode cX9_widestGap 5 = .ok (.aload_n 0, 1) := by decide +kernel
theorem dX9_widestGap_6 : decode cX9_widestGap 6 = .ok (.iload_n 1, 1) := by decide +kernel
theorem dX9_widestGap_7 : decode cX9_widestGap 7 = .ok (.invokevirtual 231, 3) := by decide +kernel
theorem dX9_widestGap_10 : decode cX9_widestGap 10 = .ok (.ifCond .eq 11, 3) := by decide +kernel
theorem dX9_widestGap_13 : decode cX9_widestGap 13 = .ok (.aload_n 0, 1) := by decide +kernel
theorem dX9_widestGap_14 : decode cX9_widestGap 14 = .ok (.iload_n 1, 1) := by decide +kernel
theorem dX9_widestGap_15 : decode cX9_widestGap 15 = .ok (.invokevirtual 278, 3) := by decide +kernel
theorem dX9_widestGap_18 : decode cX9_widestGap 18 = .ok (.goto 8, 3) := by decide +kernel
theorem dX9_widestGap_21 : decode cX9_widestGap 21 = .ok (.aload_n 0, 1) := by decide +kernel
theorem dX9_widestGap_22 : decode cX9_widestGap 22 = .ok (.iconst 1, 1) := by decide +kernel
theorem dX9_widestGap_23 : decode cX9_widestGap 23 = .ok (.invokevirtual 123, 3) := by decide +kernel
theorem dX9_widestGap_26 : decode cX9_widestGap 26 = .ok (.ireturn, 1) := by decide +kernel
theorem dX9_setWorkPlace_0 : decode cX9_setWorkPlace 0 = .ok (.aload_n 0, 1) := by decide +kernel
theorem dX9_setWorkPlace_1 : decode cX9_setWorkPlace 1 = .ok (.iconst 0, 1) := by decide +kernel
theorem dX9_setWorkPlace_2 : decode cX9_setWorkPlace 2 = .ok (.putfield 87, 3) := by decide +kernel
theorem dX9_setWorkPlace_5 : decode cX9_setWorkPlace 5 = .ok (.aload_n 0, 1) := by decide +kernel
theorem dX9_setWorkPlace_6 : decode cX9_setWorkPlace 6 = .ok (.iload_n 1, 1) := by decide +kernel
theorem dX9_setWorkPlace_7 : decode cX9_setWorkPlace 7 = .ok (.invokevirtual 161, 3) := by decide +kernel
theorem dX9_setWorkPlace_10 : decode cX9_setWorkPlace 10 = .ok (.ifCond .ne 9, 3) := by decide +kernel
theorem dX9_setWorkPlace_13 : decode cX9_setWorkPlace 13 = .ok (.aload_n 0, 1) := by decide +kernel
theorem dX9_setWorkPlace_14 : decode cX9_setWorkPlace 14 = .ok (.iconst 1, 1) := by decide +kernel
theorem dX9_setWorkPlace_15 : decode cX9_setWorkPlace 15 = .ok (.invokevirtual 123, 3) := by decide +kernel
theorem dX9_setWorkPlace_18 : decode cX9_setWorkPlace 18 = .ok (.ireturn, 1) := by decide +kernel
theorem dX9_setWorkPlace_19 : decode cX9_setWorkPlace 19 = .ok (.aload_n 0, 1) := by decide +kernel
theorem dX9_setWorkPlace_20 : decode cX9_setWorkPlace 20 = .ok (.getfield 57, 3) := by decide +kernel
theorem dX9_setWorkPlace_23 : decode cX9_setWorkPlace 23 = .ok (.istore_n 2, 1) := by decide +kernel
theorem dX9_setWorkPlace_24 : decode cX9_setWorkPlace 24 = .ok (.aload_n 0, 1) := by decide +kernel
theorem dX9_setWorkPlace_25 : decode cX9_setWorkPlace 25 = .ok (.iload_n 1, 1) := by decide +kernel
theorem dX9_setWorkPlace_26 : decode cX9_setWorkPlace 26 = .ok (.putfield 57, 3) := by decide +kernel
theorem dX9_setWorkPlace_29 : decode cX9_setWorkPlace 29 = .ok (.iload_n 2, 1) := by decide +kernel
theorem dX9_setWorkPlace_30 : decode cX9_setWorkPlace 30 = .ok (.ireturn, 1) := by decide +kernel
theorem dX9_setWeek_0 : decode cX9_setWeek 0 = .ok (.aload_n 0, 1) := by decide +kernel
theorem dX9_setWeek_1 : decode cX9_setWeek 1 = .ok (.iconst 0, 1) := by decide +kernel
theorem dX9_setWeek_2 : decode cX9_setWeek 2 = .ok (.putfield 87, 3) := by decide +kernel
theorem dX9_setWeek_5 : decode cX9_setWeek 5 = .ok (.iload_n 1, 1) := by decide +kernel
theorem dX9_setWeek_6 : decode cX9_setWeek 6 = .ok (.iconst 1, 1) := by decide +kernel
theorem dX9_setWeek_7 : decode cX9_setWeek 7 = .ok (.bipush 127, 2) := by decide +kernel
theorem dX9_setWeek_9 : decode cX9_setWeek 9 = .ok (.invokestatic 91, 3) := by decide +kernel
theorem dX9_setWeek_12 : decode cX9_setWeek 12 = .ok (.ifCond .ne 9, 3) := by decide +kernel
theorem dX9_setWeek_15 : decode cX9_setWeek 15 = .ok (.aload_n 0, 1) := by decide +kernel
theorem dX9_setWeek_16 : decode cX9_setWeek 16 = .ok (.iconst 1, 1) := by decide +kernel
theorem dX9_setWeek_17 : decode cX9_setWeek 17 = .ok (.invokevirtual 123, 3) := by decide +kernel
theorem dX9_setWeek_20 : decode cX9_setWeek 20 = .ok (.ireturn, 1) := by decide +kernel
theorem dX9_setWeek_21 : decode cX9_setWeek 21 = .ok (.aload_n 0, 1) := by decide +kernel
theorem dX9_setWeek_22 : decode cX9_setWeek 22 = .ok (.getfield 61, 3) := by decide +kernel
theorem dX9_setWeek_25 : decode cX9_setWeek 25 = .ok (.istore_n 2, 1) := by decide +kernel
theorem dX9_setWeek_26 : decode cX9_setWeek 26 = .ok (.aload_n 0, 1) := by decide +kernel
theorem dX9_setWeek_27 : decode cX9_setWeek 27 = .ok (.iload_n 1, 1) := by decide +kernel
theorem dX9_setWeek_28 : decode cX9_setWeek 28 = .ok (.putfield 61, 3) := by decide +kernel
theorem dX9_setWeek_31 : decode cX9_setWeek 31 = .ok (.aload_n 0, 1) := by decide +kernel
theorem dX9_setWeek_32 : decode cX9_setWeek 32 = .ok (.iconst 0, 1) := by decide +kernel
theorem dX9_setWeek_33 : decode cX9_setWeek 33 = .ok (.putfield 281, 3) := by decide +kernel
theorem dX9_setWeek_36 : decode cX9_setWeek 36 = .ok (.iload_n 2, 1) := by decide +kernel
theorem dX9_setWeek_37 : decode cX9_setWeek 37 = .ok (.ireturn, 1) := by decide +kernel
theorem dX9_setHours_0 : decode cX9_setHours 0 = .ok (.aload_n 0, 1) := by decide +kernel
theorem dX9_setHours_1 : decode cX9_setHours 1 = .ok (.iconst 0, 1) := by decide +kernel
theorem dX9_setHours_2 : decode cX9_setHours 2 = .ok (.putfield 87, 3) := by decide +kernel
theorem dX9_setHours_5 : decode cX9_setHours 5 = .ok (.iload_n 1, 1) := by decide +kernel
theorem dX9_setHours_6 : decode cX9_setHours 6 = .ok (.iconst 0, 1) := by decide +kernel
theorem dX9_setHours_7 : decode cX9_setHours 7 = .ok (.sipush 1439, 3) := by decide +kernel
theorem dX9_setHours_10 : decode cX9_setHours 10 = .ok (.invokestatic 91, 3) := by decide +kernel
theorem dX9_setHours_13 : decode cX9_setHours 13 = .ok (.ifCond .eq 16, 3) := by decide +kernel
theorem dX9_setHours_16 : decode cX9_setHours 16 = .ok (.iload_n 2, 1) := by decide +kernel
theorem dX9_setHours_17 : decode cX9_setHours 17 = .ok (.iload_n 1, 1) := by decide +kernel
theorem dX9_setHours_18 : decode cX9_setHours 18 = .ok (.iconst 1, 1) := by decide +kernel
theorem dX9_setHours_19 : decode cX9_setHours 19 = .ok (.iadd, 1) := by decide +kernel
theorem dX9_setHours_20 : decode cX9_setHours 20 = .ok (.sipush 1440, 3) := by decide +kernel
theorem dX9_setHours_23 : decode cX9_setHours 23 = .ok (.invokestatic 91, 3) := by decide +kernel
theorem dX9_setHours_26 : decode cX9_setHours 26 = .ok (.ifCond .ne 9, 3) := by decide +kernel
theorem dX9_setHours_29 : decode cX9_setHours 29 = .ok (.aload_n 0, 1) := by decide +kernel
theorem dX9_setHours_30 : decode cX9_setHours 30 = .ok (.iconst 1, 1) := by decide +kernel
theorem dX9_setHours_31 : decode cX9_setHours 31 = .ok (.invokevirtual 123, 3) := by decide +kernel
theorem dX9_setHours_34 : decode cX9_setHours 34 = .ok (.ireturn, 1) := by decide +kernel
theorem dX9_setHours_35 : decode cX9_setHours 35 = .ok (.aload_n 0, 1) := by decide +kernel
theorem dX9_setHours_36 : decode cX9_setHours 36 = .ok (.iload_n 1, 1) := by decide +kernel
theorem dX9_setHours_37 : decode cX9_setHours 37 = .ok (.putfield 64, 3) := by decide +kernel
theorem dX9_setHours_40 : decode cX9_setHours 40 = .ok (.aload_n 0, 1) := by decide +kernel
theorem dX9_setHours_41 : decode cX9_setHours 41 = .ok (.iload_n 2, 1) := by decide +kernel
theorem dX9_setHours_42 : decode cX9_setHours 42 = .ok (.putfield 67, 3) := by decide +kernel
theorem dX9_setHours_45 : decode cX9_setHours 45 = .ok (.iload_n 2, 1) := by decide +kernel
theorem dX9_setHours_46 : decode cX9_setHours 46 = .ok (.iload_n 1, 1) := by decide +kernel
theorem dX9_setHours_47 : decode cX9_setHours 47 = .ok (.isub, 1) := by decide +kernel
theorem dX9_setHours_48 : decode cX9_setHours 48 = .ok (.ireturn, 1) := by decide +kernel
theorem dX9_addFeast_0 : decode cX9_addFeast 0 = .ok (.aload_n 0, 1) := by decide +kernel
theorem dX9_addFeast_1 : decode cX9_addFeast 1 = .ok (.iconst 0, 1) := by decide +kernel
theorem dX9_addFeast_2 : decode cX9_addFeast 2 = .ok (.putfield 87, 3) := by decide +kernel
theorem dX9_addFeast_5 : decode cX9_addFeast 5 = .ok (.aload_n 0, 1) := by decide +kernel
theorem dX9_addFeast_6 : decode cX9_addFeast 6 = .ok (.iload_n 3, 1) := by decide +kernel
theorem dX9_addFeast_7 : decode cX9_addFeast 7 = .ok (.invokevirtual 148, 3) := by decide +kernel
theorem dX9_addFeast_10 : decode cX9_addFeast 10 = .ok (.ifCond .ne 9, 3) := by decide +kernel
theorem dX9_addFeast_13 : decode cX9_addFeast 13 = .ok (.aload_n 0, 1) := by decide +kernel
theorem dX9_addFeast_14 : decode cX9_addFeast 14 = .ok (.iconst 1, 1) := by decide +kernel
theorem dX9_addFeast_15 : decode cX9_addFeast 15 = .ok (.invokevirtual 123, 3) := by decide +kernel
theorem dX9_addFeast_18 : decode cX9_addFeast 18 = .ok (.ireturn, 1) := by decide +kernel
theorem dX9_addFeast_19 : decode cX9_addFeast 19 = .ok (.iload_n 1, 1) := by decide +kernel
theorem dX9_addFeast_20 : decode cX9_addFeast 20 = .ok (.invokestatic 119, 3) := by decide +kernel
theorem dX9_addFeast_23 : decode cX9_addFeast 23 = .ok (.ifCond .eq 24, 3) := by decide +kernel
theorem dX9_addFeast_26 : decode cX9_addFeast 26 = .ok (.iload_n 2, 1) := by decide +kernel
theorem dX9_addFeast_27 : decode cX9_addFeast 27 = .ok (.iload_n 1, 1) := by decide +kernel
theorem dX9_addFeast_28 : decode cX9_addFeast 28 = .ok (.sipush 2099, 3) := by decide +kernel
theorem dX9_addFeast_31 : decode cX9_addFeast 31 = .ok (.invokestatic 91, 3) := by decide +kernel
theorem dX9_addFeast_34 : decode cX9_addFeast 34 = .ok (.ifCond .eq 13, 3) := by decide +kernel
theorem dX9_addFeast_37 : decode cX9_addFeast 37 = .ok (.iload 4, 2) := by decide +kernel
theorem dX9_addFeast_39 : decode cX9_addFeast 39 = .ok (.iconst 0, 1) := by decide +kernel
theorem dX9_addFeast_40 : decode cX9_addFeast 40 = .ok (.iconst 3, 1) := by decide +kernel
theorem dX9_addFeast_41 : decode cX9_addFeast 41 = .ok (.invokestatic 91, 3) := by decide +kernel
theorem dX9_addFeast_44 : decode cX9_addFeast 44 = .ok (.ifCond .ne 9, 3) := by decide +kernel
theorem dX9_addFeast_47 : decode cX9_addFeast 47 = .ok (.aload_n 0, 1) := by decide +kernel
theorem dX9_addFeast_48 : decode cX9_addFeast 48 = .ok (.iconst 2, 1) := by decide +kernel
theorem dX9_addFeast_49 : decode cX9_addFeast 49 = .ok (.invokevirtual 123, 3) := by decide +kernel
theorem dX9_addFeast_52 : decode cX9_addFeast 52 = .ok (.ireturn, 1) := by decide +kernel
theorem dX9_addFeast_53 : decode cX9_addFeast 53 = .ok (.aload_n 0, 1) := by decide +kernel
theorem dX9_addFeast_54 : decode cX9_addFeast 54 = .ok (.getfield 285, 3) := by decide +kernel
theorem dX9_addFeast_57 : decode cX9_addFeast 57 = .ok (.bipush 20, 2) := by decide +kernel
theorem dX9_addFeast_59 : decode cX9_addFeast 59 = .ok (.if_icmp .ne 9, 3) := by decide +kernel
theorem dX9_addFeast_62 : decode cX9_addFeast 62 = .ok (.aload_n 0, 1) := by decide +kernel
theorem dX9_addFeast_63 : decode cX9_addFeast 63 = .ok (.iconst 3, 1) := by decide +kernel
theorem dX9_addFeast_64 : decode cX9_addFeast 64 = .ok (.invokevirtual 123, 3) := by decide +kernel
theorem dX9_addFeast_67 : decode cX9_addFeast 67 = .ok (.ireturn, 1) := by decide +kernel
theorem dX9_addFeast_68 : decode cX9_addFeast 68 = .ok (.aload_n 0, 1) := by decide +kernel
theorem dX9_addFeast_69 : decode cX9_addFeast 69 = .ok (.getfield 70, 3) := by decide +kernel
theorem dX9_addFeast_72 : decode cX9_addFeast 72 = .ok (.aload_n 0, 1) := by decide +kernel
theorem dX9_addFeast_73 : decode cX9_addFeast 73 = .ok (.getfield 285, 3) := by decide +kernel
theorem dX9_addFeast_76 : decode cX9_addFeast 76 = .ok (.iload_n 1, 1) := by decide +kernel
theorem dX9_addFeast_77 : decode cX9_addFeast 77 = .ok (.iastore, 1) := by decide +kernel
theorem dX9_addFeast_78 : decode cX9_addFeast 78 = .ok (.aload_n 0, 1) := by decide +kernel
theorem dX9_addFeast_79 : decode cX9_addFeast 79 = .ok (.getfield 73, 3) := by decide +kernel
theorem dX9_addFeast_82 : decode cX9_addFeast 82 = .ok (.aload_n 0, 1) := by decide +kernel
theorem dX9_addFeast_83 : decode cX9_addFeast 83 = .ok (.getfield 285, 3) := by decide +kernel
theorem dX9_addFeast_86 : decode cX9_addFeast 86 = .ok (.iload_n 2, 1) := by decide +kernel
theorem dX9_addFeast_87 : decode cX9_addFeast 87 = .ok (.iastore, 1) := by decide +kernel
theorem dX9_addFeast_88 : decode cX9_addFeast 88 = .ok (.aload_n 0, 1) := by decide +kernel
theorem dX9_addFeast_89 : decode cX9_addFeast 89 = .ok (.getfield 76, 3) := by decide +kernel
theorem dX9_addFeast_92 : decode cX9_addFeast 92 = .ok (.aload_n 0, 1) := by decide +kernel
theorem dX9_addFeast_93 : decode cX9_addFeast 93 = .ok (.getfield 285, 3) := by decide +kernel
theorem dX9_addFeast_96 : decode cX9_addFeast 96 = .ok (.iload_n 3, 1) := by decide +kernel
theorem dX9_addFeast_97 : decode cX9_addFeast 97 = .ok (.iastore, 1) := by decide +kernel
theorem dX9_addFeast_98 : decode cX9_addFeast 98 = .ok (.aload_n 0, 1) := by decide +kernel
theorem dX9_addFeast_99 : decode cX9_addFeast 99 = .ok (.getfield 79, 3) := by decide +kernel
theorem dX9_addFeast_102 : decode cX9_addFeast 102 = .ok (.aload_n 0, 1) := by decide +kernel
theorem dX9_addFeast_103 : decode cX9_addFeast 103 = .ok (.getfield 285, 3) := by decide +kernel
theorem dX9_addFeast_106 : decode cX9_addFeast 106 = .ok (.iload 4, 2) := by decide +kernel
theorem dX9_addFeast_108 : decode cX9_addFeast 108 = .ok (.iastore, 1) := by decide +kernel
theorem dX9_addFeast_109 : decode cX9_addFeast 109 = .ok (.aload_n 0, 1) := by decide +kernel
theorem dX9_addFeast_110 : decode cX9_addFeast 110 = .ok (.dup, 1) := by decide +kernel
theorem dX9_addFeast_111 : decode cX9_addFeast 111 = .ok (.getfield 285, 3) := by decide +kernel
theorem dX9_addFeast_114 : decode cX9_addFeast 114 = .ok (.iconst 1, 1) := by decide +kernel
theorem dX9_addFeast_115 : decode cX9_addFeast 115 = .ok (.iadd, 1) := by decide +kernel
theorem dX9_addFeast_116 : decode cX9_addFeast 116 = .ok (.putfield 285, 3) := by decide +kernel
theorem dX9_addFeast_119 : decode cX9_addFeast 119 = .ok (.aload_n 0, 1) := by decide +kernel
theorem dX9_addFeast_120 : decode cX9_addFeast 120 = .ok (.iconst 0, 1) := by decide +kernel
theorem dX9_addFeast_121 : decode cX9_addFeast 121 = .ok (.putfield 281, 3) := by decide +kernel
theorem dX9_addFeast_124 : decode cX9_addFeast 124 = .ok (.aload_n 0, 1) := by decide +kernel
theorem dX9_addFeast_125 : decode cX9_addFeast 125 = .ok (.getfield 285, 3) := by decide +kernel
theorem dX9_addFeast_128 : decode cX9_addFeast 128 = .ok (.iconst 1, 1) := by decide +kernel
theorem dX9_addFeast_129 : decode cX9_addFeast 129 = .ok (.isub, 1) := by decide +kernel
theorem dX9_addFeast_130 : decode cX9_addFeast 130 = .ok (.ireturn, 1) := by decide +kernel
theorem dX9_isWeekday_0 : decode cX9_isWeekday 0 = .ok (.aload_n 0, 1) := by decide +kernel
theorem dX9_isWeekday_1 : decode cX9_isWeekday 1 = .ok (.getfield 61, 3) := by decide +kernel
theorem dX9_isWeekday_4 : decode cX9_isWeekday 4 = .ok (.iload_n 1, 1) := by decide +kernel
theorem dX9_isWeekday_5 : decode cX9_isWeekday 5 = .ok (.bipush 7, 2) := by decide +kernel
theorem dX9_isWeekday_7 : decode cX9_isWeekday 7 = .ok (.invokestatic 288, 3) := by decide +kernel
theorem dX9_isWeekday_10 : decode cX9_isWeekday 10 = .ok (.ishr, 1) := by decide +kernel
theorem dX9_isWeekday_11 : decode cX9_isWeekday 11 = .ok (.iconst 1, 1) := by decide +kernel
theorem dX9_isWeekday_12 : decode cX9_isWeekday 12 = .ok (.iand, 1) := by decide +kernel
theorem dX9_isWeekday_13 : decode cX9_isWeekday 13 = .ok (.ifCond .eq 7, 3) := by decide +kernel
theorem dX9_isWeekday_16 : decode cX9_isWeekday 16 = .ok (.iconst 1, 1) := by decide +kernel
theorem dX9_isWeekday_17 : decode cX9_isWeekday 17 = .ok (.goto 4, 3) := by decide +kernel
theorem dX9_isWeekday_20 : decode cX9_isWeekday 20 = .ok (.iconst 0, 1) := by decide +kernel
theorem dX9_isWeekday_21 : decode cX9_isWeekday 21 = .ok (.ireturn, 1) := by decide +kernel
theorem dX9_isTaken_0 : decode cX9_isTaken 0 = .ok (.iload_n 2, 1) := by decide +kernel
theorem dX9_isTaken_1 : decode cX9_isTaken 1 = .ok (.invokestatic 126, 3) := by decide +kernel
theorem dX9_isTaken_4 : decode cX9_isTaken 4 = .ok (.ifCond .eq 27, 3) := by decide +kernel
theorem dX9_isTaken_7 : decode cX9_isTaken 7 = .ok (.aload_n 0, 1) := by decide +kernel
theorem dX9_isTaken_8 : decode cX9_isTaken 8 = .ok (.getfield 83, 3) := by decide +kernel
theorem dX9_isTaken_11 : decode cX9_isTaken 11 = .ok (.iload_n 2, 1) := by decide +kernel
theorem dX9_isTaken_12 : decode cX9_isTaken 12 = .ok (.baload, 1) := by decide +kernel
theorem dX9_isTaken_13 : decode cX9_isTaken 13 = .ok (.iconst (-1), 1) := by decide +kernel
theorem dX9_isTaken_14 : decode cX9_isTaken 14 = .ok (.if_icmp .eq 17, 3) := by decide +kernel
theorem dX9_isTaken_17 : decode cX9_isTaken 17 = .ok (.aload_n 0, 1) := by decide +kernel
theorem dX9_isTaken_18 : decode cX9_isTaken 18 = .ok (.getfield 83, 3) := by decide +kernel
theorem dX9_isTaken_21 : decode cX9_isTaken 21 = .ok (.iload_n 2, 1) := by decide +kernel
theorem dX9_isTaken_22 : decode cX9_isTaken 22 = .ok (.baload, 1) := by decide +kernel
theorem dX9_isTaken_23 : decode cX9_isTaken 23 = .ok (.iload_n 1, 1) := by decide +kernel
theorem dX9_isTaken_24 : decode cX9_isTaken 24 = .ok (.if_icmp .eq 7, 3) := by decide +kernel
theorem dX9_isTaken_27 : decode cX9_isTaken 27 = .ok (.iconst 1, 1) := by decide +kernel
theorem dX9_isTaken_28 : decode cX9_isTaken 28 = .ok (.goto 4, 3) := by decide +kernel
theorem dX9_isTaken_31 : decode cX9_isTaken 31 = .ok (.iconst 0, 1) := by decide +kernel
theorem dX9_isTaken_32 : decode cX9_isTaken 32 = .ok (.ireturn, 1) := by decide +kernel
theorem dX9_moved_0 : decode cX9_moved 0 = .ok (.aload_n 0, 1) := by decide +kernel
theorem dX9_moved_1 : decode cX9_moved 1 = .ok (.getfield 79, 3) := by decide +kernel
theorem dX9_moved_4 : decode cX9_moved 4 = .ok (.iload_n 1, 1) := by decide +kernel
theorem dX9_moved_5 : decode cX9_moved 5 = .ok (.iaload, 1) := by decide +kernel
theorem dX9_moved_6 : decode cX9_moved 6 = .ok (.istore_n 3, 1) := by decide +kernel
theorem dX9_moved_7 : decode cX9_moved 7 = .ok (.iload_n 3, 1) := by decide +kernel
theorem dX9_moved_8 : decode cX9_moved 8 = .ok (.ifCond .eq 25, 3) := by decide +kernel
theorem dX9_moved_11 : decode cX9_moved 11 = .ok (.aload_n 0, 1) := by decide +kernel
theorem dX9_moved_12 : decode cX9_moved 12 = .ok (.iload_n 2, 1) := by decide +kernel
theorem dX9_moved_13 : decode cX9_moved 13 = .ok (.invokevirtual 291, 3) := by decide +kernel
theorem dX9_moved_16 : decode cX9_moved 16 = .ok (.ifCond .eq 19, 3) := by decide +kernel
theorem dX9_moved_19 : decode cX9_moved 19 = .ok (.iload_n 3, 1) := by decide +kernel
theorem dX9_moved_20 : decode cX9_moved 20 = .ok (.iconst 3, 1) := by decide +kernel
theorem dX9_moved_21 : decode cX9_moved 21 = .ok (.if_icmp .lt 12, 3) := by decide +kernel
theorem dX9_moved_24 : decode cX9_moved 24 = .ok (.aload_n 0, 1) := by decide +kernel
theorem dX9_moved_25 : decode cX9_moved 25 = .ok (.iload_n 1, 1) := by decide +kernel
theorem dX9_moved_26 : decode cX9_moved 26 = .ok (.iload_n 2, 1) := by decide +kernel
theorem dX9_moved_27 : decode cX9_moved 27 = .ok (.invokevirtual 294, 3) := by decide +kernel
theorem dX9_moved_30 : decode cX9_moved 30 = .ok (.ifCond .ne 5, 3) := by decide +kernel
theorem dX9_moved_33 : decode cX9_moved 33 = .ok (.iload_n 2, 1) := by decide +kernel
theorem dX9_moved_34 : decode cX9_moved 34 = .ok (.ireturn, 1) := by decide +kernel
theorem dX9_moved_35 : decode cX9_moved 35 = .ok (.iconst 1, 1) := by decide +kernel
theorem dX9_moved_36 : decode cX9_moved 36 = .ok (.istore 4, 2) := by decide +kernel
theorem dX9_moved_38 : decode cX9_moved 38 = .ok (.iload 4, 2) := by decide +kernel
theorem dX9_moved_40 : decode cX9_moved 40 = .ok (.bipush 60, 2) := by decide +kernel
theorem dX9_moved_42 : decode cX9_moved 42 = .ok (.if_icmp .gt 63, 3) := by decide +kernel
theorem dX9_moved_45 : decode cX9_moved 45 = .ok (.aload_n 0, 1) := by decide +kernel
theorem dX9_moved_46 : decode cX9_moved 46 = .ok (.iload_n 2, 1) := by decide +kernel
theorem dX9_moved_47 : decode cX9_moved 47 = .ok (.iload 4, 2) := by decide +kernel
theorem dX9_moved_49 : decode cX9_moved 49 = .ok (.iadd, 1) := by decide +kernel
theorem dX9_moved_50 : decode cX9_moved 50 = .ok (.invokevirtual 291, 3) := by decide +kernel
theorem dX9_moved_53 : decode cX9_moved 53 = .ok (.ifCond .eq 25, 3) := by decide +kernel
theorem dX9_moved_56 : decode cX9_moved 56 = .ok (.iload_n 3, 1) := by decide +kernel
theorem dX9_moved_57 : decode cX9_moved 57 = .ok (.iconst 3, 1) := by decide +kernel
theorem dX9_moved_58 : decode cX9_moved 58 = .ok (.if_icmp .lt 15, 3) := by decide +kernel
theorem dX9_moved_61 : decode cX9_moved 61 = .ok (.aload_n 0, 1) := by decide +kernel
theorem dX9_moved_62 : decode cX9_moved 62 = .ok (.iload_n 1, 1) := by decide +kernel
theorem dX9_moved_63 : decode cX9_moved 63 = .ok (.iload_n 2, 1) := by decide +kernel
theorem dX9_moved_64 : decode cX9_moved 64 = .ok (.iload 4, 2) := by decide +kernel
theorem dX9_moved_66 : decode cX9_moved 66 = .ok (.iadd, 1) := by decide +kernel
theorem dX9_moved_67 : decode cX9_moved 67 = .ok (.invokevirtual 294, 3) := by decide +kernel
theorem dX9_moved_70 : decode cX9_moved 70 = .ok (.ifCond .ne 8, 3) := by decide +kernel
theorem dX9_moved_73 : decode cX9_moved 73 = .ok (.iload_n 2, 1) := by decide +kernel
theorem dX9_moved_74 : decode cX9_moved 74 = .ok (.iload 4, 2) := by decide +kernel
theorem dX9_moved_76 : decode cX9_moved 76 = .ok (.iadd, 1) := by decide +kernel
theorem dX9_moved_77 : decode cX9_moved 77 = .ok (.ireturn, 1) := by decide +kernel
theorem dX9_moved_78 : decode cX9_moved 78 = .ok (.iload_n 3, 1) := by decide +kernel
theorem dX9_moved_79 : decode cX9_moved 79 = .ok (.iconst 2, 1) := by decide +kernel
theorem dX9_moved_80 : decode cX9_moved 80 = .ok (.if_icmp .ne 19, 3) := by decide +kernel
theorem dX9_moved_83 : decode cX9_moved 83 = .ok (.aload_n 0, 1) := by decide +kernel
theorem dX9_moved_84 : decode cX9_moved 84 = .ok (.iload_n 2, 1) := by decide +kernel
theorem dX9_moved_85 : decode cX9_moved 85 = .ok (.iload 4, 2) := by decide +kernel
theorem dX9_moved_87 : decode cX9_moved 87 = .ok (.isub, 1) := by decide +kernel
theorem dX9_moved_88 : decode cX9_moved 88 = .ok (.invokevirtual 291, 3) := by decide +kernel
theorem dX9_moved_91 : decode cX9_moved 91 = .ok (.ifCond .eq 8, 3) := by decide +kernel
theorem dX9_moved_94 : decode cX9_moved 94 = .ok (.iload_n 2, 1) := by decide +kernel
theorem dX9_moved_95 : decode cX9_moved 95 = .ok (.iload 4, 2) := by decide +kernel
theorem dX9_moved_97 : decode cX9_moved 97 = .ok (.isub, 1) := by decide +kernel
theorem dX9_moved_98 : decode cX9_moved 98 = .ok (.ireturn, 1) := by decide +kernel
theorem dX9_moved_99 : decode cX9_moved 99 = .ok (.iinc 4 1, 3) := by decide +kernel
theorem dX9_moved_102 : decode cX9_moved 102 = .ok (.goto (-64), 3) := by decide +kernel
theorem dX9_moved_105 : decode cX9_moved 105 = .ok (.iconst (-1), 1) := by decide +kernel
theorem dX9_moved_106 : decode cX9_moved 106 = .ok (.ireturn, 1) := by decide +kernel
theorem dX9_layFeasts_0 : decode cX9_layFeasts 0 = .ok (.aload_n 0, 1) := by decide +kernel
theorem dX9_layFeasts_1 : decode cX9_layFeasts 1 = .ok (.getfield 281, 3) := by decide +kernel
theorem dX9_layFeasts_4 : decode cX9_layFeasts 4 = .ok (.ifCond .eq 4, 3) := by decide +kernel
theorem dX9_layFeasts_7 : decode cX9_layFeasts 7 = .ok (.return_, 1) := by decide +kernel
theorem dX9_layFeasts_8 : decode cX9_layFeasts 8 = .ok (.aload_n 0, 1) := by decide +kernel
theorem dX9_layFeasts_9 : decode cX9_layFeasts 9 = .ok (.iconst 1, 1) := by decide +kernel
theorem dX9_layFeasts_10 : decode cX9_layFeasts 10 = .ok (.putfield 281, 3) := by decide +kernel
theorem dX9_layFeasts_13 : decode cX9_layFeasts 13 = .ok (.aload_n 0, 1) := by decide +kernel
theorem dX9_layFeasts_14 : decode cX9_layFeasts 14 = .ok (.getfield 83, 3) := by decide +kernel
theorem dX9_layFeasts_17 : decode cX9_layFeasts 17 = .ok (.iconst (-1), 1) := by decide +kernel
theorem dX9_layFeasts_18 : decode cX9_layFeasts 18 = .ok (.invokestatic 297, 3) := by decide +kernel
theorem dX9_layFeasts_21 : decode cX9_layFeasts 21 = .ok (.iconst 0, 1) := by decide +kernel
theorem dX9_layFeasts_22 : decode cX9_layFeasts 22 = .ok (.istore_n 1, 1) := by decide +kernel
theorem dX9_layFeasts_23 : decode cX9_layFeasts 23 = .ok (.iload_n 1, 1) := by decide +kernel
theorem dX9_layFeasts_24 : decode cX9_layFeasts 24 = .ok (.aload_n 0, 1) := by decide +kernel
theorem dX9_layFeasts_25 : decode cX9_layFeasts 25 = .ok (.getfield 285, 3) := by decide +kernel
theorem dX9_layFeasts_28 : decode cX9_layFeasts 28 = .ok (.if_icmp .ge 107, 3) := by decide +kernel
theorem dX9_layFeasts_31 : decode cX9_layFeasts 31 = .ok (.aload_n 0, 1) := by decide +kernel
theorem dX9_layFeasts_32 : decode cX9_layFeasts 32 = .ok (.getfield 70, 3) := by decide +kernel
theorem dX9_layFeasts_35 : decode cX9_layFeasts 35 = .ok (.iload_n 1, 1) := by decide +kernel
theorem dX9_layFeasts_36 : decode cX9_layFeasts 36 = .ok (.iaload, 1) := by decide +kernel
theorem dX9_layFeasts_37 : decode cX9_layFeasts 37 = .ok (.istore_n 2, 1) := by decide +kernel
theorem dX9_layFeasts_38 : decode cX9_layFeasts 38 = .ok (.iload_n 2, 1) := by decide +kernel
theorem dX9_layFeasts_39 : decode cX9_layFeasts 39 = .ok (.aload_n 0, 1) := by decide +kernel
theorem dX9_layFeasts_40 : decode cX9_layFeasts 40 = .ok (.getfield 73, 3) := by decide +kernel
theorem dX9_layFeasts_43 : decode cX9_layFeasts 43 = .ok (.iload_n 1, 1) := by decide +kernel
theorem dX9_layFeasts_44 : decode cX9_layFeasts 44 = .ok (.iaload, 1) := by decide +kernel
theorem dX9_layFeasts_45 : decode cX9_layFeasts 45 = .ok (.if_icmp .gt 84, 3) := by decide +kernel
theorem dX9_layFeasts_48 : decode cX9_layFeasts 48 = .ok (.iconst 1, 1) := by decide +kernel
theorem dX9_layFeasts_49 : decode cX9_layFeasts 49 = .ok (.istore_n 3, 1) := by decide +kernel
theorem dX9_layFeasts_50 : decode cX9_layFeasts 50 = .ok (.iload_n 3, 1) := by decide +kernel
theorem dX9_layFeasts_51 : decode cX9_layFeasts 51 = .ok (.bipush 12, 2) := by decide +kernel
theorem dX9_layFeasts_53 : decode cX9_layFeasts 53 = .ok (.if_icmp .gt 70, 3) := by decide +kernel
theorem dX9_layFeasts_56 : decode cX9_layFeasts 56 = .ok (.aload_n 0, 1) := by decide +kernel
theorem dX9_layFeasts_57 : decode cX9_layFeasts 57 = .ok (.aload_n 0, 1) := by decide +kernel
theorem dX9_layFeasts_58 : decode cX9_layFeasts 58 = .ok (.getfield 76, 3) := by decide +kernel
theorem dX9_layFeasts_61 : decode cX9_layFeasts 61 = .ok (.iload_n 1, 1) := by decide +kernel
theorem dX9_layFeasts_62 : decode cX9_layFeasts 62 = .ok (.iaload, 1) := by decide +kernel
theorem dX9_layFeasts_63 : decode cX9_layFeasts 63 = .ok (.iload_n 2, 1) := by decide +kernel
theorem dX9_layFeasts_64 : decode cX9_layFeasts 64 = .ok (.iload_n 3, 1) := by decide +kernel
theorem dX9_layFeasts_65 : decode cX9_layFeasts 65 = .ok (.invokevirtual 145, 3) := by decide +kernel
theorem dX9_layFeasts_68 : decode cX9_layFeasts 68 = .ok (.istore 4, 2) := by decide +kernel
theorem dX9_layFeasts_70 : decode cX9_layFeasts 70 = .ok (.iload 4, 2) := by decide +kernel
theorem dX9_layFeasts_72 : decode cX9_layFeasts 72 = .ok (.iconst (-1), 1) := by decide +kernel
theorem dX9_layFeasts_73 : decode cX9_layFeasts 73 = .ok (.if_icmp .ne 7, 3) := by decide +kernel
theorem dX9_layFeasts_76 : decode cX9_layFeasts 76 = .ok (.iconst (-1), 1) := by decide +kernel
theorem dX9_layFeasts_77 : decode cX9_layFeasts 77 = .ok (.goto 10, 3) := by decide +kernel
theorem dX9_layFeasts_80 : decode cX9_layFeasts 80 = .ok (.aload_n 0, 1) := by decide +kernel
theorem dX9_layFeasts_81 : decode cX9_layFeasts 81 = .ok (.iload_n 1, 1) := by decide +kernel
theorem dX9_layFeasts_82 : decode cX9_layFeasts 82 = .ok (.iload 4, 2) := by decide +kernel
theorem dX9_layFeasts_84 : decode cX9_layFeasts 84 = .ok (.invokevirtual 301, 3) := by decide +kernel
theorem dX9_layFeasts_87 : decode cX9_layFeasts 87 = .ok (.istore 5, 2) := by decide +kernel
theorem dX9_layFeasts_89 : decode cX9_layFeasts 89 = .ok (.iload 5, 2) := by decide +kernel
theorem dX9_layFeasts_91 : decode cX9_layFeasts 91 = .ok (.invokestatic 126, 3) := by decide +kernel
theorem dX9_layFeasts_94 : decode cX9_layFeasts 94 = .ok (.ifCond .eq 23, 3) := by decide +kernel
theorem dX9_layFeasts_97 : decode cX9_layFeasts 97 = .ok (.aload_n 0, 1) := by decide +kernel
theorem dX9_layFeasts_98 : decode cX9_layFeasts 98 = .ok (.getfield 83, 3) := by decide +kernel
theorem dX9_layFeasts_101 : decode cX9_layFeasts 101 = .ok (.iload 5, 2) := by decide +kernel
theorem dX9_layFeasts_103 : decode cX9_layFeasts 103 = .ok (.baload, 1) := by decide +kernel
theorem dX9_layFeasts_104 : decode cX9_layFeasts 104 = .ok (.iconst (-1), 1) := by decide +kernel
theorem dX9_layFeasts_105 : decode cX9_layFeasts 105 = .ok (.if_icmp .ne 12, 3) := by decide +kernel
theorem dX9_layFeasts_108 : decode cX9_layFeasts 108 = .ok (.aload_n 0, 1) := by decide +kernel
theorem dX9_layFeasts_109 : decode cX9_layFeasts 109 = .ok (.getfield 83, 3) := by decide +kernel
theorem dX9_layFeasts_112 : decode cX9_layFeasts 112 = .ok (.iload 5, 2) := by decide +kernel
theorem dX9_layFeasts_114 : decode cX9_layFeasts 114 = .ok (.iload_n 1, 1) := by decide +kernel
theorem dX9_layFeasts_115 : decode cX9_layFeasts 115 = .ok (.i2b, 1) := by decide +kernel
theorem dX9_layFeasts_116 : decode cX9_layFeasts 116 = .ok (.bastore, 1) := by decide +kernel
theorem dX9_layFeasts_117 : decode cX9_layFeasts 117 = .ok (.iinc 3 1, 3) := by decide +kernel
theorem dX9_layFeasts_120 : decode cX9_layFeasts 120 = .ok (.goto (-70), 3) := by decide +kernel
theorem dX9_layFeasts_123 : decode cX9_layFeasts 123 = .ok (.iinc 2 1, 3) := by decide +kernel
theorem dX9_layFeasts_126 : decode cX9_layFeasts 126 = .ok (.goto (-88), 3) := by decide +kernel
theorem dX9_layFeasts_129 : decode cX9_layFeasts 129 = .ok (.iinc 1 1, 3) := by decide +kernel
theorem dX9_layFeasts_132 : decode cX9_layFeasts 132 = .ok (.goto (-109), 3) := by decide +kernel
theorem dX9_layFeasts_135 : decode cX9_layFeasts 135 = .ok (.return_, 1) := by decide +kernel
theorem dX9_works_0 : decode cX9_works 0 = .ok (.aload_n 0, 1) := by decide +kernel
theorem dX9_works_1 : decode cX9_works 1 = .ok (.invokevirtual 304, 3) := by decide +kernel
theorem dX9_works_4 : decode cX9_works 4 = .ok (.aload_n 0, 1) := by decide +kernel
theorem dX9_works_5 : decode cX9_works 5 = .ok (.iload_n 1, 1) := by decide +kernel
theorem dX9_works_6 : decode cX9_works 6 = .ok (.invokevirtual 291, 3) := by decide +kernel
theorem dX9_works_9 : decode cX9_works 9 = .ok (.ifCond .eq 17, 3) := by decide +kernel
theorem dX9_works_12 : decode cX9_works 12 = .ok (.aload_n 0, 1) := by decide +kernel
theorem dX9_works_13 : decode cX9_works 13 = .ok (.getfield 83, 3) := by decide +kernel
theorem dX9_works_16 : decode cX9_works 16 = .ok (.iload_n 1, 1) := by decide +kernel
theorem dX9_works_17 : decode cX9_works 17 = .ok (.baload, 1) := by decide +kernel
theorem dX9_works_18 : decode cX9_works 18 = .ok (.iconst (-1), 1) := by decide +kernel
theorem dX9_works_19 : decode cX9_works 19 = .ok (.if_icmp .ne 7, 3) := by decide +kernel
theorem dX9_works_22 : decode cX9_works 22 = .ok (.iconst 1, 1) := by decide +kernel
theorem dX9_works_23 : decode cX9_works 23 = .ok (.goto 4, 3) := by decide +kernel
theorem dX9_works_26 : decode cX9_works 26 = .ok (.iconst 0, 1) := by decide +kernel
theorem dX9_works_27 : decode cX9_works 27 = .ok (.ireturn, 1) := by decide +kernel
theorem dX9_feastAt_0 : decode cX9_feastAt 0 = .ok (.aload_n 0, 1) := by decide +kernel
theorem dX9_feastAt_1 : decode cX9_feastAt 1 = .ok (.invokevirtual 304, 3) := by decide +kernel
theorem dX9_feastAt_4 : decode cX9_feastAt 4 = .ok (.aload_n 0, 1) := by decide +kernel
theorem dX9_feastAt_5 : decode cX9_feastAt 5 = .ok (.getfield 83, 3) := by decide +kernel
theorem dX9_feastAt_8 : decode cX9_feastAt 8 = .ok (.iload_n 1, 1) := by decide +kernel
theorem dX9_feastAt_9 : decode cX9_feastAt 9 = .ok (.baload, 1) := by decide +kernel
theorem dX9_feastAt_10 : decode cX9_feastAt 10 = .ok (.ireturn, 1) := by decide +kernel
theorem dX9_feastOn_0 : decode cX9_feastOn 0 = .ok (.aload_n 0, 1) := by decide +kernel
theorem dX9_feastOn_1 : decode cX9_feastOn 1 = .ok (.iconst 0, 1) := by decide +kernel
theorem dX9_feastOn_2 : decode cX9_feastOn 2 = .ok (.putfield 87, 3) := by decide +kernel
theorem dX9_feastOn_5 : decode cX9_feastOn 5 = .ok (.iload_n 1, 1) := by decide +kernel
theorem dX9_feastOn_6 : decode cX9_feastOn 6 = .ok (.invokestatic 126, 3) := by decide +kernel
theorem dX9_feastOn_9 : decode cX9_feastOn 9 = .ok (.ifCond .eq 11, 3) := by decide +kernel
theorem dX9_feastOn_12 : decode cX9_feastOn 12 = .ok (.aload_n 0, 1) := by decide +kernel
theorem dX9_feastOn_13 : decode cX9_feastOn 13 = .ok (.iload_n 1, 1) := by decide +kernel
theorem dX9_feastOn_14 : decode cX9_feastOn 14 = .ok (.invokevirtual 307, 3) := by decide +kernel
theorem dX9_feastOn_17 : decode cX9_feastOn 17 = .ok (.goto 8, 3) := by decide +kernel
theorem dX9_feastOn_20 : decode cX9_feastOn 20 = .ok (.aload_n 0, 1) := by decide +kernel
theorem dX9_feastOn_21 : decode cX9_feastOn 21 = .ok (.iconst 1, 1) := by decide +kernel
theorem dX9_feastOn_22 : decode cX9_feastOn 22 = .ok (.invokevirtual 123, 3) := by decide +kernel
theorem dX9_feastOn_25 : decode cX9_feastOn 25 = .ok (.ireturn, 1) := by decide +kernel
theorem dX9_isWorking_0 : decode cX9_isWorking 0 = .ok (.aload_n 0, 1) := by decide +kernel
theorem dX9_isWorking_1 : decode cX9_isWorking 1 = .ok (.iconst 0, 1) := by decide +kernel
theorem dX9_isWorking_2 : decode cX9_isWorking 2 = .ok (.putfield 87, 3) := by decide +kernel
theorem dX9_isWorking_5 : decode cX9_isWorking 5 = .ok (.iload_n 1, 1) := by decide +kernel
theorem dX9_isWorking_6 : decode cX9_isWorking 6 = .ok (.invokestatic 126, 3) := by decide +kernel
theorem dX9_isWorking_9 : decode cX9_isWorking 9 = .ok (.ifCond .eq 9, 3) := by decide +kernel
theorem dX9_isWorking_12 : decode cX9_isWorking 12 = .ok (.aload_n 0, 1) := by decide +kernel
theorem dX9_isWorking_13 : decode cX9_isWorking 13 = .ok (.iload_n 1, 1) := by decide +kernel
theorem dX9_isWorking_14 : decode cX9_isWorking 14 = .ok (.invokevirtual 310, 3) := by decide +kernel
theorem dX9_isWorking_17 : decode cX9_isWorking 17 = .ok (.ireturn, 1) := by decide +kernel
theorem dX9_isWorking_18 : decode cX9_isWorking 18 = .ok (.aload_n 0, 1) := by decide +kernel
theorem dX9_isWorking_19 : decode cX9_isWorking 19 = .ok (.iconst 1, 1) := by decide +kernel
theorem dX9_isWorking_20 : decode cX9_isWorking 20 = .ok (.putfield 87, 3) := by decide +kernel
theorem dX9_isWorking_23 : decode cX9_isWorking 23 = .ok (.iconst 0, 1) := by decide +kernel
theorem dX9_isWorking_24 : decode cX9_isWorking 24 = .ok (.ireturn, 1) := by decide +kernel
theorem dX9_worksWithin_0 : decode cX9_worksWithin 0 = .ok (.iconst 0, 1) := by decide +kernel
theorem dX9_worksWithin_1 : decode cX9_worksWithin 1 = .ok (.istore_n 3, 1) := by decide +kernel
theorem dX9_worksWithin_2 : decode cX9_worksWithin 2 = .ok (.iload_n 1, 1) := by decide +kernel
theorem dX9_worksWithin_3 : decode cX9_worksWithin 3 = .ok (.istore 4, 2) := by decide +kernel
theorem dX9_worksWithin_5 : decode cX9_worksWithin 5 = .ok (.iload 4, 2) := by decide +kernel
theorem dX9_worksWithin_7 : decode cX9_worksWithin 7 = .ok (.iload_n 1, 1) := by decide +kernel
theorem dX9_worksWithin_8 : decode cX9_worksWithin 8 = .ok (.iload_n 2, 1) := by decide +kernel
theorem dX9_worksWithin_9 : decode cX9_worksWithin 9 = .ok (.iadd, 1) := by decide +kernel
theorem dX9_worksWithin_10 : decode cX9_worksWithin 10 = .ok (.if_icmp .ge 26, 3) := by decide +kernel
theorem dX9_worksWithin_13 : decode cX9_worksWithin 13 = .ok (.iload_n 3, 1) := by decide +kernel
theorem dX9_worksWithin_14 : decode cX9_worksWithin 14 = .ok (.aload_n 0, 1) := by decide +kernel
theorem dX9_worksWithin_15 : decode cX9_worksWithin 15 = .ok (.iload 4, 2) := by decide +kernel
theorem dX9_worksWithin_17 : decode cX9_worksWithin 17 = .ok (.invokevirtual 310, 3) := by decide +kernel
theorem dX9_worksWithin_20 : decode cX9_worksWithin 20 = .ok (.ifCond .eq 7, 3) := by decide +kernel
theorem dX9_worksWithin_23 : decode cX9_worksWithin 23 = .ok (.iconst 1, 1) := by decide +kernel
theorem dX9_worksWithin_24 : decode cX9_worksWithin 24 = .ok (.goto 4, 3) := by decide +kernel
theorem dX9_worksWithin_27 : decode cX9_worksWithin 27 = .ok (.iconst 0, 1) := by decide +kernel
theorem dX9_worksWithin_28 : decode cX9_worksWithin 28 = .ok (.iadd, 1) := by decide +kernel
theorem dX9_worksWithin_29 : decode cX9_worksWithin 29 = .ok (.istore_n 3, 1) := by decide +kernel
theorem dX9_worksWithin_30 : decode cX9_worksWithin 30 = .ok (.iinc 4 1, 3) := by decide +kernel
theorem dX9_worksWithin_33 : decode cX9_worksWithin 33 = .ok (.goto (-28), 3) := by decide +kernel
theorem dX9_worksWithin_36 : decode cX9_worksWithin 36 = .ok (.iload_n 3, 1) := by decide +kernel
theorem dX9_worksWithin_37 : decode cX9_worksWithin 37 = .ok (.ireturn, 1) := by decide +kernel
theorem dX9_workingDays_0 : decode cX9_workingDays 0 = .ok (.aload_n 0, 1) := by decide +kernel
theorem dX9_workingDays_1 : decode cX9_workingDays 1 = .ok (.iconst 0, 1) := by decide +kernel
theorem dX9_workingDays_2 : decode cX9_workingDays 2 = .ok (.putfield 87, 3) := by decide +kernel
theorem dX9_workingDays_5 : decode cX9_workingDays 5 = .ok (.iload_n 1, 1) := by decide +kernel
theorem dX9_workingDays_6 : decode cX9_workingDays 6 = .ok (.invokestatic 126, 3) := by decide +kernel
theorem dX9_workingDays_9 : decode cX9_workingDays 9 = .ok (.ifCond .ne 9, 3) := by decide +kernel
theorem dX9_workingDays_12 : decode cX9_workingDays 12 = .ok (.aload_n 0, 1) := by decide +kernel
theorem dX9_workingDays_13 : decode cX9_workingDays 13 = .ok (.iconst 1, 1) := by decide +kernel
theorem dX9_workingDays_14 : decode cX9_workingDays 14 = .ok (.invokevirtual 123, 3) := by decide +kernel
theorem dX9_workingDays_17 : decode cX9_workingDays 17 = .ok (.ireturn, 1) := by decide +kernel
theorem dX9_workingDays_18 : decode cX9_workingDays 18 = .ok (.iload_n 2, 1) := by decide +kernel
theorem dX9_workingDays_19 : decode cX9_workingDays 19 = .ok (.iconst 0, 1) := by decide +kernel
theorem dX9_workingDays_20 : decode cX9_workingDays 20 = .ok (.sipush 400, 3) := by decide +kernel
theorem dX9_workingDays_23 : decode cX9_workingDays 23 = .ok (.invokestatic 91, 3) := by decide +kernel
theorem dX9_workingDays_26 : decode cX9_workingDays 26 = .ok (.ifCond .eq 20, 3) := by decide +kernel
theorem dX9_workingDays_29 : decode cX9_workingDays 29 = .ok (.iload_n 1, 1) := by decide +kernel
theorem dX9_workingDays_30 : decode cX9_workingDays 30 = .ok (.iload_n 2, 1) := by decide +kernel
theorem dX9_workingDays_31 : decode cX9_workingDays 31 = .ok (.iadd, 1) := by decide +kernel
theorem dX9_workingDays_32 : decode cX9_workingDays 32 = .ok (.ldc 82, 2) := by decide +kernel
theorem dX9_workingDays_34 : decode cX9_workingDays 34 = .ok (.if_icmp .gt 12, 3) := by decide +kernel
theorem dX9_workingDays_37 : decode cX9_workingDays 37 = .ok (.aload_n 0, 1) := by decide +kernel
theorem dX9_workingDays_38 : decode cX9_workingDays 38 = .ok (.iload_n 1, 1) := by decide +kernel
theorem dX9_workingDays_39 : decode cX9_workingDays 39 = .ok (.iload_n 2, 1) := by decide +kernel
theorem dX9_workingDays_40 : decode cX9_workingDays 40 = .ok (.invokevirtual 313, 3) := by decide +kernel
theorem dX9_workingDays_43 : decode cX9_workingDays 43 = .ok (.goto 8, 3) := by decide +kernel
theorem dX9_workingDays_46 : decode cX9_workingDays 46 = .ok (.aload_n 0, 1) := by decide +kernel
theorem dX9_workingDays_47 : decode cX9_workingDays 47 = .ok (.iconst 2, 1) := by decide +kernel
theorem dX9_workingDays_48 : decode cX9_workingDays 48 = .ok (.invokevirtual 123, 3) := by decide +kernel
theorem dX9_workingDays_51 : decode cX9_workingDays 51 = .ok (.ireturn, 1) := by decide +kernel
theorem dX9_behind_0 : decode cX9_behind 0 = .ok (.iload_n 2, 1) := by decide +kernel
theorem dX9_behind_1 : decode cX9_behind 1 = .ok (.invokestatic 316, 3) := by decide +kernel
theorem dX9_behind_4 : decode cX9_behind 4 = .ok (.istore_n 3, 1) := by decide +kernel
theorem dX9_behind_5 : decode cX9_behind 5 = .ok (.iload_n 2, 1) := by decide +kernel
theorem dX9_behind_6 : decode cX9_behind 6 = .ok (.ifCond .ge 7, 3) := by decide +kernel
theorem dX9_behind_9 : decode cX9_behind 9 = .ok (.iconst (-1), 1) := by decide +kernel
theorem dX9_behind_10 : decode cX9_behind 10 = .ok (.goto 4, 3) := by decide +kernel
theorem dX9_behind_13 : decode cX9_behind 13 = .ok (.iconst 1, 1) := by decide +kernel
theorem dX9_behind_14 : decode cX9_behind 14 = .ok (.istore 4, 2) := by decide +kernel
theorem dX9_behind_16 : decode cX9_behind 16 = .ok (.iload_n 1, 1) := by decide +kernel
theorem dX9_behind_17 : decode cX9_behind 17 = .ok (.istore 5, 2) := by decide +kernel
theorem dX9_behind_19 : decode cX9_behind 19 = .ok (.iload_n 3, 1) := by decide +kernel
theorem dX9_behind_20 : decode cX9_behind 20 = .ok (.ifCond .le 48, 3) := by decide +kernel
theorem dX9_behind_23 : decode cX9_behind 23 = .ok (.iload 5, 2) := by decide +kernel
theorem dX9_behind_25 : decode cX9_behind 25 = .ok (.iload 4, 2) := by decide +kernel
theorem dX9_behind_27 : decode cX9_behind 27 = .ok (.iadd, 1) := by decide +kernel
theorem dX9_behind_28 : decode cX9_behind 28 = .ok (.istore 5, 2) := by decide +kernel
theorem dX9_behind_30 : decode cX9_behind 30 = .ok (.iload 5, 2) := by decide +kernel
theorem dX9_behind_32 : decode cX9_behind 32 = .ok (.invokestatic 126, 3) := by decide +kernel
theorem dX9_behind_35 : decode cX9_behind 35 = .ok (.ifCond .eq 16, 3) := by decide +kernel
theorem dX9_behind_38 : decode cX9_behind 38 = .ok (.iload 5, 2) := by decide +kernel
theorem dX9_behind_40 : decode cX9_behind 40 = .ok (.iload_n 1, 1) := by decide +kernel
theorem dX9_behind_41 : decode cX9_behind 41 = .ok (.isub, 1) := by decide +kernel
theorem dX9_behind_42 : decode cX9_behind 42 = .ok (.invokestatic 316, 3) := by decide +kernel
theorem dX9_behind_45 : decode cX9_behind 45 = .ok (.sipush 500, 3) := by decide +kernel
theorem dX9_behind_48 : decode cX9_behind 48 = .ok (.if_icmp .le 5, 3) := by decide +kernel
theorem dX9_behind_51 : decode cX9_behind 51 = .ok (.iconst (-1), 1) := by decide +kernel
theorem dX9_behind_52 : decode cX9_behind 52 = .ok (.ireturn, 1) := by decide +kernel
theorem dX9_behind_53 : decode cX9_behind 53 = .ok (.aload_n 0, 1) := by decide +kernel
theorem dX9_behind_54 : decode cX9_behind 54 = .ok (.iload 5, 2) := by decide +kernel
theorem dX9_behind_56 : decode cX9_behind 56 = .ok (.invokevirtual 310, 3) := by decide +kernel
theorem dX9_behind_59 : decode cX9_behind 59 = .ok (.ifCond .eq (-40), 3) := by decide +kernel
theorem dX9_behind_62 : decode cX9_behind 62 = .ok (.iinc 3 (-1), 3) := by decide +kernel
theorem dX9_behind_65 : decode cX9_behind 65 = .ok (.goto (-46), 3) := by decide +kernel
theorem dX9_behind_68 : decode cX9_behind 68 = .ok (.iload 5, 2) := by decide +kernel
theorem dX9_behind_70 : decode cX9_behind 70 = .ok (.ireturn, 1) := by decide +kernel
theorem dX9_plusWorking_0 : decode cX9_plusWorking 0 = .ok (.aload_n 0, 1) := by decide +kernel
theorem dX9_plusWorking_1 : decode cX9_plusWorking 1 = .ok (.iconst 0, 1) := by decide +kernel
theorem dX9_plusWorking_2 : decode cX9_plusWorking 2 = .ok (.putfield 87, 3) := by decide +kernel
theorem dX9_plusWorking_5 : decode cX9_plusWorking 5 = .ok (.iload_n 1, 1) := by decide +kernel
theorem dX9_plusWorking_6 : decode cX9_plusWorking 6 = .ok (.invokestatic 126, 3) := by decide +kernel
theorem dX9_plusWorking_9 : decode cX9_plusWorking 9 = .ok (.ifCond .ne 9, 3) := by decide +kernel
theorem dX9_plusWorking_12 : decode cX9_plusWorking 12 = .ok (.aload_n 0, 1) := by decide +kernel
theorem dX9_plusWorking_13 : decode cX9_plusWorking 13 = .ok (.iconst 1, 1) := by decide +kernel
theorem dX9_plusWorking_14 : decode cX9_plusWorking 14 = .ok (.invokevirtual 123, 3) := by decide +kernel
theorem dX9_plusWorking_17 : decode cX9_plusWorking 17 = .ok (.ireturn, 1) := by decide +kernel
theorem dX9_plusWorking_18 : decode cX9_plusWorking 18 = .ok (.iload_n 2, 1) := by decide +kernel
theorem dX9_plusWorking_19 : decode cX9_plusWorking 19 = .ok (.sipush (-200), 3) := by decide +kernel
theorem dX9_plusWorking_22 : decode cX9_plusWorking 22 = .ok (.sipush 200, 3) := by decide +kernel
theorem dX9_plusWorking_25 : decode cX9_plusWorking 25 = .ok (.invokestatic 91, 3) := by decide +kernel
theorem dX9_plusWorking_28 : decode cX9_plusWorking 28 = .ok (.ifCond .eq 12, 3) := by decide +kernel
theorem dX9_plusWorking_31 : decode cX9_plusWorking 31 = .ok (.aload_n 0, 1) := by decide +kernel
theorem dX9_plusWorking_32 : decode cX9_plusWorking 32 = .ok (.iload_n 1, 1) := by decide +kernel
theorem dX9_plusWorking_33 : decode cX9_plusWorking 33 = .ok (.iload_n 2, 1) := by decide +kernel
theorem dX9_plusWorking_34 : decode cX9_plusWorking 34 = .ok (.invokevirtual 319, 3) := by decide +kernel
theorem dX9_plusWorking_37 : decode cX9_plusWorking 37 = .ok (.goto 8, 3) := by decide +kernel
theorem dX9_plusWorking_40 : decode cX9_plusWorking 40 = .ok (.aload_n 0, 1) := by decide +kernel
theorem dX9_plusWorking_41 : decode cX9_plusWorking 41 = .ok (.iconst 2, 1) := by decide +kernel
theorem dX9_plusWorking_42 : decode cX9_plusWorking 42 = .ok (.invokevirtual 123, 3) := by decide +kernel
theorem dX9_plusWorking_45 : decode cX9_plusWorking 45 = .ok (.ireturn, 1) := by decide +kernel
theorem dX9_localOfWork_0 : decode cX9_localOfWork 0 = .ok (.aload_n 0, 1) := by decide +kernel
theorem dX9_localOfWork_1 : decode cX9_localOfWork 1 = .ok (.getfield 57, 3) := by decide +kernel
theorem dX9_localOfWork_4 : decode cX9_localOfWork 4 = .ok (.iconst (-1), 1) := by decide +kernel
theorem dX9_localOfWork_5 : decode cX9_localOfWork 5 = .ok (.if_icmp .ne 7, 3) := by decide +kernel
theorem dX9_localOfWork_8 : decode cX9_localOfWork 8 = .ok (.iload_n 1, 1) := by decide +kernel
theorem dX9_localOfWork_9 : decode cX9_localOfWork 9 = .ok (.goto 12, 3) := by decide +kernel
theorem dX9_localOfWork_12 : decode cX9_localOfWork 12 = .ok (.aload_n 0, 1) := by decide +kernel
theorem dX9_localOfWork_13 : decode cX9_localOfWork 13 = .ok (.aload_n 0, 1) := by decide +kernel
theorem dX9_localOfWork_14 : decode cX9_localOfWork 14 = .ok (.getfield 57, 3) := by decide +kernel
theorem dX9_localOfWork_17 : decode cX9_localOfWork 17 = .ok (.iload_n 1, 1) := by decide +kernel
theorem dX9_localOfWork_18 : decode cX9_localOfWork 18 = .ok (.invokevirtual 198, 3) := by decide +kernel
theorem dX9_localOfWork_21 : decode cX9_localOfWork 21 = .ok (.ireturn, 1) := by decide +kernel
theorem dX9_isWork_0 : decode cX9_isWork 0 = .ok (.aload_n 0, 1) := by decide +kernel
theorem dX9_isWork_1 : decode cX9_isWork 1 = .ok (.iload_n 1, 1) := by decide +kernel
theorem dX9_isWork_2 : decode cX9_isWork 2 = .ok (.invokevirtual 322, 3) := by decide +kernel
theorem dX9_isWork_5 : decode cX9_isWork 5 = .ok (.istore_n 2, 1) := by decide +kernel
theorem dX9_isWork_6 : decode cX9_isWork 6 = .ok (.iload_n 2, 1) := by decide +kernel
theorem dX9_isWork_7 : decode cX9_isWork 7 = .ok (.ifCond .lt 9, 3) := by decide +kernel
theorem dX9_isWork_10 : decode cX9_isWork 10 = .ok (.iload_n 2, 1) := by decide +kernel
theorem dX9_isWork_11 : decode cX9_isWork 11 = .ok (.ldc 95, 2) := by decide +kernel
theorem dX9_isWork_13 : decode cX9_isWork 13 = .ok (.if_icmp .le 5, 3) := by decide +kernel
theorem dX9_isWork_16 : decode cX9_isWork 16 = .ok (.iconst 0, 1) := by decide +kernel
theorem dX9_isWork_17 : decode cX9_isWork 17 = .ok (.ireturn, 1) := by decide +kernel
theorem dX9_isWork_18 : decode cX9_isWork 18 = .ok (.iload_n 2, 1) := by decide +kernel
theorem dX9_isWork_19 : decode cX9_isWork 19 = .ok (.sipush 1440, 3) := by decide +kernel
theorem dX9_isWork_22 : decode cX9_isWork 22 = .ok (.irem, 1) := by decide +kernel
theorem dX9_isWork_23 : decode cX9_isWork 23 = .ok (.aload_n 0, 1) := by decide +kernel
theorem dX9_isWork_24 : decode cX9_isWork 24 = .ok (.getfield 64, 3) := by decide +kernel
theorem dX9_isWork_27 : decode cX9_isWork 27 = .ok (.aload_n 0, 1) := by decide +kernel
theorem dX9_isWork_28 : decode cX9_isWork 28 = .ok (.getfield 67, 3) := by decide +kernel
theorem dX9_isWork_31 : decode cX9_isWork 31 = .ok (.iconst 1, 1) := by decide +kernel
theorem dX9_isWork_32 : decode cX9_isWork 32 = .ok (.isub, 1) := by decide +kernel
theorem dX9_isWork_33 : decode cX9_isWork 33 = .ok (.invokestatic 91, 3) := by decide +kernel
theorem dX9_isWork_36 : decode cX9_isWork 36 = .ok (.ifCond .eq 19, 3) := by decide +kernel
theorem dX9_isWork_39 : decode cX9_isWork 39 = .ok (.aload_n 0, 1) := by decide +kernel
theorem dX9_isWork_40 : decode cX9_isWork 40 = .ok (.iload_n 2, 1) := by decide +kernel
theorem dX9_isWork_41 : decode cX9_isWork 41 = .ok (.sipush 1440, 3) := by decide +kernel
theorem dX9_isWork_44 : decode cX9_isWork 44 = .ok (.idiv, 1) := by decide +kernel
theorem dX9_isWork_45 : decode cX9_isWork 45 = .ok (.invokevirtual 310, 3) := by decide +kernel
theorem dX9_isWork_48 : decode cX9_isWork 48 = .ok (.ifCond .eq 7, 3) := by decide +kernel
theorem dX9_isWork_51 : decode cX9_isWork 51 = .ok (.iconst 1, 1) := by decide +kernel
theorem dX9_isWork_52 : decode cX9_isWork 52 = .ok (.goto 4, 3) := by decide +kernel
theorem dX9_isWork_55 : decode cX9_isWork 55 = .ok (.iconst 0, 1) := by decide +kernel
theorem dX9_isWork_56 : decode cX9_isWork 56 = .ok (.ireturn, 1) := by decide +kernel
theorem dX9_isWorkingMinute_0 : decode cX9_isWorkingMinute 0 = .ok (.aload_n 0, 1) := by decide +kernel
theorem dX9_isWorkingMinute_1 : decode cX9_isWorkingMinute 1 = .ok (.iconst 0, 1) := by decide +kernel
theorem dX9_isWorkingMinute_2 : decode cX9_isWorkingMinute 2 = .ok (.putfield 87, 3) := by decide +kernel
theorem dX9_isWorkingMinute_5 : decode cX9_isWorkingMinute 5 = .ok (.iload_n 1, 1) := by decide +kernel
theorem dX9_isWorkingMinute_6 : decode cX9_isWorkingMinute 6 = .ok (.invokestatic 195, 3) := by decide +kernel
theorem dX9_isWorkingMinute_9 : decode cX9_isWorkingMinute 9 = .ok (.ifCond .eq 9, 3) := by decide +kernel
theorem dX9_isWorkingMinute_12 : decode cX9_isWorkingMinute 12 = .ok (.aload_n 0, 1) := by decide +kernel
theorem dX9_isWorkingMinute_13 : decode cX9_isWorkingMinute 13 = .ok (.iload_n 1, 1) := by decide +kernel
theorem dX9_isWorkingMinute_14 : decode cX9_isWorkingMinute 14 = .ok (.invokevirtual 325, 3) := by decide +kernel
theorem dX9_isWorkingMinute_17 : decode cX9_isWorkingMinute 17 = .ok (.ireturn, 1) := by decide +kernel
theorem dX9_isWorkingMinute_18 : decode cX9_isWorkingMinute 18 = .ok (.aload_n 0, 1) := by decide +kernel
theorem dX9_isWorkingMinute_19 : decode cX9_isWorkingMinute 19 = .ok (.iconst 1, 1) := by decide +kernel
theorem dX9_isWorkingMinute_20 : decode cX9_isWorkingMinute 20 = .ok (.putfield 87, 3) := by decide +kernel
theorem dX9_isWorkingMinute_23 : decode cX9_isWorkingMinute 23 = .ok (.iconst 0, 1) := by decide +kernel
theorem dX9_isWorkingMinute_24 : decode cX9_isWorkingMinute 24 = .ok (.ireturn, 1) := by decide +kernel
theorem dX9_workIn_0 : decode cX9_workIn 0 = .ok (.iconst 0, 1) := by decide +kernel
theorem dX9_workIn_1 : decode cX9_workIn 1 = .ok (.istore_n 3, 1) := by decide +kernel
theorem dX9_workIn_2 : decode cX9_workIn 2 = .ok (.iload_n 1, 1) := by decide +kernel
theorem dX9_workIn_3 : decode cX9_workIn 3 = .ok (.istore 4, 2) := by decide +kernel
theorem dX9_workIn_5 : decode cX9_workIn 5 = .ok (.iload 4, 2) := by decide +kernel
theorem dX9_workIn_7 : decode cX9_workIn 7 = .ok (.iload_n 1, 1) := by decide +kernel
theorem dX9_workIn_8 : decode cX9_workIn 8 = .ok (.iload_n 2, 1) := by decide +kernel
theorem dX9_workIn_9 : decode cX9_workIn 9 = .ok (.iadd, 1) := by decide +kernel
theorem dX9_workIn_10 : decode cX9_workIn 10 = .ok (.if_icmp .ge 26, 3) := by decide +kernel
theorem dX9_workIn_13 : decode cX9_workIn 13 = .ok (.iload_n 3, 1) := by decide +kernel
theorem dX9_workIn_14 : decode cX9_workIn 14 = .ok (.aload_n 0, 1) := by decide +kernel
theorem dX9_workIn_15 : decode cX9_workIn 15 = .ok (.iload 4, 2) := by decide +kernel
theorem dX9_workIn_17 : decode cX9_workIn 17 = .ok (.invokevirtual 325, 3) := by decide +kernel
theorem dX9_workIn_20 : decode cX9_workIn 20 = .ok (.ifCond .eq 7, 3) := by decide +kernel
theorem dX9_workIn_23 : decode cX9_workIn 23 = .ok (.iconst 1, 1) := by decide +kernel
theorem dX9_workIn_24 : decode cX9_workIn 24 = .ok (.goto 4, 3) := by decide +kernel
theorem dX9_workIn_27 : decode cX9_workIn 27 = .ok (.iconst 0, 1) := by decide +kernel
theorem dX9_workIn_28 : decode cX9_workIn 28 = .ok (.iadd, 1) := by decide +kernel
theorem dX9_workIn_29 : decode cX9_workIn 29 = .ok (.istore_n 3, 1) := by decide +kernel
theorem dX9_workIn_30 : decode cX9_workIn 30 = .ok (.iinc 4 1, 3) := by decide +kernel
theorem dX9_workIn_33 : decode cX9_workIn 33 = .ok (.goto (-28), 3) := by decide +kernel
theorem dX9_workIn_36 : decode cX9_workIn 36 = .ok (.iload_n 3, 1) := by decide +kernel
theorem dX9_workIn_37 : decode cX9_workIn 37 = .ok (.ireturn, 1) := by decide +kernel
theorem dX9_workWithin_0 : decode cX9_workWithin 0 = .ok (.aload_n 0, 1) := by decide +kernel
theorem dX9_workWithin_1 : decode cX9_workWithin 1 = .ok (.iconst 0, 1) := by decide +kernel
theorem dX9_workWithin_2 : decode cX9_workWithin 2 = .ok (.putfield 87, 3) := by decide +kernel
theorem dX9_workWithin_5 : decode cX9_workWithin 5 = .ok (.iload_n 1, 1) := by decide +kernel
theorem dX9_workWithin_6 : decode cX9_workWithin 6 = .ok (.invokestatic 195, 3) := by decide +kernel
theorem dX9_workWithin_9 : decode cX9_workWithin 9 = .ok (.ifCond .ne 9, 3) := by decide +kernel
theorem dX9_workWithin_12 : decode cX9_workWithin 12 = .ok (.aload_n 0, 1) := by decide +kernel
theorem dX9_workWithin_13 : decode cX9_workWithin 13 = .ok (.iconst 1, 1) := by decide +kernel
theorem dX9_workWithin_14 : decode cX9_workWithin 14 = .ok (.invokevirtual 123, 3) := by decide +kernel
theorem dX9_workWithin_17 : decode cX9_workWithin 17 = .ok (.ireturn, 1) := by decide +kernel
theorem dX9_workWithin_18 : decode cX9_workWithin 18 = .ok (.iload_n 2, 1) := by decide +kernel
theorem dX9_workWithin_19 : decode cX9_workWithin 19 = .ok (.iconst 0, 1) := by decide +kernel
theorem dX9_workWithin_20 : decode cX9_workWithin 20 = .ok (.ldc_w 328, 3) := by decide +kernel
theorem dX9_workWithin_23 : decode cX9_workWithin 23 = .ok (.invokestatic 91, 3) := by decide +kernel
theorem dX9_workWithin_26 : decode cX9_workWithin 26 = .ok (.ifCond .eq 21, 3) := by decide +kernel
theorem dX9_workWithin_29 : decode cX9_workWithin 29 = .ok (.iload_n 1, 1) := by decide +kernel
theorem dX9_workWithin_30 : decode cX9_workWithin 30 = .ok (.iload_n 2, 1) := by decide +kernel
theorem dX9_workWithin_31 : decode cX9_workWithin 31 = .ok (.iadd, 1) := by decide +kernel
theorem dX9_workWithin_32 : decode cX9_workWithin 32 = .ok (.ldc_w 329, 3) := by decide +kernel
theorem dX9_workWithin_35 : decode cX9_workWithin 35 = .ok (.if_icmp .gt 12, 3) := by decide +kernel
theorem dX9_workWithin_38 : decode cX9_workWithin 38 = .ok (.aload_n 0, 1) := by decide +kernel
theorem dX9_workWithin_39 : decode cX9_workWithin 39 = .ok (.iload_n 1, 1) := by decide +kernel
theorem dX9_workWithin_40 : decode cX9_workWithin 40 = .ok (.iload_n 2, 1) := by decide +kernel
theorem dX9_workWithin_41 : decode cX9_workWithin 41 = .ok (.invokevirtual 330, 3) := by decide +kernel
theorem dX9_workWithin_44 : decode cX9_workWithin 44 = .ok (.goto 8, 3) := by decide +kernel
theorem dX9_workWithin_47 : decode cX9_workWithin 47 = .ok (.aload_n 0, 1) := by decide +kernel
theorem dX9_workWithin_48 : decode cX9_workWithin 48 = .ok (.iconst 2, 1) := by decide +kernel
theorem dX9_workWithin_49 : decode cX9_workWithin 49 = .ok (.invokevirtual 123, 3) := by decide +kernel
theorem dX9_workWithin_52 : decode cX9_workWithin 52 = .ok (.ireturn, 1) := by decide +kernel
theorem dX9_done_0 : decode cX9_done 0 = .ok (.iload_n 2, 1) := by decide +kernel
theorem dX9_done_1 : decode cX9_done 1 = .ok (.istore_n 3, 1) := by decide +kernel
theorem dX9_done_2 : decode cX9_done 2 = .ok (.iload_n 1, 1) := by decide +kernel
theorem dX9_done_3 : decode cX9_done 3 = .ok (.istore 4, 2) := by decide +kernel
theorem dX9_done_5 : decode cX9_done 5 = .ok (.iload_n 3, 1) := by decide +kernel
theorem dX9_done_6 : decode cX9_done 6 = .ok (.ifCond .le 40, 3) := by decide +kernel
theorem dX9_done_9 : decode cX9_done 9 = .ok (.iload 4, 2) := by decide +kernel
theorem dX9_done_11 : decode cX9_done 11 = .ok (.ldc 95, 2) := by decide +kernel
theorem dX9_done_13 : decode cX9_done 13 = .ok (.if_icmp .eq 13, 3) := by decide +kernel
theorem dX9_done_16 : decode cX9_done 16 = .ok (.iload 4, 2) := by decide +kernel
theorem dX9_done_18 : decode cX9_done 18 = .ok (.iload_n 1, 1) := by decide +kernel
theorem dX9_done_19 : decode cX9_done 19 = .ok (.isub, 1) := by decide +kernel
theorem dX9_done_20 : decode cX9_done 20 = .ok (.ldc_w 328, 3) := by decide +kernel
theorem dX9_done_23 : decode cX9_done 23 = .ok (.if_icmp .ne 5, 3) := by decide +kernel
theorem dX9_done_26 : decode cX9_done 26 = .ok (.iconst (-1), 1) := by decide +kernel
theorem dX9_done_27 : decode cX9_done 27 = .ok (.ireturn, 1) := by decide +kernel
theorem dX9_done_28 : decode cX9_done 28 = .ok (.aload_n 0, 1) := by decide +kernel
theorem dX9_done_29 : decode cX9_done 29 = .ok (.iload 4, 2) := by decide +kernel
theorem dX9_done_31 : decode cX9_done 31 = .ok (.invokevirtual 325, 3) := by decide +kernel
theorem dX9_done_34 : decode cX9_done 34 = .ok (.ifCond .eq 6, 3) := by decide +kernel
theorem dX9_done_37 : decode cX9_done 37 = .ok (.iinc 3 (-1), 3) := by decide +kernel
theorem dX9_done_40 : decode cX9_done 40 = .ok (.iinc 4 1, 3) := by decide +kernel
theorem dX9_done_43 : decode cX9_done 43 = .ok (.goto (-38), 3) := by decide +kernel
theorem dX9_done_46 : decode cX9_done 46 = .ok (.iload 4, 2) := by decide +kernel
theorem dX9_done_48 : decode cX9_done 48 = .ok (.ireturn, 1) := by decide +kernel
theorem dX9_doneAt_0 : decode cX9_doneAt 0 = .ok (.aload_n 0, 1) := by decide +kernel
theorem dX9_doneAt_1 : decode cX9_doneAt 1 = .ok (.iconst 0, 1) := by decide +kernel
theorem dX9_doneAt_2 : decode cX9_doneAt 2 = .ok (.putfield 87, 3) := by decide +kernel
theorem dX9_doneAt_5 : decode cX9_doneAt 5 = .ok (.iload_n 1, 1) := by decide +kernel
theorem dX9_doneAt_6 : decode cX9_doneAt 6 = .ok (.invokestatic 195, 3) := by decide +kernel
theorem dX9_doneAt_9 : decode cX9_doneAt 9 = .ok (.ifCond .ne 9, 3) := by decide +kernel
theorem dX9_doneAt_12 : decode cX9_doneAt 12 = .ok (.aload_n 0, 1) := by decide +kernel
theorem dX9_doneAt_13 : decode cX9_doneAt 13 = .ok (.iconst 1, 1) := by decide +kernel
theorem dX9_doneAt_14 : decode cX9_doneAt 14 = .ok (.invokevirtual 123, 3) := by decide +kernel
theorem dX9_doneAt_17 : decode cX9_doneAt 17 = .ok (.ireturn, 1) := by decide +kernel
theorem dX9_doneAt_18 : decode cX9_doneAt 18 = .ok (.iload_n 2, 1) := by decide +kernel
theorem dX9_doneAt_19 : decode cX9_doneAt 19 = .ok (.iconst 1, 1) := by decide +kernel
theorem dX9_doneAt_20 : decode cX9_doneAt 20 = .ok (.sipush 10000, 3) := by decide +kernel
theorem dX9_doneAt_23 : decode cX9_doneAt 23 = .ok (.invokestatic 91, 3) := by decide +kernel
theorem dX9_doneAt_26 : decode cX9_doneAt 26 = .ok (.ifCond .eq 12, 3) := by decide +kernel
theorem dX9_doneAt_29 : decode cX9_doneAt 29 = .ok (.aload_n 0, 1) := by decide +kernel
theorem dX9_doneAt_30 : decode cX9_doneAt 30 = .ok (.iload_n 1, 1) := by decide +kernel
theorem dX9_doneAt_31 : decode cX9_doneAt 31 = .ok (.iload_n 2, 1) := by decide +kernel
theorem dX9_doneAt_32 : decode cX9_doneAt 32 = .ok (.invokevirtual 333, 3) := by decide +kernel
theorem dX9_doneAt_35 : decode cX9_doneAt 35 = .ok (.goto 8, 3) := by decide +kernel
theorem dX9_doneAt_38 : decode cX9_doneAt 38 = .ok (.aload_n 0, 1) := by decide +kernel
theorem dX9_doneAt_39 : decode cX9_doneAt 39 = .ok (.iconst 2, 1) := by decide +kernel
theorem dX9_doneAt_40 : decode cX9_doneAt 40 = .ok (.invokevirtual 123, 3) := by decide +kernel
theorem dX9_doneAt_43 : decode cX9_doneAt 43 = .ok (.ireturn, 1) := by decide +kernel
theorem dX9_meanGap_0 : decode cX9_meanGap 0 = .ok (.aload_n 0, 1) := by decide +kernel
theorem dX9_meanGap_1 : decode cX9_meanGap 1 = .ok (.iconst 0, 1) := by decide +kernel
theorem dX9_meanGap_2 : decode cX9_meanGap 2 = .ok (.putfield 87, 3) := by decide +kernel
theorem dX9_meanGap_5 : decode cX9_meanGap 5 = .ok (.aload_n 0, 1) := by decide +kernel
theorem dX9_meanGap_6 : decode cX9_meanGap 6 = .ok (.iload_n 1, 1) := by decide +kernel
theorem dX9_meanGap_7 : decode cX9_meanGap 7 = .ok (.invokevirtual 231, 3) := by decide +kernel
theorem dX9_meanGap_10 : decode cX9_meanGap 10 = .ok (.ifCond .ne 10, 3) := by decide +kernel
theorem dX9_meanGap_13 : decode cX9_meanGap 13 = .ok (.aload_n 0, 1) := by decide +kernel
theorem dX9_meanGap_14 : decode cX9_meanGap 14 = .ok (.iconst 1, 1) := by decide +kernel
theorem dX9_meanGap_15 : decode cX9_meanGap 15 = .ok (.invokevirtual 123, 3) := by decide +kernel
theorem dX9_meanGap_18 : decode cX9_meanGap 18 = .ok (.i2d, 1) := by decide +kernel
theorem dX9_meanGap_19 : decode cX9_meanGap 19 = .ok (.dreturn, 1) := by decide +kernel
theorem dX9_meanGap_20 : decode cX9_meanGap 20 = .ok (.aload_n 0, 1) := by decide +kernel
theorem dX9_meanGap_21 : decode cX9_meanGap 21 = .ok (.iload_n 1, 1) := by decide +kernel
theorem dX9_meanGap_22 : decode cX9_meanGap 22 = .ok (.invokevirtual 266, 3) := by decide +kernel
theorem dX9_meanGap_25 : decode cX9_meanGap 25 = .ok (.astore_n 2, 1) := by decide +kernel
theorem dX9_meanGap_26 : decode cX9_meanGap 26 = .ok (.aload_n 2, 1) := by decide +kernel
theorem dX9_meanGap_27 : decode cX9_meanGap 27 = .ok (.arraylength, 1) := by decide +kernel
theorem dX9_meanGap_28 : decode cX9_meanGap 28 = .ok (.iconst 1, 1) := by decide +kernel
theorem dX9_meanGap_29 : decode cX9_meanGap 29 = .ok (.isub, 1) := by decide +kernel
theorem dX9_meanGap_30 : decode cX9_meanGap 30 = .ok (.istore_n 3, 1) := by decide +kernel
theorem dX9_meanGap_31 : decode cX9_meanGap 31 = .ok (.iload_n 3, 1) := by decide +kernel
theorem dX9_meanGap_32 : decode cX9_meanGap 32 = .ok (.iconst 1, 1) := by decide +kernel
theorem dX9_meanGap_33 : decode cX9_meanGap 33 = .ok (.if_icmp .ge 7, 3) := by decide +kernel
theorem dX9_meanGap_36 : decode cX9_meanGap 36 = .ok (.dconst 0, 1) := by decide +kernel
theorem dX9_meanGap_37 : decode cX9_meanGap 37 = .ok (.goto 14, 3) := by decide +kernel
theorem dX9_meanGap_40 : decode cX9_meanGap 40 = .ok (.aload_n 2, 1) := by decide +kernel
theorem dX9_meanGap_41 : decode cX9_meanGap 41 = .ok (.iload_n 3, 1) := by decide +kernel
theorem dX9_meanGap_42 : decode cX9_meanGap 42 = .ok (.iaload, 1) := by decide +kernel
theorem dX9_meanGap_43 : decode cX9_meanGap 43 = .ok (.aload_n 2, 1) := by decide +kernel
theorem dX9_meanGap_44 : decode cX9_meanGap 44 = .ok (.iconst 0, 1) := by decide +kernel
theorem dX9_meanGap_45 : decode cX9_meanGap 45 = .ok (.iaload, 1) := by decide +kernel
theorem dX9_meanGap_46 : decode cX9_meanGap 46 = .ok (.isub, 1) := by decide +kernel
theorem dX9_meanGap_47 : decode cX9_meanGap 47 = .ok (.i2d, 1) := by decide +kernel
theorem dX9_meanGap_48 : decode cX9_meanGap 48 = .ok (.iload_n 3, 1) := by decide +kernel
theorem dX9_meanGap_49 : decode cX9_meanGap 49 = .ok (.i2d, 1) := by decide +kernel
theorem dX9_meanGap_50 : decode cX9_meanGap 50 = .ok (.ddiv, 1) := by decide +kernel
theorem dX9_meanGap_51 : decode cX9_meanGap 51 = .ok (.dreturn, 1) := by decide +kernel
theorem dX9_add_0 : decode cX9_add 0 = .ok (.aload_n 0, 1) := by decide +kernel
theorem dX9_add_1 : decode cX9_add 1 = .ok (.aload_n 0, 1) := by decide +kernel
theorem dX9_add_2 : decode cX9_add 2 = .ok (.getfield 336, 3) := by decide +kernel
theorem dX9_add_5 : decode cX9_add 5 = .ok (.ldc2_w 340, 3) := by decide +kernel
theorem dX9_add_8 : decode cX9_add 8 = .ok (.lmul, 1) := by decide +kernel
theorem dX9_add_9 : decode cX9_add 9 = .ok (.iload_n 1, 1) := by decide +kernel
theorem dX9_add_10 : decode cX9_add 10 = .ok (.i2l, 1) := by decide +kernel
theorem dX9_add_11 : decode cX9_add 11 = .ok (.ladd, 1) := by decide +kernel
theorem dX9_add_12 : decode cX9_add 12 = .ok (.putfield 336, 3) := by decide +kernel
theorem dX9_add_15 : decode cX9_add 15 = .ok (.return_, 1) := by decide +kernel
theorem dX9_addSeries__0 : decode cX9_addSeries_ 0 = .ok (.aload_n 0, 1) := by decide +kernel
theorem dX9_addSeries__1 : decode cX9_addSeries_ 1 = .ok (.iload_n 1, 1) := by decide +kernel
theorem dX9_addSeries__2 : decode cX9_addSeries_ 2 = .ok (.invokevirtual 266, 3) := by decide +kernel
theorem dX9_addSeries__5 : decode cX9_addSeries_ 5 = .ok (.astore_n 2, 1) := by decide +kernel
theorem dX9_addSeries__6 : decode cX9_addSeries_ 6 = .ok (.aload_n 0, 1) := by decide +kernel
theorem dX9_addSeries__7 : decode cX9_addSeries_ 7 = .ok (.aload_n 2, 1) := by decide +kernel
theorem dX9_addSeries__8 : decode cX9_addSeries_ 8 = .ok (.arraylength, 1) := by decide +kernel
theorem dX9_addSeries__9 : decode cX9_addSeries_ 9 = .ok (.invokevirtual 342, 3) := by decide +kernel
theorem dX9_addSeries__12 : decode cX9_addSeries_ 12 = .ok (.aload_n 0, 1) := by decide +kernel
theorem dX9_addSeries__13 : decode cX9_addSeries_ 13 = .ok (.aload_n 0, 1) := by decide +kernel
theorem dX9_addSeries__14 : decode cX9_addSeries_ 14 = .ok (.iload_n 1, 1) := by decide +kernel
theorem dX9_addSeries__15 : decode cX9_addSeries_ 15 = .ok (.invokevirtual 278, 3) := by decide +kernel
theorem dX9_addSeries__18 : decode cX9_addSeries_ 18 = .ok (.invokevirtual 342, 3) := by decide +kernel
theorem dX9_addSeries__21 : decode cX9_addSeries_ 21 = .ok (.aload_n 2, 1) := by decide +kernel
theorem dX9_addSeries__22 : decode cX9_addSeries_ 22 = .ok (.arraylength, 1) := by decide +kernel
theorem dX9_addSeries__23 : decode cX9_addSeries_ 23 = .ok (.ifCond .ne 4, 3) := by decide +kernel
theorem dX9_addSeries__26 : decode cX9_addSeries_ 26 = .ok (.return_, 1) := by decide +kernel
theorem dX9_addSeries__27 : decode cX9_addSeries_ 27 = .ok (.iconst 0, 1) := by decide +kernel
theorem dX9_addSeries__28 : decode cX9_addSeries_ 28 = .ok (.istore_n 3, 1) := by decide +kernel
theorem dX9_addSeries__29 : decode cX9_addSeries_ 29 = .ok (.iload_n 3, 1) := by decide +kernel
theorem dX9_addSeries__30 : decode cX9_addSeries_ 30 = .ok (.aload_n 2, 1) := by decide +kernel
theorem dX9_addSeries__31 : decode cX9_addSeries_ 31 = .ok (.arraylength, 1) := by decide +kernel
theorem dX9_addSeries__32 : decode cX9_addSeries_ 32 = .ok (.if_icmp .ge 36, 3) := by decide +kernel
theorem dX9_addSeries__35 : decode cX9_addSeries_ 35 = .ok (.aload_n 0, 1) := by decide +kernel
theorem dX9_addSeries__36 : decode cX9_addSeries_ 36 = .ok (.aload_n 2, 1) := by decide +kernel
theorem dX9_addSeries__37 : decode cX9_addSeries_ 37 = .ok (.iload_n 3, 1) := by decide +kernel
theorem dX9_addSeries__38 : decode cX9_addSeries_ 38 = .ok (.iaload, 1) := by decide +kernel
theorem dX9_addSeries__39 : decode cX9_addSeries_ 39 = .ok (.invokevirtual 342, 3) := by decide +kernel
theorem dX9_addSeries__42 : decode cX9_addSeries_ 42 = .ok (.aload_n 0, 1) := by decide +kernel
theorem dX9_addSeries__43 : decode cX9_addSeries_ 43 = .ok (.aload_n 0, 1) := by decide +kernel
theorem dX9_addSeries__44 : decode cX9_addSeries_ 44 = .ok (.iload_n 1, 1) := by decide +kernel
theorem dX9_addSeries__45 : decode cX9_addSeries_ 45 = .ok (.aload_n 2, 1) := by decide +kernel
theorem dX9_addSeries__46 : decode cX9_addSeries_ 46 = .ok (.iload_n 3, 1) := by decide +kernel
theorem dX9_addSeries__47 : decode cX9_addSeries_ 47 = .ok (.iaload, 1) := by decide +kernel
theorem dX9_addSeries__48 : decode cX9_addSeries_ 48 = .ok (.invokevirtual 272, 3) := by decide +kernel
theorem dX9_addSeries__51 : decode cX9_addSeries_ 51 = .ok (.invokevirtual 342, 3) := by decide +kernel
theorem dX9_addSeries__54 : decode cX9_addSeries_ 54 = .ok (.iload_n 3, 1) := by decide +kernel
theorem dX9_addSeries__55 : decode cX9_addSeries_ 55 = .ok (.iconst 1, 1) := by decide +kernel
theorem dX9_addSeries__56 : decode cX9_addSeries_ 56 = .ok (.aload_n 2, 1) := by decide +kernel
theorem dX9_addSeries__57 : decode cX9_addSeries_ 57 = .ok (.arraylength, 1) := by decide +kernel
theorem dX9_addSeries__58 : decode cX9_addSeries_ 58 = .ok (.iconst 1, 1) := by decide +kernel
theorem dX9_addSeries__59 : decode cX9_addSeries_ 59 = .ok (.isub, 1) := by decide +kernel
theorem dX9_addSeries__60 : decode cX9_addSeries_ 60 = .ok (.invokestatic 182, 3) := by decide +kernel
theorem dX9_addSeries__63 : decode cX9_addSeries_ 63 = .ok (.iadd, 1) := by decide +kernel
theorem dX9_addSeries__64 : decode cX9_addSeries_ 64 = .ok (.istore_n 3, 1) := by decide +kernel
theorem dX9_addSeries__65 : decode cX9_addSeries_ 65 = .ok (.goto (-36), 3) := by decide +kernel
theorem dX9_addSeries__68 : decode cX9_addSeries_ 68 = .ok (.iconst 0, 1) := by decide +kernel
theorem dX9_addSeries__69 : decode cX9_addSeries_ 69 = .ok (.istore_n 3, 1) := by decide +kernel
theorem dX9_addSeries__70 : decode cX9_addSeries_ 70 = .ok (.iload_n 3, 1) := by decide +kernel
theorem dX9_addSeries__71 : decode cX9_addSeries_ 71 = .ok (.aload_n 0, 1) := by decide +kernel
theorem dX9_addSeries__72 : decode cX9_addSeries_ 72 = .ok (.getfield 228, 3) := by decide +kernel
theorem dX9_addSeries__75 : decode cX9_addSeries_ 75 = .ok (.if_icmp .ge 19, 3) := by decide +kernel
theorem dX9_addSeries__78 : decode cX9_addSeries_ 78 = .ok (.aload_n 0, 1) := by decide +kernel
theorem dX9_addSeries__79 : decode cX9_addSeries_ 79 = .ok (.aload_n 0, 1) := by decide +kernel
theorem dX9_addSeries__80 : decode cX9_addSeries_ 80 = .ok (.iload_n 1, 1) := by decide +kernel
theorem dX9_addSeries__81 : decode cX9_addSeries_ 81 = .ok (.iload_n 3, 1) := by decide +kernel
theorem dX9_addSeries__82 : decode cX9_addSeries_ 82 = .ok (.invokevirtual 275, 3) := by decide +kernel
theorem dX9_addSeries__85 : decode cX9_addSeries_ 85 = .ok (.invokevirtual 342, 3) := by decide +kernel
theorem dX9_addSeries__88 : decode cX9_addSeries_ 88 = .ok (.iinc 3 1, 3) := by decide +kernel
theorem dX9_addSeries__91 : decode cX9_addSeries_ 91 = .ok (.goto (-21), 3) := by decide +kernel
theorem dX9_addSeries__94 : decode cX9_addSeries_ 94 = .ok (.return_, 1) := by decide +kernel
theorem dX9_digest_0 : decode cX9_digest 0 = .ok (.aload_n 0, 1) := by decide +kernel
theorem dX9_digest_1 : decode cX9_digest 1 = .ok (.iconst 0, 1) := by decide +kernel
theorem dX9_digest_2 : decode cX9_digest 2 = .ok (.putfield 87, 3) := by decide +kernel
theorem dX9_digest_5 : decode cX9_digest 5 = .ok (.aload_n 0, 1) := by decide +kernel
theorem dX9_digest_6 : decode cX9_digest 6 = .ok (.ldc2_w 345, 3) := by decide +kernel
theorem dX9_digest_9 : decode cX9_digest 9 = .ok (.putfield 336, 3) := by decide +kernel
theorem dX9_digest_12 : decode cX9_digest 12 = .ok (.aload_n 0, 1) := by decide +kernel
theorem dX9_digest_13 : decode cX9_digest 13 = .ok (.aload_n 0, 1) := by decide +kernel
theorem dX9_digest_14 : decode cX9_digest 14 = .ok (.getfield 142, 3) := by decide +kernel
theorem dX9_digest_17 : decode cX9_digest 17 = .ok (.invokevirtual 342, 3) := by decide +kernel
theorem dX9_digest_20 : decode cX9_digest 20 = .ok (.iconst 0, 1) := by decide +kernel
theorem dX9_digest_21 : decode cX9_digest 21 = .ok (.istore_n 1, 1) := by decide +kernel
theorem dX9_digest_22 : decode cX9_digest 22 = .ok (.iload_n 1, 1) := by decide +kernel
theorem dX9_digest_23 : decode cX9_digest 23 = .ok (.aload_n 0, 1) := by decide +kernel
theorem dX9_digest_24 : decode cX9_digest 24 = .ok (.getfield 142, 3) := by decide +kernel
theorem dX9_digest_27 : decode cX9_digest 27 = .ok (.if_icmp .ge 33, 3) := by decide +kernel
theorem dX9_digest_30 : decode cX9_digest 30 = .ok (.aload_n 0, 1) := by decide +kernel
theorem dX9_digest_31 : decode cX9_digest 31 = .ok (.aload_n 0, 1) := by decide +kernel
theorem dX9_digest_32 : decode cX9_digest 32 = .ok (.iload_n 1, 1) := by decide +kernel
theorem dX9_digest_33 : decode cX9_digest 33 = .ok (.sipush 2000, 3) := by decide +kernel
theorem dX9_digest_36 : decode cX9_digest 36 = .ok (.invokevirtual 347, 3) := by decide +kernel
theorem dX9_digest_39 : decode cX9_digest 39 = .ok (.invokevirtual 342, 3) := by decide +kernel
theorem dX9_digest_42 : decode cX9_digest 42 = .ok (.aload_n 0, 1) := by decide +kernel
theorem dX9_digest_43 : decode cX9_digest 43 = .ok (.aload_n 0, 1) := by decide +kernel
theorem dX9_digest_44 : decode cX9_digest 44 = .ok (.iload_n 1, 1) := by decide +kernel
theorem dX9_digest_45 : decode cX9_digest 45 = .ok (.ldc_w 350, 3) := by decide +kernel
theorem dX9_digest_48 : decode cX9_digest 48 = .ok (.invokevirtual 155, 3) := by decide +kernel
theorem dX9_digest_51 : decode cX9_digest 51 = .ok (.invokevirtual 342, 3) := by decide +kernel
theorem dX9_digest_54 : decode cX9_digest 54 = .ok (.iinc 1 1, 3) := by decide +kernel
theorem dX9_digest_57 : decode cX9_digest 57 = .ok (.goto (-35), 3) := by decide +kernel
theorem dX9_digest_60 : decode cX9_digest 60 = .ok (.aload_n 0, 1) := by decide +kernel
theorem dX9_digest_61 : decode cX9_digest 61 = .ok (.aload_n 0, 1) := by decide +kernel
theorem dX9_digest_62 : decode cX9_digest 62 = .ok (.getfield 158, 3) := by decide +kernel
theorem dX9_digest_65 : decode cX9_digest 65 = .ok (.invokevirtual 342, 3) := by decide +kernel
theorem dX9_digest_68 : decode cX9_digest 68 = .ok (.iconst 0, 1) := by decide +kernel
theorem dX9_digest_69 : decode cX9_digest 69 = .ok (.istore_n 1, 1) := by decide +kernel
theorem dX9_digest_70 : decode cX9_digest 70 = .ok (.iload_n 1, 1) := by decide +kernel
theorem dX9_digest_71 : decode cX9_digest 71 = .ok (.aload_n 0, 1) := by decide +kernel
theorem dX9_digest_72 : decode cX9_digest 72 = .ok (.getfield 158, 3) := by decide +kernel
theorem dX9_digest_75 : decode cX9_digest 75 = .ok (.if_icmp .ge 92, 3) := by decide +kernel
theorem dX9_digest_78 : decode cX9_digest 78 = .ok (.aload_n 0, 1) := by decide +kernel
theorem dX9_digest_79 : decode cX9_digest 79 = .ok (.aload_n 0, 1) := by decide +kernel
theorem dX9_digest_80 : decode cX9_digest 80 = .ok (.iload_n 1, 1) := by decide +kernel
theorem dX9_digest_81 : decode cX9_digest 81 = .ok (.ldc_w 351, 3) := by decide +kernel
theorem dX9_digest_84 : decode cX9_digest 84 = .ok (.invokevirtual 352, 3) := by decide +kernel
theorem dX9_digest_87 : decode cX9_digest 87 = .ok (.invokevirtual 342, 3) := by decide +kernel
theorem dX9_digest_90 : decode cX9_digest 90 = .ok (.aload_n 0, 1) := by decide +kernel
theorem dX9_digest_91 : decode cX9_digest 91 = .ok (.aload_n 0, 1) := by decide +kernel
theorem dX9_digest_92 : decode cX9_digest 92 = .ok (.iload_n 1, 1) := by decide +kernel
theorem dX9_digest_93 : decode cX9_digest 93 = .ok (.ldc_w 351, 3) := by decide +kernel
theorem dX9_digest_96 : decode cX9_digest 96 = .ok (.invokevirtual 198, 3) := by decide +kernel
theorem dX9_digest_99 : decode cX9_digest 99 = .ok (.invokevirtual 342, 3) := by decide +kernel
theorem dX9_digest_102 : decode cX9_digest 102 = .ok (.aload_n 0, 1) := by decide +kernel
theorem dX9_digest_103 : decode cX9_digest 103 = .ok (.aload_n 0, 1) := by decide +kernel
theorem dX9_digest_104 : decode cX9_digest 104 = .ok (.iload_n 1, 1) := by decide +kernel
theorem dX9_digest_105 : decode cX9_digest 105 = .ok (.ldc_w 351, 3) := by decide +kernel
theorem dX9_digest_108 : decode cX9_digest 108 = .ok (.invokevirtual 201, 3) := by decide +kernel
theorem dX9_digest_111 : decode cX9_digest 111 = .ok (.invokevirtual 342, 3) := by decide +kernel
theorem dX9_digest_114 : decode cX9_digest 114 = .ok (.aload_n 0, 1) := by decide +kernel
theorem dX9_digest_115 : decode cX9_digest 115 = .ok (.iload_n 1, 1) := by decide +kernel
theorem dX9_digest_116 : decode cX9_digest 116 = .ok (.ldc2_w 355, 3) := by decide +kernel
theorem dX9_digest_119 : decode cX9_digest 119 = .ok (.invokevirtual 221, 3) := by decide +kernel
theorem dX9_digest_122 : decode cX9_digest 122 = .ok (.aload_n 0, 1) := by decide +kernel
theorem dX9_digest_123 : decode cX9_digest 123 = .ok (.aload_n 0, 1) := by decide +kernel
theorem dX9_digest_124 : decode cX9_digest 124 = .ok (.getfield 210, 3) := by decide +kernel
theorem dX9_digest_127 : decode cX9_digest 127 = .ok (.invokevirtual 342, 3) := by decide +kernel
theorem dX9_digest_130 : decode cX9_digest 130 = .ok (.aload_n 0, 1) := by decide +kernel
theorem dX9_digest_131 : decode cX9_digest 131 = .ok (.aload_n 0, 1) := by decide +kernel
theorem dX9_digest_132 : decode cX9_digest 132 = .ok (.getfield 204, 3) := by decide +kernel
theorem dX9_digest_135 : decode cX9_digest 135 = .ok (.iconst (-1), 1) := by decide +kernel
theorem dX9_digest_136 : decode cX9_digest 136 = .ok (.if_icmp .eq 10, 3) := by decide +kernel
theorem dX9_digest_139 : decode cX9_digest 139 = .ok (.aload_n 0, 1) := by decide +kernel
theorem dX9_digest_140 : decode cX9_digest 140 = .ok (.getfield 204, 3) := by decide +kernel
theorem dX9_digest_143 : decode cX9_digest 143 = .ok (.goto 7, 3) := by decide +kernel
theorem dX9_digest_146 : decode cX9_digest 146 = .ok (.aload_n 0, 1) := by decide +kernel
theorem dX9_digest_147 : decode cX9_digest 147 = .ok (.getfield 213, 3) := by decide +kernel
theorem dX9_digest_150 : decode cX9_digest 150 = .ok (.invokevirtual 342, 3) := by decide +kernel
theorem dX9_digest_153 : decode cX9_digest 153 = .ok (.aload_n 0, 1) := by decide +kernel
theorem dX9_digest_154 : decode cX9_digest 154 = .ok (.aload_n 0, 1) := by decide +kernel
theorem dX9_digest_155 : decode cX9_digest 155 = .ok (.getfield 207, 3) := by decide +kernel
theorem dX9_digest_158 : decode cX9_digest 158 = .ok (.invokevirtual 342, 3) := by decide +kernel
theorem dX9_digest_161 : decode cX9_digest 161 = .ok (.iinc 1 1, 3) := by decide +kernel
theorem dX9_digest_164 : decode cX9_digest 164 = .ok (.goto (-94), 3) := by decide +kernel
theorem dX9_digest_167 : decode cX9_digest 167 = .ok (.aload_n 0, 1) := by decide +kernel
theorem dX9_digest_168 : decode cX9_digest 168 = .ok (.aload_n 0, 1) := by decide +kernel
theorem dX9_digest_169 : decode cX9_digest 169 = .ok (.getfield 228, 3) := by decide +kernel
theorem dX9_digest_172 : decode cX9_digest 172 = .ok (.invokevirtual 342, 3) := by decide +kernel
theorem dX9_digest_175 : decode cX9_digest 175 = .ok (.iconst 0, 1) := by decide +kernel
theorem dX9_digest_176 : decode cX9_digest 176 = .ok (.istore_n 1, 1) := by decide +kernel
theorem dX9_digest_177 : decode cX9_digest 177 = .ok (.iload_n 1, 1) := by decide +kernel
theorem dX9_digest_178 : decode cX9_digest 178 = .ok (.aload_n 0, 1) := by decide +kernel
theorem dX9_digest_179 : decode cX9_digest 179 = .ok (.getfield 228, 3) := by decide +kernel
theorem dX9_digest_182 : decode cX9_digest 182 = .ok (.if_icmp .ge 14, 3) := by decide +kernel
theorem dX9_digest_185 : decode cX9_digest 185 = .ok (.aload_n 0, 1) := by decide +kernel
theorem dX9_digest_186 : decode cX9_digest 186 = .ok (.iload_n 1, 1) := by decide +kernel
theorem dX9_digest_187 : decode cX9_digest 187 = .ok (.invokevirtual 357, 3) := by decide +kernel
theorem dX9_digest_190 : decode cX9_digest 190 = .ok (.iinc 1 1, 3) := by decide +kernel
theorem dX9_digest_193 : decode cX9_digest 193 = .ok (.goto (-16), 3) := by decide +kernel
theorem dX9_digest_196 : decode cX9_digest 196 = .ok (.ldc_w 360, 3) := by decide +kernel
theorem dX9_digest_199 : decode cX9_digest 199 = .ok (.istore_n 1, 1) := by decide +kernel
theorem dX9_digest_200 : decode cX9_digest 200 = .ok (.iload_n 1, 1) := by decide +kernel
theorem dX9_digest_201 : decode cX9_digest 201 = .ok (.ldc_w 361, 3) := by decide +kernel
theorem dX9_digest_204 : decode cX9_digest 204 = .ok (.if_icmp .ge 35, 3) := by decide +kernel
theorem dX9_digest_207 : decode cX9_digest 207 = .ok (.aload_n 0, 1) := by decide +kernel
theorem dX9_digest_208 : decode cX9_digest 208 = .ok (.aload_n 0, 1) := by decide +kernel
theorem dX9_digest_209 : decode cX9_digest 209 = .ok (.iload_n 1, 1) := by decide +kernel
theorem dX9_digest_210 : decode cX9_digest 210 = .ok (.invokevirtual 307, 3) := by decide +kernel
theorem dX9_digest_213 : decode cX9_digest 213 = .ok (.invokevirtual 342, 3) := by decide +kernel
theorem dX9_digest_216 : decode cX9_digest 216 = .ok (.aload_n 0, 1) := by decide +kernel
theorem dX9_digest_217 : decode cX9_digest 217 = .ok (.aload_n 0, 1) := by decide +kernel
theorem dX9_digest_218 : decode cX9_digest 218 = .ok (.iload_n 1, 1) := by decide +kernel
theorem dX9_digest_219 : decode cX9_digest 219 = .ok (.invokevirtual 310, 3) := by decide +kernel
theorem dX9_digest_222 : decode cX9_digest 222 = .ok (.ifCond .eq 7, 3) := by decide +kernel
theorem dX9_digest_225 : decode cX9_digest 225 = .ok (.iconst 1, 1) := by decide +kernel
theorem dX9_digest_226 : decode cX9_digest 226 = .ok (.goto 4, 3) := by decide +kernel
theorem dX9_digest_229 : decode cX9_digest 229 = .ok (.iconst 0, 1) := by decide +kernel
theorem dX9_digest_230 : decode cX9_digest 230 = .ok (.invokevirtual 342, 3) := by decide +kernel
theorem dX9_digest_233 : decode cX9_digest 233 = .ok (.iinc 1 1, 3) := by decide +kernel
theorem dX9_digest_236 : decode cX9_digest 236 = .ok (.goto (-36), 3) := by decide +kernel
theorem dX9_digest_239 : decode cX9_digest 239 = .ok (.aload_n 0, 1) := by decide +kernel
theorem dX9_digest_240 : decode cX9_digest 240 = .ok (.aload_n 0, 1) := by decide +kernel
theorem dX9_digest_241 : decode cX9_digest 241 = .ok (.ldc_w 360, 3) := by decide +kernel
theorem dX9_digest_244 : decode cX9_digest 244 = .ok (.sipush 400, 3) := by decide +kernel
theorem dX9_digest_247 : decode cX9_digest 247 = .ok (.invokevirtual 313, 3) := by decide +kernel
theorem dX9_digest_250 : decode cX9_digest 250 = .ok (.invokevirtual 342, 3) := by decide +kernel
theorem dX9_digest_253 : decode cX9_digest 253 = .ok (.aload_n 0, 1) := by decide +kernel
theorem dX9_digest_254 : decode cX9_digest 254 = .ok (.aload_n 0, 1) := by decide +kernel
theorem dX9_digest_255 : decode cX9_digest 255 = .ok (.ldc_w 360, 3) := by decide +kernel
theorem dX9_digest_258 : decode cX9_digest 258 = .ok (.bipush 20, 2) := by decide +kernel
theorem dX9_digest_260 : decode cX9_digest 260 = .ok (.invokevirtual 319, 3) := by decide +kernel
theorem dX9_digest_263 : decode cX9_digest 263 = .ok (.invokevirtual 342, 3) := by decide +kernel
theorem dX9_digest_266 : decode cX9_digest 266 = .ok (.aload_n 0, 1) := by decide +kernel
theorem dX9_digest_267 : decode cX9_digest 267 = .ok (.aload_n 0, 1) := by decide +kernel
theorem dX9_digest_268 : decode cX9_digest 268 = .ok (.ldc_w 362, 3) := by decide +kernel
theorem dX9_digest_271 : decode cX9_digest 271 = .ok (.sipush 20000, 3) := by decide +kernel
theorem dX9_digest_274 : decode cX9_digest 274 = .ok (.invokevirtual 330, 3) := by decide +kernel
theorem dX9_digest_277 : decode cX9_digest 277 = .ok (.invokevirtual 342, 3) := by decide +kernel
theorem dX9_digest_280 : decode cX9_digest 280 = .ok (.aload_n 0, 1) := by decide +kernel
theorem dX9_digest_281 : decode cX9_digest 281 = .ok (.aload_n 0, 1) := by decide +kernel
theorem dX9_digest_282 : decode cX9_digest 282 = .ok (.ldc_w 362, 3) := by decide +kernel
theorem dX9_digest_285 : decode cX9_digest 285 = .ok (.sipush 3000, 3) := by decide +kernel
theorem dX9_digest_288 : decode cX9_digest 288 = .ok (.invokevirtual 333, 3) := by decide +kernel
theorem dX9_digest_291 : decode cX9_digest 291 = .ok (.invokevirtual 342, 3) := by decide +kernel
theorem dX9_digest_294 : decode cX9_digest 294 = .ok (.aload_n 0, 1) := by decide +kernel
theorem dX9_digest_295 : decode cX9_digest 295 = .ok (.iconst 0, 1) := by decide +kernel
theorem dX9_digest_296 : decode cX9_digest 296 = .ok (.putfield 87, 3) := by decide +kernel
theorem dX9_digest_299 : decode cX9_digest 299 = .ok (.aload_n 0, 1) := by decide +kernel
theorem dX9_digest_300 : decode cX9_digest 300 = .ok (.getfield 336, 3) := by decide +kernel
theorem dX9_digest_303 : decode cX9_digest 303 = .ok (.lreturn, 1) := by decide +kernel
