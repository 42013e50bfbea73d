theorem dX10_sort_0 : decode cX10_sort 0 = .ok (.iload_n 3, 1) := by decide +kernel
theorem dX10_sort_1 : decode cX10_sort 1 = .ok (.iload_n 2, 1) := by decide +kernel
theorem dX10_sort_2 : decode cX10_sort 2 = .ok (.isub, 1) := by decide +kernel
theorem dX10_sort_3 : decode cX10_sort 3 = .ok (.istore 4, 2) := by decide +kernel
theorem dX10_sort_5 : decode cX10_sort 5 = .ok (.iload_n 1, 1) := by decide +kernel
theorem dX10_sort_6 : decode cX10_sort 6 = .ok (.iconst 1, 1) := by decide +kernel
theorem dX10_sort_7 : decode cX10_sort 7 = .ok (.if_icmp .le 61, 3) := by decide +kernel
theorem dX10_sort_10 : decode cX10_sort 10 = .ok (.iload 4, 2) := by decide +kernel
theorem dX10_sort_12 : decode cX10_sort 12 = .ok (.sipush 4096, 3) := by decide +kernel
theorem dX10_sort_15 : decode cX10_sort 15 = .ok (.if_icmp .le 53, 3) := by decide +kernel
theorem dX10_sort_18 : decode cX10_sort 18 = .ok (.iload_n 1, 1) := by decide +kernel
theorem dX10_sort_19 : decode cX10_sort 19 = .ok (.iload 4, 2) := by decide +kernel
theorem dX10_sort_21 : decode cX10_sort 21 = .ok (.bipush 12, 2) := by decide +kernel
theorem dX10_sort_23 : decode cX10_sort 23 = .ok (.ishr, 1) := by decide +kernel
theorem dX10_sort_24 : decode cX10_sort 24 = .ok (.invokestatic 13, 3) := by decide +kernel
theorem dX10_sort_27 : decode cX10_sort 27 = .ok (.istore 5, 2) := by decide +kernel
theorem dX10_sort_29 : decode cX10_sort 29 = .ok (.iload 5, 2) := by decide +kernel
theorem dX10_sort_31 : decode cX10_sort 31 = .ok (.ifCond .ne 7, 3) := by decide +kernel
theorem dX10_sort_34 : decode cX10_sort 34 = .ok (.aconst_null, 1) := by decide +kernel
theorem dX10_sort_35 : decode cX10_sort 35 = .ok (.goto 7, 3) := by decide +kernel
theorem dX10_sort_38 : decode cX10_sort 38 = .ok (.iload 4, 2) := by decide +kernel
theorem dX10_sort_40 : decode cX10_sort 40 = .ok (.newarray .int, 2) := by decide +kernel
theorem dX10_sort_42 : decode cX10_sort 42 = .ok (.astore 6, 2) := by decide +kernel
theorem dX10_sort_44 : decode cX10_sort 44 = .ok (.new 17, 3) := by decide +kernel
theorem dX10_sort_47 : decode cX10_sort 47 = .ok (.dup, 1) := by decide +kernel
theorem dX10_sort_48 : decode cX10_sort 48 = .ok (.aconst_null, 1) := by decide +kernel
theorem dX10_sort_49 : decode cX10_sort 49 = .ok (.aload_n 0, 1) := by decide +kernel
theorem dX10_sort_50 : decode cX10_sort 50 = .ok (.aload 6, 2) := by decide +kernel
theorem dX10_sort_52 : decode cX10_sort 52 = .ok (.iload_n 2, 1) := by decide +kernel
theorem dX10_sort_53 : decode cX10_sort 53 = .ok (.iload 4, 2) := by decide +kernel
theorem dX10_sort_55 : decode cX10_sort 55 = .ok (.iload_n 2, 1) := by decide +kernel
theorem dX10_sort_56 : decode cX10_sort 56 = .ok (.iload 5, 2) := by decide +kernel
theorem dX10_sort_58 : decode cX10_sort 58 = .ok (.invokespecial 19, 3) := by decide +kernel
theorem dX10_sort_61 : decode cX10_sort 61 = .ok (.invokevirtual 22, 3) := by decide +kernel
theorem dX10_sort_64 : decode cX10_sort 64 = .ok (.pop, 1) := by decide +kernel
theorem dX10_sort_65 : decode cX10_sort 65 = .ok (.goto 11, 3) := by decide +kernel
theorem dX10_sort_68 : decode cX10_sort 68 = .ok (.aconst_null, 1) := by decide +kernel
theorem dX10_sort_69 : decode cX10_sort 69 = .ok (.aload_n 0, 1) := by decide +kernel
theorem dX10_sort_70 : decode cX10_sort 70 = .ok (.iconst 0, 1) := by decide +kernel
theorem dX10_sort_71 : decode cX10_sort 71 = .ok (.iload_n 2, 1) := by decide +kernel
theorem dX10_sort_72 : decode cX10_sort 72 = .ok (.iload_n 3, 1) := by decide +kernel
theorem dX10_sort_73 : decode cX10_sort 73 = .ok (.invokestatic 26, 3) := by decide +kernel
theorem dX10_sort_76 : decode cX10_sort 76 = .ok (.return_, 1) := by decide +kernel
theorem dX10_sort__0 : decode cX10_sort_ 0 = .ok (.iload 4, 2) := by decide +kernel
theorem dX10_sort__2 : decode cX10_sort_ 2 = .ok (.iconst 1, 1) := by decide +kernel
theorem dX10_sort__3 : decode cX10_sort_ 3 = .ok (.isub, 1) := by decide +kernel
theorem dX10_sort__4 : decode cX10_sort_ 4 = .ok (.istore 5, 2) := by decide +kernel
theorem dX10_sort__6 : decode cX10_sort_ 6 = .ok (.iload 4, 2) := by decide +kernel
theorem dX10_sort__8 : decode cX10_sort_ 8 = .ok (.iload_n 3, 1) := by decide +kernel
theorem dX10_sort__9 : decode cX10_sort_ 9 = .ok (.isub, 1) := by decide +kernel
theorem dX10_sort__10 : decode cX10_sort_ 10 = .ok (.istore 6, 2) := by decide +kernel
theorem dX10_sort__12 : decode cX10_sort_ 12 = .ok (.iload 6, 2) := by decide +kernel
theorem dX10_sort__14 : decode cX10_sort_ 14 = .ok (.bipush 65, 2) := by decide +kernel
theorem dX10_sort__16 : decode cX10_sort_ 16 = .ok (.iload_n 2, 1) := by decide +kernel
theorem dX10_sort__17 : decode cX10_sort_ 17 = .ok (.iadd, 1) := by decide +kernel
theorem dX10_sort__18 : decode cX10_sort_ 18 = .ok (.if_icmp .ge 28, 3) := by decide +kernel
theorem dX10_sort__21 : decode cX10_sort_ 21 = .ok (.iload_n 2, 1) := by decide +kernel
theorem dX10_sort__22 : decode cX10_sort_ 22 = .ok (.iconst 1, 1) := by decide +kernel
theorem dX10_sort__23 : decode cX10_sort_ 23 = .ok (.iand, 1) := by decide +kernel
theorem dX10_sort__24 : decode cX10_sort_ 24 = .ok (.ifCond .le 22, 3) := by decide +kernel
theorem dX10_sort__27 : decode cX10_sort_ 27 = .ok (.aload_n 1, 1) := by decide +kernel
theorem dX10_sort__28 : decode cX10_sort_ 28 = .ok (.iload_n 3, 1) := by decide +kernel
theorem dX10_sort__29 : decode cX10_sort_ 29 = .ok (.iload 4, 2) := by decide +kernel
theorem dX10_sort__31 : decode cX10_sort_ 31 = .ok (.iconst 3, 1) := by decide +kernel
theorem dX10_sort__32 : decode cX10_sort_ 32 = .ok (.iload 6, 2) := by decide +kernel
theorem dX10_sort__34 : decode cX10_sort_ 34 = .ok (.iconst 5, 1) := by decide +kernel
theorem dX10_sort__35 : decode cX10_sort_ 35 = .ok (.ishr, 1) := by decide +kernel
theorem dX10_sort__36 : decode cX10_sort_ 36 = .ok (.iconst 3, 1) := by decide +kernel
theorem dX10_sort__37 : decode cX10_sort_ 37 = .ok (.ishl, 1) := by decide +kernel
theorem dX10_sort__38 : decode cX10_sort_ 38 = .ok (.imul, 1) := by decide +kernel
theorem dX10_sort__39 : decode cX10_sort_ 39 = .ok (.isub, 1) := by decide +kernel
theorem dX10_sort__40 : decode cX10_sort_ 40 = .ok (.iload 4, 2) := by decide +kernel
theorem dX10_sort__42 : decode cX10_sort_ 42 = .ok (.invokestatic 30, 3) := by decide +kernel
theorem dX10_sort__45 : decode cX10_sort_ 45 = .ok (.return_, 1) := by decide +kernel
theorem dX10_sort__46 : decode cX10_sort_ 46 = .ok (.iload 6, 2) := by decide +kernel
theorem dX10_sort__48 : decode cX10_sort_ 48 = .ok (.bipush 44, 2) := by decide +kernel
theorem dX10_sort__50 : decode cX10_sort_ 50 = .ok (.if_icmp .ge 11, 3) := by decide +kernel
theorem dX10_sort__53 : decode cX10_sort_ 53 = .ok (.aload_n 1, 1) := by decide +kernel
theorem dX10_sort__54 : decode cX10_sort_ 54 = .ok (.iload_n 3, 1) := by decide +kernel
theorem dX10_sort__55 : decode cX10_sort_ 55 = .ok (.iload 4, 2) := by decide +kernel
theorem dX10_sort__57 : decode cX10_sort_ 57 = .ok (.invokestatic 34, 3) := by decide +kernel
theorem dX10_sort__60 : decode cX10_sort_ 60 = .ok (.return_, 1) := by decide +kernel
theorem dX10_sort__61 : decode cX10_sort_ 61 = .ok (.iload_n 2, 1) := by decide +kernel
theorem dX10_sort__62 : decode cX10_sort_ 62 = .ok (.ifCond .eq 17, 3) := by decide +kernel
theorem dX10_sort__65 : decode cX10_sort_ 65 = .ok (.iload 6, 2) := by decide +kernel
theorem dX10_sort__67 : decode cX10_sort_ 67 = .ok (.sipush 4096, 3) := by decide +kernel
theorem dX10_sort__70 : decode cX10_sort_ 70 = .ok (.if_icmp .le 21, 3) := by decide +kernel
theorem dX10_sort__73 : decode cX10_sort_ 73 = .ok (.iload_n 2, 1) := by decide +kernel
theorem dX10_sort__74 : decode cX10_sort_ 74 = .ok (.iconst 1, 1) := by decide +kernel
theorem dX10_sort__75 : decode cX10_sort_ 75 = .ok (.iand, 1) := by decide +kernel
theorem dX10_sort__76 : decode cX10_sort_ 76 = .ok (.ifCond .le 15, 3) := by decide +kernel
theorem dX10_sort__79 : decode cX10_sort_ 79 = .ok (.aload_n 0, 1) := by decide +kernel
theorem dX10_sort__80 : decode cX10_sort_ 80 = .ok (.aload_n 1, 1) := by decide +kernel
theorem dX10_sort__81 : decode cX10_sort_ 81 = .ok (.iload_n 3, 1) := by decide +kernel
theorem dX10_sort__82 : decode cX10_sort_ 82 = .ok (.iload 6, 2) := by decide +kernel
theorem dX10_sort__84 : decode cX10_sort_ 84 = .ok (.invokestatic 38, 3) := by decide +kernel
theorem dX10_sort__87 : decode cX10_sort_ 87 = .ok (.ifCond .eq 4, 3) := by decide +kernel
theorem dX10_sort__90 : decode cX10_sort_ 90 = .ok (.return_, 1) := by decide +kernel
theorem dX10_sort__91 : decode cX10_sort_ 91 = .ok (.iinc 2 6, 3) := by decide +kernel
theorem dX10_sort__94 : decode cX10_sort_ 94 = .ok (.iload_n 2, 1) := by decide +kernel
theorem dX10_sort__95 : decode cX10_sort_ 95 = .ok (.sipush 384, 3) := by decide +kernel
theorem dX10_sort__98 : decode cX10_sort_ 98 = .ok (.if_icmp .le 11, 3) := by decide +kernel
theorem dX10_sort__101 : decode cX10_sort_ 101 = .ok (.aload_n 1, 1) := by decide +kernel
theorem dX10_sort__102 : decode cX10_sort_ 102 = .ok (.iload_n 3, 1) := by decide +kernel
theorem dX10_sort__103 : decode cX10_sort_ 103 = .ok (.iload 4, 2) := by decide +kernel
theorem dX10_sort__105 : decode cX10_sort_ 105 = .ok (.invokestatic 42, 3) := by decide +kernel
theorem dX10_sort__108 : decode cX10_sort_ 108 = .ok (.return_, 1) := by decide +kernel
theorem dX10_sort__109 : decode cX10_sort_ 109 = .ok (.iload 6, 2) := by decide +kernel
theorem dX10_sort__111 : decode cX10_sort_ 111 = .ok (.iconst 3, 1) := by decide +kernel
theorem dX10_sort__112 : decode cX10_sort_ 112 = .ok (.ishr, 1) := by decide +kernel
theorem dX10_sort__113 : decode cX10_sort_ 113 = .ok (.iconst 3, 1) := by decide +kernel
theorem dX10_sort__114 : decode cX10_sort_ 114 = .ok (.imul, 1) := by decide +kernel
theorem dX10_sort__115 : decode cX10_sort_ 115 = .ok (.iconst 3, 1) := by decide +kernel
theorem dX10_sort__116 : decode cX10_sort_ 116 = .ok (.iadd, 1) := by decide +kernel
theorem dX10_sort__117 : decode cX10_sort_ 117 = .ok (.istore 7, 2) := by decide +kernel
theorem dX10_sort__119 : decode cX10_sort_ 119 = .ok (.iload_n 3, 1) := by decide +kernel
theorem dX10_sort__120 : decode cX10_sort_ 120 = .ok (.iload 7, 2) := by decide +kernel
theorem dX10_sort__122 : decode cX10_sort_ 122 = .ok (.iadd, 1) := by decide +kernel
theorem dX10_sort__123 : decode cX10_sort_ 123 = .ok (.istore 8, 2) := by decide +kernel
theorem dX10_sort__125 : decode cX10_sort_ 125 = .ok (.iload 5, 2) := by decide +kernel
theorem dX10_sort__127 : decode cX10_sort_ 127 = .ok (.iload 7, 2) := by decide +kernel
theorem dX10_sort__129 : decode cX10_sort_ 129 = .ok (.isub, 1) := by decide +kernel
theorem dX10_sort__130 : decode cX10_sort_ 130 = .ok (.istore 9, 2) := by decide +kernel
theorem dX10_sort__132 : decode cX10_sort_ 132 = .ok (.iload 8, 2) := by decide +kernel
theorem dX10_sort__134 : decode cX10_sort_ 134 = .ok (.iload 9, 2) := by decide +kernel
theorem dX10_sort__136 : decode cX10_sort_ 136 = .ok (.iadd, 1) := by decide +kernel
theorem dX10_sort__137 : decode cX10_sort_ 137 = .ok (.iconst 1, 1) := by decide +kernel
theorem dX10_sort__138 : decode cX10_sort_ 138 = .ok (.iushr, 1) := by decide +kernel
theorem dX10_sort__139 : decode cX10_sort_ 139 = .ok (.istore 10, 2) := by decide +kernel
theorem dX10_sort__141 : decode cX10_sort_ 141 = .ok (.iload 8, 2) := by decide +kernel
theorem dX10_sort__143 : decode cX10_sort_ 143 = .ok (.iload 10, 2) := by decide +kernel
theorem dX10_sort__145 : decode cX10_sort_ 145 = .ok (.iadd, 1) := by decide +kernel
theorem dX10_sort__146 : decode cX10_sort_ 146 = .ok (.iconst 1, 1) := by decide +kernel
theorem dX10_sort__147 : decode cX10_sort_ 147 = .ok (.iushr, 1) := by decide +kernel
theorem dX10_sort__148 : decode cX10_sort_ 148 = .ok (.istore 11, 2) := by decide +kernel
theorem dX10_sort__150 : decode cX10_sort_ 150 = .ok (.iload 10, 2) := by decide +kernel
theorem dX10_sort__152 : decode cX10_sort_ 152 = .ok (.iload 9, 2) := by decide +kernel
theorem dX10_sort__154 : decode cX10_sort_ 154 = .ok (.iadd, 1) := by decide +kernel
theorem dX10_sort__155 : decode cX10_sort_ 155 = .ok (.iconst 1, 1) := by decide +kernel
theorem dX10_sort__156 : decode cX10_sort_ 156 = .ok (.iushr, 1) := by decide +kernel
theorem dX10_sort__157 : decode cX10_sort_ 157 = .ok (.istore 12, 2) := by decide +kernel
theorem dX10_sort__159 : decode cX10_sort_ 159 = .ok (.aload_n 1, 1) := by decide +kernel
theorem dX10_sort__160 : decode cX10_sort_ 160 = .ok (.iload 10, 2) := by decide +kernel
theorem dX10_sort__162 : decode cX10_sort_ 162 = .ok (.iaload, 1) := by decide +kernel
theorem dX10_sort__163 : decode cX10_sort_ 163 = .ok (.istore 13, 2) := by decide +kernel
theorem dX10_sort__165 : decode cX10_sort_ 165 = .ok (.aload_n 1, 1) := by decide +kernel
theorem dX10_sort__166 : decode cX10_sort_ 166 = .ok (.iload 9, 2) := by decide +kernel
theorem dX10_sort__168 : decode cX10_sort_ 168 = .ok (.iaload, 1) := by decide +kernel
theorem dX10_sort__169 : decode cX10_sort_ 169 = .ok (.aload_n 1, 1) := by decide +kernel
theorem dX10_sort__170 : decode cX10_sort_ 170 = .ok (.iload 11, 2) := by decide +kernel
theorem dX10_sort__172 : decode cX10_sort_ 172 = .ok (.iaload, 1) := by decide +kernel
theorem dX10_sort__173 : decode cX10_sort_ 173 = .ok (.if_icmp .ge 23, 3) := by decide +kernel
theorem dX10_sort__176 : decode cX10_sort_ 176 = .ok (.aload_n 1, 1) := by decide +kernel
theorem dX10_sort__177 : decode cX10_sort_ 177 = .ok (.iload 9, 2) := by decide +kernel
theorem dX10_sort__179 : decode cX10_sort_ 179 = .ok (.iaload, 1) := by decide +kernel
theorem dX10_sort__180 : decode cX10_sort_ 180 = .ok (.istore 14, 2) := by decide +kernel
theorem dX10_sort__182 : decode cX10_sort_ 182 = .ok (.aload_n 1, 1) := by decide +kernel
theorem dX10_sort__183 : decode cX10_sort_ 183 = .ok (.iload 9, 2) := by decide +kernel
theorem dX10_sort__185 : decode cX10_sort_ 185 = .ok (.aload_n 1, 1) := by decide +kernel
theorem dX10_sort__186 : decode cX10_sort_ 186 = .ok (.iload 11, 2) := by decide +kernel
theorem dX10_sort__188 : decode cX10_sort_ 188 = .ok (.iaload, 1) := by decide +kernel
theorem dX10_sort__189 : decode cX10_sort_ 189 = .ok (.iastore, 1) := by decide +kernel
theorem dX10_sort__190 : decode cX10_sort_ 190 = .ok (.aload_n 1, 1) := by decide +kernel
theorem dX10_sort__191 : decode cX10_sort_ 191 = .ok (.iload 11, 2) := by decide +kernel
theorem dX10_sort__193 : decode cX10_sort_ 193 = .ok (.iload 14, 2) := by decide +kernel
theorem dX10_sort__195 : decode cX10_sort_ 195 = .ok (.iastore, 1) := by decide +kernel
theorem dX10_sort__196 : decode cX10_sort_ 196 = .ok (.aload_n 1, 1) := by decide +kernel
theorem dX10_sort__197 : decode cX10_sort_ 197 = .ok (.iload 12, 2) := by decide +kernel
theorem dX10_sort__199 : decode cX10_sort_ 199 = .ok (.iaload, 1) := by decide +kernel
theorem dX10_sort__200 : decode cX10_sort_ 200 = .ok (.aload_n 1, 1) := by decide +kernel
theorem dX10_sort__201 : decode cX10_sort_ 201 = .ok (.iload 8, 2) := by decide +kernel
theorem dX10_sort__203 : decode cX10_sort_ 203 = .ok (.iaload, 1) := by decide +kernel
theorem dX10_sort__204 : decode cX10_sort_ 204 = .ok (.if_icmp .ge 23, 3) := by decide +kernel
theorem dX10_sort__207 : decode cX10_sort_ 207 = .ok (.aload_n 1, 1) := by decide +kernel
theorem dX10_sort__208 : decode cX10_sort_ 208 = .ok (.iload 12, 2) := by decide +kernel
theorem dX10_sort__210 : decode cX10_sort_ 210 = .ok (.iaload, 1) := by decide +kernel
theorem dX10_sort__211 : decode cX10_sort_ 211 = .ok (.istore 14, 2) := by decide +kernel
theorem dX10_sort__213 : decode cX10_sort_ 213 = .ok (.aload_n 1, 1) := by decide +kernel
theorem dX10_sort__214 : decode cX10_sort_ 214 = .ok (.iload 12, 2) := by decide +kernel
theorem dX10_sort__216 : decode cX10_sort_ 216 = .ok (.aload_n 1, 1) := by decide +kernel
theorem dX10_sort__217 : decode cX10_sort_ 217 = .ok (.iload 8, 2) := by decide +kernel
theorem dX10_sort__219 : decode cX10_sort_ 219 = .ok (.iaload, 1) := by decide +kernel
theorem dX10_sort__220 : decode cX10_sort_ 220 = .ok (.iastore, 1) := by decide +kernel
theorem dX10_sort__221 : decode cX10_sort_ 221 = .ok (.aload_n 1, 1) := by decide +kernel
theorem dX10_sort__222 : decode cX10_sort_ 222 = .ok (.iload 8, 2) := by decide +kernel
theorem dX10_sort__224 : decode cX10_sort_ 224 = .ok (.iload 14, 2) := by decide +kernel
theorem dX10_sort__226 : decode cX10_sort_ 226 = .ok (.iastore, 1) := by decide +kernel
theorem dX10_sort__227 : decode cX10_sort_ 227 = .ok (.aload_n 1, 1) := by decide +kernel
theorem dX10_sort__228 : decode cX10_sort_ 228 = .ok (.iload 9, 2) := by decide +kernel
theorem dX10_sort__230 : decode cX10_sort_ 230 = .ok (.iaload, 1) := by decide +kernel
theorem dX10_sort__231 : decode cX10_sort_ 231 = .ok (.aload_n 1, 1) := by decide +kernel
theorem dX10_sort__232 : decode cX10_sort_ 232 = .ok (.iload 12, 2) := by decide +kernel
theorem dX10_sort__234 : decode cX10_sort_ 234 = .ok (.iaload, 1) := by decide +kernel
theorem dX10_sort__235 : decode cX10_sort_ 235 = .ok (.if_icmp .ge 23, 3) := by decide +kernel
theorem dX10_sort__238 : decode cX10_sort_ 238 = .ok (.aload_n 1, 1) := by decide +kernel
theorem dX10_sort__239 : decode cX10_sort_ 239 = .ok (.iload 9, 2) := by decide +kernel
theorem dX10_sort__241 : decode cX10_sort_ 241 = .ok (.iaload, 1) := by decide +kernel
theorem dX10_sort__242 : decode cX10_sort_ 242 = .ok (.istore 14, 2) := by decide +kernel
theorem dX10_sort__244 : decode cX10_sort_ 244 = .ok (.aload_n 1, 1) := by decide +kernel
theorem dX10_sort__245 : decode cX10_sort_ 245 = .ok (.iload 9, 2) := by decide +kernel
theorem dX10_sort__247 : decode cX10_sort_ 247 = .ok (.aload_n 1, 1) := by decide +kernel
theorem dX10_sort__248 : decode cX10_sort_ 248 = .ok (.iload 12, 2) := by decide +kernel
theorem dX10_sort__250 : decode cX10_sort_ 250 = .ok (.iaload, 1) := by decide +kernel
theorem dX10_sort__251 : decode cX10_sort_ 251 = .ok (.iastore, 1) := by decide +kernel
theorem dX10_sort__252 : decode cX10_sort_ 252 = .ok (.aload_n 1, 1) := by decide +kernel
theorem dX10_sort__253 : decode cX10_sort_ 253 = .ok (.iload 12, 2) := by decide +kernel
theorem dX10_sort__255 : decode cX10_sort_ 255 = .ok (.iload 14, 2) := by decide +kernel
theorem dX10_sort__257 : decode cX10_sort_ 257 = .ok (.iastore, 1) := by decide +kernel
theorem dX10_sort__258 : decode cX10_sort_ 258 = .ok (.aload_n 1, 1) := by decide +kernel
theorem dX10_sort__259 : decode cX10_sort_ 259 = .ok (.iload 11, 2) := by decide +kernel
theorem dX10_sort__261 : decode cX10_sort_ 261 = .ok (.iaload, 1) := by decide +kernel
theorem dX10_sort__262 : decode cX10_sort_ 262 = .ok (.aload_n 1, 1) := by decide +kernel
theorem dX10_sort__263 : decode cX10_sort_ 263 = .ok (.iload 8, 2) := by decide +kernel
theorem dX10_sort__265 : decode cX10_sort_ 265 = .ok (.iaload, 1) := by decide +kernel
theorem dX10_sort__266 : decode cX10_sort_ 266 = .ok (.if_icmp .ge 23, 3) := by decide +kernel
theorem dX10_sort__269 : decode cX10_sort_ 269 = .ok (.aload_n 1, 1) := by decide +kernel
theorem dX10_sort__270 : decode cX10_sort_ 270 = .ok (.iload 11, 2) := by decide +kernel
theorem dX10_sort__272 : decode cX10_sort_ 272 = .ok (.iaload, 1) := by decide +kernel
theorem dX10_sort__273 : decode cX10_sort_ 273 = .ok (.istore 14, 2) := by decide +kernel
theorem dX10_sort__275 : decode cX10_sort_ 275 = .ok (.aload_n 1, 1) := by decide +kernel
theorem dX10_sort__276 : decode cX10_sort_ 276 = .ok (.iload 11, 2) := by decide +kernel
theorem dX10_sort__278 : decode cX10_sort_ 278 = .ok (.aload_n 1, 1) := by decide +kernel
theorem dX10_sort__279 : decode cX10_sort_ 279 = .ok (.iload 8, 2) := by decide +kernel
theorem dX10_sort__281 : decode cX10_sort_ 281 = .ok (.iaload, 1) := by decide +kernel
theorem dX10_sort__282 : decode cX10_sort_ 282 = .ok (.iastore, 1) := by decide +kernel
theorem dX10_sort__283 : decode cX10_sort_ 283 = .ok (.aload_n 1, 1) := by decide +kernel
theorem dX10_sort__284 : decode cX10_sort_ 284 = .ok (.iload 8, 2) := by decide +kernel
theorem dX10_sort__286 : decode cX10_sort_ 286 = .ok (.iload 14, 2) := by decide +kernel
theorem dX10_sort__288 : decode cX10_sort_ 288 = .ok (.iastore, 1) := by decide +kernel
theorem dX10_sort__289 : decode cX10_sort_ 289 = .ok (.aload_n 1, 1) := by decide +kernel
theorem dX10_sort__290 : decode cX10_sort_ 290 = .ok (.iload 12, 2) := by decide +kernel
theorem dX10_sort__292 : decode cX10_sort_ 292 = .ok (.iaload, 1) := by decide +kernel
theorem dX10_sort__293 : decode cX10_sort_ 293 = .ok (.aload_n 1, 1) := by decide +kernel
theorem dX10_sort__294 : decode cX10_sort_ 294 = .ok (.iload 11, 2) := by decide +kernel
theorem dX10_sort__296 : decode cX10_sort_ 296 = .ok (.iaload, 1) := by decide +kernel
theorem dX10_sort__297 : decode cX10_sort_ 297 = .ok (.if_icmp .ge 23, 3) := by decide +kernel
theorem dX10_sort__300 : decode cX10_sort_ 300 = .ok (.aload_n 1, 1) := by decide +kernel
theorem dX10_sort__301 : decode cX10_sort_ 301 = .ok (.iload 12, 2) := by decide +kernel
theorem dX10_sort__303 : decode cX10_sort_ 303 = .ok (.iaload, 1) := by decide +kernel
theorem dX10_sort__304 : decode cX10_sort_ 304 = .ok (.istore 14, 2) := by decide +kernel
theorem dX10_sort__306 : decode cX10_sort_ 306 = .ok (.aload_n 1, 1) := by decide +kernel
theorem dX10_sort__307 : decode cX10_sort_ 307 = .ok (.iload 12, 2) := by decide +kernel
theorem dX10_sort__309 : decode cX10_sort_ 309 = .ok (.aload_n 1, 1) := by decide +kernel
theorem dX10_sort__310 : decode cX10_sort_ 310 = .ok (.iload 11, 2) := by decide +kernel
theorem dX10_sort__312 : decode cX10_sort_ 312 = .ok (.iaload, 1) := by decide +kernel
theorem dX10_sort__313 : decode cX10_sort_ 313 = .ok (.iastore, 1) := by decide +kernel
theorem dX10_sort__314 : decode cX10_sort_ 314 = .ok (.aload_n 1, 1) := by decide +kernel
theorem dX10_sort__315 : decode cX10_sort_ 315 = .ok (.iload 11, 2) := by decide +kernel
theorem dX10_sort__317 : decode cX10_sort_ 317 = .ok (.iload 14, 2) := by decide +kernel
theorem dX10_sort__319 : decode cX10_sort_ 319 = .ok (.iastore, 1) := by decide +kernel
theorem dX10_sort__320 : decode cX10_sort_ 320 = .ok (.iload 13, 2) := by decide +kernel
theorem dX10_sort__322 : decode cX10_sort_ 322 = .ok (.aload_n 1, 1) := by decide +kernel
theorem dX10_sort__323 : decode cX10_sort_ 323 = .ok (.iload 11, 2) := by decide +kernel
theorem dX10_sort__325 : decode cX10_sort_ 325 = .ok (.iaload, 1) := by decide +kernel
theorem dX10_sort__326 : decode cX10_sort_ 326 = .ok (.if_icmp .ge 54, 3) := by decide +kernel
theorem dX10_sort__329 : decode cX10_sort_ 329 = .ok (.iload 13, 2) := by decide +kernel
theorem dX10_sort__331 : decode cX10_sort_ 331 = .ok (.aload_n 1, 1) := by decide +kernel
theorem dX10_sort__332 : decode cX10_sort_ 332 = .ok (.iload 8, 2) := by decide +kernel
theorem dX10_sort__334 : decode cX10_sort_ 334 = .ok (.iaload, 1) := by decide +kernel
theorem dX10_sort__335 : decode cX10_sort_ 335 = .ok (.if_icmp .ge 28, 3) := by decide +kernel
theorem dX10_sort__338 : decode cX10_sort_ 338 = .ok (.aload_n 1, 1) := by decide +kernel
theorem dX10_sort__339 : decode cX10_sort_ 339 = .ok (.iload 10, 2) := by decide +kernel
theorem dX10_sort__341 : decode cX10_sort_ 341 = .ok (.aload_n 1, 1) := by decide +kernel
theorem dX10_sort__342 : decode cX10_sort_ 342 = .ok (.iload 11, 2) := by decide +kernel
theorem dX10_sort__344 : decode cX10_sort_ 344 = .ok (.iaload, 1) := by decide +kernel
theorem dX10_sort__345 : decode cX10_sort_ 345 = .ok (.iastore, 1) := by decide +kernel
theorem dX10_sort__346 : decode cX10_sort_ 346 = .ok (.aload_n 1, 1) := by decide +kernel
theorem dX10_sort__347 : decode cX10_sort_ 347 = .ok (.iload 11, 2) := by decide +kernel
theorem dX10_sort__349 : decode cX10_sort_ 349 = .ok (.aload_n 1, 1) := by decide +kernel
theorem dX10_sort__350 : decode cX10_sort_ 350 = .ok (.iload 8, 2) := by decide +kernel
theorem dX10_sort__352 : decode cX10_sort_ 352 = .ok (.iaload, 1) := by decide +kernel
theorem dX10_sort__353 : decode cX10_sort_ 353 = .ok (.iastore, 1) := by decide +kernel
theorem dX10_sort__354 : decode cX10_sort_ 354 = .ok (.aload_n 1, 1) := by decide +kernel
theorem dX10_sort__355 : decode cX10_sort_ 355 = .ok (.iload 8, 2) := by decide +kernel
theorem dX10_sort__357 : decode cX10_sort_ 357 = .ok (.iload 13, 2) := by decide +kernel
theorem dX10_sort__359 : decode cX10_sort_ 359 = .ok (.iastore, 1) := by decide +kernel
theorem dX10_sort__360 : decode cX10_sort_ 360 = .ok (.goto 77, 3) := by decide +kernel
theorem dX10_sort__363 : decode cX10_sort_ 363 = .ok (.aload_n 1, 1) := by decide +kernel
theorem dX10_sort__364 : decode cX10_sort_ 364 = .ok (.iload 10, 2) := by decide +kernel
theorem dX10_sort__366 : decode cX10_sort_ 366 = .ok (.aload_n 1, 1) := by decide +kernel
theorem dX10_sort__367 : decode cX10_sort_ 367 = .ok (.iload 11, 2) := by decide +kernel
theorem dX10_sort__369 : decode cX10_sort_ 369 = .ok (.iaload, 1) := by decide +kernel
theorem dX10_sort__370 : decode cX10_sort_ 370 = .ok (.iastore, 1) := by decide +kernel
theorem dX10_sort__371 : decode cX10_sort_ 371 = .ok (.aload_n 1, 1) := by decide +kernel
theorem dX10_sort__372 : decode cX10_sort_ 372 = .ok (.iload 11, 2) := by decide +kernel
theorem dX10_sort__374 : decode cX10_sort_ 374 = .ok (.iload 13, 2) := by decide +kernel
theorem dX10_sort__376 : decode cX10_sort_ 376 = .ok (.iastore, 1) := by decide +kernel
theorem dX10_sort__377 : decode cX10_sort_ 377 = .ok (.goto 60, 3) := by decide +kernel
theorem dX10_sort__380 : decode cX10_sort_ 380 = .ok (.iload 13, 2) := by decide +kernel
theorem dX10_sort__382 : decode cX10_sort_ 382 = .ok (.aload_n 1, 1) := by decide +kernel
theorem dX10_sort__383 : decode cX10_sort_ 383 = .ok (.iload 12, 2) := by decide +kernel
theorem dX10_sort__385 : decode cX10_sort_ 385 = .ok (.iaload, 1) := by decide +kernel
theorem dX10_sort__386 : decode cX10_sort_ 386 = .ok (.if_icmp .le 51, 3) := by decide +kernel
theorem dX10_sort__389 : decode cX10_sort_ 389 = .ok (.iload 13, 2) := by decide +kernel
theorem dX10_sort__391 : decode cX10_sort_ 391 = .ok (.aload_n 1, 1) := by decide +kernel
theorem dX10_sort__392 : decode cX10_sort_ 392 = .ok (.iload 9, 2) := by decide +kernel
theorem dX10_sort__394 : decode cX10_sort_ 394 = .ok (.iaload, 1) := by decide +kernel
theorem dX10_sort__395 : decode cX10_sort_ 395 = .ok (.if_icmp .le 28, 3) := by decide +kernel
theorem dX10_sort__398 : decode cX10_sort_ 398 = .ok (.aload_n 1, 1) := by decide +kernel
theorem dX10_sort__399 : decode cX10_sort_ 399 = .ok (.iload 10, 2) := by decide +kernel
theorem dX10_sort__401 : decode cX10_sort_ 401 = .ok (.aload_n 1, 1) := by decide +kernel
theorem dX10_sort__402 : decode cX10_sort_ 402 = .ok (.iload 12, 2) := by decide +kernel
theorem dX10_sort__404 : decode cX10_sort_ 404 = .ok (.iaload, 1) := by decide +kernel
theorem dX10_sort__405 : decode cX10_sort_ 405 = .ok (.iastore, 1) := by decide +kernel
theorem dX10_sort__406 : decode cX10_sort_ 406 = .ok (.aload_n 1, 1) := by decide +kernel
theorem dX10_sort__407 : decode cX10_sort_ 407 = .ok (.iload 12, 2) := by decide +kernel
theorem dX10_sort__409 : decode cX10_sort_ 409 = .ok (.aload_n 1, 1) := by decide +kernel
theorem dX10_sort__410 : decode cX10_sort_ 410 = .ok (.iload 9, 2) := by decide +kernel
theorem dX10_sort__412 : decode cX10_sort_ 412 = .ok (.iaload, 1) := by decide +kernel
theorem dX10_sort__413 : decode cX10_sort_ 413 = .ok (.iastore, 1) := by decide +kernel
theorem dX10_sort__414 : decode cX10_sort_ 414 = .ok (.aload_n 1, 1) := by decide +kernel
theorem dX10_sort__415 : decode cX10_sort_ 415 = .ok (.iload 9, 2) := by decide +kernel
theorem dX10_sort__417 : decode cX10_sort_ 417 = .ok (.iload 13, 2) := by decide +kernel
theorem dX10_sort__419 : decode cX10_sort_ 419 = .ok (.iastore, 1) := by decide +kernel
theorem dX10_sort__420 : decode cX10_sort_ 420 = .ok (.goto 17, 3) := by decide +kernel
theorem dX10_sort__423 : decode cX10_sort_ 423 = .ok (.aload_n 1, 1) := by decide +kernel
theorem dX10_sort__424 : decode cX10_sort_ 424 = .ok (.iload 10, 2) := by decide +kernel
theorem dX10_sort__426 : decode cX10_sort_ 426 = .ok (.aload_n 1, 1) := by decide +kernel
theorem dX10_sort__427 : decode cX10_sort_ 427 = .ok (.iload 12, 2) := by decide +kernel
theorem dX10_sort__429 : decode cX10_sort_ 429 = .ok (.iaload, 1) := by decide +kernel
theorem dX10_sort__430 : decode cX10_sort_ 430 = .ok (.iastore, 1) := by decide +kernel
theorem dX10_sort__431 : decode cX10_sort_ 431 = .ok (.aload_n 1, 1) := by decide +kernel
theorem dX10_sort__432 : decode cX10_sort_ 432 = .ok (.iload 12, 2) := by decide +kernel
theorem dX10_sort__434 : decode cX10_sort_ 434 = .ok (.iload 13, 2) := by decide +kernel
theorem dX10_sort__436 : decode cX10_sort_ 436 = .ok (.iastore, 1) := by decide +kernel
theorem dX10_sort__437 : decode cX10_sort_ 437 = .ok (.iload_n 3, 1) := by decide +kernel
theorem dX10_sort__438 : decode cX10_sort_ 438 = .ok (.istore 14, 2) := by decide +kernel
theorem dX10_sort__440 : decode cX10_sort_ 440 = .ok (.iload 5, 2) := by decide +kernel
theorem dX10_sort__442 : decode cX10_sort_ 442 = .ok (.istore 15, 2) := by decide +kernel
theorem dX10_sort__444 : decode cX10_sort_ 444 = .ok (.aload_n 1, 1) := by decide +kernel
theorem dX10_sort__445 : decode cX10_sort_ 445 = .ok (.iload 8, 2) := by decide +kernel
theorem dX10_sort__447 : decode cX10_sort_ 447 = .ok (.iaload, 1) := by decide +kernel
theorem dX10_sort__448 : decode cX10_sort_ 448 = .ok (.aload_n 1, 1) := by decide +kernel
theorem dX10_sort__449 : decode cX10_sort_ 449 = .ok (.iload 11, 2) := by decide +kernel
theorem dX10_sort__451 : decode cX10_sort_ 451 = .ok (.iaload, 1) := by decide +kernel
theorem dX10_sort__452 : decode cX10_sort_ 452 = .ok (.if_icmp .ge 324, 3) := by decide +kernel
theorem dX10_sort__455 : decode cX10_sort_ 455 = .ok (.aload_n 1, 1) := by decide +kernel
theorem dX10_sort__456 : decode cX10_sort_ 456 = .ok (.iload 11, 2) := by decide +kernel
theorem dX10_sort__458 : decode cX10_sort_ 458 = .ok (.iaload, 1) := by decide +kernel
theorem dX10_sort__459 : decode cX10_sort_ 459 = .ok (.aload_n 1, 1) := by decide +kernel
theorem dX10_sort__460 : decode cX10_sort_ 460 = .ok (.iload 10, 2) := by decide +kernel
theorem dX10_sort__462 : decode cX10_sort_ 462 = .ok (.iaload, 1) := by decide +kernel
theorem dX10_sort__463 : decode cX10_sort_ 463 = .ok (.if_icmp .ge 313, 3) := by decide +kernel
theorem dX10_sort__466 : decode cX10_sort_ 466 = .ok (.aload_n 1, 1) := by decide +kernel
theorem dX10_sort__467 : decode cX10_sort_ 467 = .ok (.iload 10, 2) := by decide +kernel
theorem dX10_sort__469 : decode cX10_sort_ 469 = .ok (.iaload, 1) := by decide +kernel
theorem dX10_sort__470 : decode cX10_sort_ 470 = .ok (.aload_n 1, 1) := by decide +kernel
theorem dX10_sort__471 : decode cX10_sort_ 471 = .ok (.iload 12, 2) := by decide +kernel
theorem dX10_sort__473 : decode cX10_sort_ 473 = .ok (.iaload, 1) := by decide +kernel
theorem dX10_sort__474 : decode cX10_sort_ 474 = .ok (.if_icmp .ge 302, 3) := by decide +kernel
theorem dX10_sort__477 : decode cX10_sort_ 477 = .ok (.aload_n 1, 1) := by decide +kernel
theorem dX10_sort__478 : decode cX10_sort_ 478 = .ok (.iload 12, 2) := by decide +kernel
theorem dX10_sort__480 : decode cX10_sort_ 480 = .ok (.iaload, 1) := by decide +kernel
theorem dX10_sort__481 : decode cX10_sort_ 481 = .ok (.aload_n 1, 1) := by decide +kernel
theorem dX10_sort__482 : decode cX10_sort_ 482 = .ok (.iload 9, 2) := by decide +kernel
theorem dX10_sort__484 : decode cX10_sort_ 484 = .ok (.iaload, 1) := by decide +kernel
theorem dX10_sort__485 : decode cX10_sort_ 485 = .ok (.if_icmp .ge 291, 3) := by decide +kernel
theorem dX10_sort__488 : decode cX10_sort_ 488 = .ok (.aload_n 1, 1) := by decide +kernel
theorem dX10_sort__489 : decode cX10_sort_ 489 = .ok (.iload 8, 2) := by decide +kernel
theorem dX10_sort__491 : decode cX10_sort_ 491 = .ok (.iaload, 1) := by decide +kernel
theorem dX10_sort__492 : decode cX10_sort_ 492 = .ok (.istore 16, 2) := by decide +kernel
theorem dX10_sort__494 : decode cX10_sort_ 494 = .ok (.aload_n 1, 1) := by decide +kernel
theorem dX10_sort__495 : decode cX10_sort_ 495 = .ok (.iload 9, 2) := by decide +kernel
theorem dX10_sort__497 : decode cX10_sort_ 497 = .ok (.iaload, 1) := by decide +kernel
theorem dX10_sort__498 : decode cX10_sort_ 498 = .ok (.istore 17, 2) := by decide +kernel
theorem dX10_sort__500 : decode cX10_sort_ 500 = .ok (.aload_n 1, 1) := by decide +kernel
theorem dX10_sort__501 : decode cX10_sort_ 501 = .ok (.iload 8, 2) := by decide +kernel
theorem dX10_sort__503 : decode cX10_sort_ 503 = .ok (.aload_n 1, 1) := by decide +kernel
theorem dX10_sort__504 : decode cX10_sort_ 504 = .ok (.iload 14, 2) := by decide +kernel
theorem dX10_sort__506 : decode cX10_sort_ 506 = .ok (.iaload, 1) := by decide +kernel
theorem dX10_sort__507 : decode cX10_sort_ 507 = .ok (.iastore, 1) := by decide +kernel
theorem dX10_sort__508 : decode cX10_sort_ 508 = .ok (.aload_n 1, 1) := by decide +kernel
theorem dX10_sort__509 : decode cX10_sort_ 509 = .ok (.iload 9, 2) := by decide +kernel
theorem dX10_sort__511 : decode cX10_sort_ 511 = .ok (.aload_n 1, 1) := by decide +kernel
theorem dX10_sort__512 : decode cX10_sort_ 512 = .ok (.iload 15, 2) := by decide +kernel
theorem dX10_sort__514 : decode cX10_sort_ 514 = .ok (.iaload, 1) := by decide +kernel
theorem dX10_sort__515 : decode cX10_sort_ 515 = .ok (.iastore, 1) := by decide +kernel
theorem dX10_sort__516 : decode cX10_sort_ 516 = .ok (.aload_n 1, 1) := by decide +kernel
theorem dX10_sort__517 : decode cX10_sort_ 517 = .ok (.iinc 14 1, 3) := by decide +kernel
theorem dX10_sort__520 : decode cX10_sort_ 520 = .ok (.iload 14, 2) := by decide +kernel
theorem dX10_sort__522 : decode cX10_sort_ 522 = .ok (.iaload, 1) := by decide +kernel
theorem dX10_sort__523 : decode cX10_sort_ 523 = .ok (.iload 16, 2) := by decide +kernel
theorem dX10_sort__525 : decode cX10_sort_ 525 = .ok (.if_icmp .ge 6, 3) := by decide +kernel
theorem dX10_sort__528 : decode cX10_sort_ 528 = .ok (.goto (-12), 3) := by decide +kernel
theorem dX10_sort__531 : decode cX10_sort_ 531 = .ok (.aload_n 1, 1) := by decide +kernel
theorem dX10_sort__532 : decode cX10_sort_ 532 = .ok (.iinc 15 (-1), 3) := by decide +kernel
theorem dX10_sort__535 : decode cX10_sort_ 535 = .ok (.iload 15, 2) := by decide +kernel
theorem dX10_sort__537 : decode cX10_sort_ 537 = .ok (.iaload, 1) := by decide +kernel
theorem dX10_sort__538 : decode cX10_sort_ 538 = .ok (.iload 17, 2) := by decide +kernel
theorem dX10_sort__540 : decode cX10_sort_ 540 = .ok (.if_icmp .le 6, 3) := by decide +kernel
theorem dX10_sort__543 : decode cX10_sort_ 543 = .ok (.goto (-12), 3) := by decide +kernel
theorem dX10_sort__546 : decode cX10_sort_ 546 = .ok (.iinc 14 (-1), 3) := by decide +kernel
theorem dX10_sort__549 : decode cX10_sort_ 549 = .ok (.iload 14, 2) := by decide +kernel
theorem dX10_sort__551 : decode cX10_sort_ 551 = .ok (.istore 18, 2) := by decide +kernel
theorem dX10_sort__553 : decode cX10_sort_ 553 = .ok (.iinc 15 1, 3) := by decide +kernel
theorem dX10_sort__556 : decode cX10_sort_ 556 = .ok (.iload 15, 2) := by decide +kernel
theorem dX10_sort__558 : decode cX10_sort_ 558 = .ok (.istore 19, 2) := by decide +kernel
theorem dX10_sort__560 : decode cX10_sort_ 560 = .ok (.iinc 19 (-1), 3) := by decide +kernel
theorem dX10_sort__563 : decode cX10_sort_ 563 = .ok (.iload 19, 2) := by decide +kernel
theorem dX10_sort__565 : decode cX10_sort_ 565 = .ok (.iload 14, 2) := by decide +kernel
theorem dX10_sort__567 : decode cX10_sort_ 567 = .ok (.if_icmp .le 110, 3) := by decide +kernel
theorem dX10_sort__570 : decode cX10_sort_ 570 = .ok (.aload_n 1, 1) := by decide +kernel
theorem dX10_sort__571 : decode cX10_sort_ 571 = .ok (.iload 19, 2) := by decide +kernel
theorem dX10_sort__573 : decode cX10_sort_ 573 = .ok (.iaload, 1) := by decide +kernel
theorem dX10_sort__574 : decode cX10_sort_ 574 = .ok (.istore 20, 2) := by decide +kernel
theorem dX10_sort__576 : decode cX10_sort_ 576 = .ok (.iload 20, 2) := by decide +kernel
theorem dX10_sort__578 : decode cX10_sort_ 578 = .ok (.iload 16, 2) := by decide +kernel
theorem dX10_sort__580 : decode cX10_sort_ 580 = .ok (.if_icmp .ge 70, 3) := by decide +kernel
theorem dX10_sort__583 : decode cX10_sort_ 583 = .ok (.iload 14, 2) := by decide +kernel
theorem dX10_sort__585 : decode cX10_sort_ 585 = .ok (.iload 19, 2) := by decide +kernel
theorem dX10_sort__587 : decode cX10_sort_ 587 = .ok (.if_icmp .ge 87, 3) := by decide +kernel
theorem dX10_sort__590 : decode cX10_sort_ 590 = .ok (.aload_n 1, 1) := by decide +kernel
theorem dX10_sort__591 : decode cX10_sort_ 591 = .ok (.iinc 14 1, 3) := by decide +kernel
theorem dX10_sort__594 : decode cX10_sort_ 594 = .ok (.iload 14, 2) := by decide +kernel
theorem dX10_sort__596 : decode cX10_sort_ 596 = .ok (.iaload, 1) := by decide +kernel
theorem dX10_sort__597 : decode cX10_sort_ 597 = .ok (.iload 16, 2) := by decide +kernel
theorem dX10_sort__599 : decode cX10_sort_ 599 = .ok (.if_icmp .lt (-16), 3) := by decide +kernel
theorem dX10_sort__602 : decode cX10_sort_ 602 = .ok (.aload_n 1, 1) := by decide +kernel
theorem dX10_sort__603 : decode cX10_sort_ 603 = .ok (.iload 14, 2) := by decide +kernel
theorem dX10_sort__605 : decode cX10_sort_ 605 = .ok (.iaload, 1) := by decide +kernel
theorem dX10_sort__606 : decode cX10_sort_ 606 = .ok (.iload 17, 2) := by decide +kernel
theorem dX10_sort__608 : decode cX10_sort_ 608 = .ok (.if_icmp .le 25, 3) := by decide +kernel
theorem dX10_sort__611 : decode cX10_sort_ 611 = .ok (.aload_n 1, 1) := by decide +kernel
theorem dX10_sort__612 : decode cX10_sort_ 612 = .ok (.iload 19, 2) := by decide +kernel
theorem dX10_sort__614 : decode cX10_sort_ 614 = .ok (.aload_n 1, 1) := by decide +kernel
theorem dX10_sort__615 : decode cX10_sort_ 615 = .ok (.iinc 15 (-1), 3) := by decide +kernel
theorem dX10_sort__618 : decode cX10_sort_ 618 = .ok (.iload 15, 2) := by decide +kernel
theorem dX10_sort__620 : decode cX10_sort_ 620 = .ok (.iaload, 1) := by decide +kernel
theorem dX10_sort__621 : decode cX10_sort_ 621 = .ok (.iastore, 1) := by decide +kernel
theorem dX10_sort__622 : decode cX10_sort_ 622 = .ok (.aload_n 1, 1) := by decide +kernel
theorem dX10_sort__623 : decode cX10_sort_ 623 = .ok (.iload 15, 2) := by decide +kernel
theorem dX10_sort__625 : decode cX10_sort_ 625 = .ok (.aload_n 1, 1) := by decide +kernel
theorem dX10_sort__626 : decode cX10_sort_ 626 = .ok (.iload 14, 2) := by decide +kernel
theorem dX10_sort__628 : decode cX10_sort_ 628 = .ok (.iaload, 1) := by decide +kernel
theorem dX10_sort__629 : decode cX10_sort_ 629 = .ok (.iastore, 1) := by decide +kernel
theorem dX10_sort__630 : decode cX10_sort_ 630 = .ok (.goto 11, 3) := by decide +kernel
theorem dX10_sort__633 : decode cX10_sort_ 633 = .ok (.aload_n 1, 1) := by decide +kernel
theorem dX10_sort__634 : decode cX10_sort_ 634 = .ok (.iload 19, 2) := by decide +kernel
theorem dX10_sort__636 : decode cX10_sort_ 636 = .ok (.aload_n 1, 1) := by decide +kernel
theorem dX10_sort__637 : decode cX10_sort_ 637 = .ok (.iload 14, 2) := by decide +kernel
theorem dX10_sort__639 : decode cX10_sort_ 639 = .ok (.iaload, 1) := by decide +kernel
theorem dX10_sort__640 : decode cX10_sort_ 640 = .ok (.iastore, 1) := by decide +kernel
theorem dX10_sort__641 : decode cX10_sort_ 641 = .ok (.aload_n 1, 1) := by decide +kernel
theorem dX10_sort__642 : decode cX10_sort_ 642 = .ok (.iload 14, 2) := by decide +kernel
theorem dX10_sort__644 : decode cX10_sort_ 644 = .ok (.iload 20, 2) := by decide +kernel
theorem dX10_sort__646 : decode cX10_sort_ 646 = .ok (.iastore, 1) := by decide +kernel
theorem dX10_sort__647 : decode cX10_sort_ 647 = .ok (.goto 27, 3) := by decide +kernel
theorem dX10_sort__650 : decode cX10_sort_ 650 = .ok (.iload 20, 2) := by decide +kernel
theorem dX10_sort__652 : decode cX10_sort_ 652 = .ok (.iload 17, 2) := by decide +kernel
theorem dX10_sort__654 : decode cX10_sort_ 654 = .ok (.if_icmp .le 20, 3) := by decide +kernel
theorem dX10_sort__657 : decode cX10_sort_ 657 = .ok (.aload_n 1, 1) := by decide +kernel
theorem dX10_sort__658 : decode cX10_sort_ 658 = .ok (.iload 19, 2) := by decide +kernel
theorem dX10_sort__660 : decode cX10_sort_ 660 = .ok (.aload_n 1, 1) := by decide +kernel
theorem dX10_sort__661 : decode cX10_sort_ 661 = .ok (.iinc 15 (-1), 3) := by decide +kernel
theorem dX10_sort__664 : decode cX10_sort_ 664 = .ok (.iload 15, 2) := by decide +kernel
theorem dX10_sort__666 : decode cX10_sort_ 666 = .ok (.iaload, 1) := by decide +kernel
theorem dX10_sort__667 : decode cX10_sort_ 667 = .ok (.iastore, 1) := by decide +kernel
theorem dX10_sort__668 : decode cX10_sort_ 668 = .ok (.aload_n 1, 1) := by decide +kernel
theorem dX10_sort__669 : decode cX10_sort_ 669 = .ok (.iload 15, 2) := by decide +kernel
theorem dX10_sort__671 : decode cX10_sort_ 671 = .ok (.iload 20, 2) := by decide +kernel
theorem dX10_sort__673 : decode cX10_sort_ 673 = .ok (.iastore, 1) := by decide +kernel
theorem dX10_sort__674 : decode cX10_sort_ 674 = .ok (.goto (-114), 3) := by decide +kernel
theorem dX10_sort__677 : decode cX10_sort_ 677 = .ok (.aload_n 1, 1) := by decide +kernel
theorem dX10_sort__678 : decode cX10_sort_ 678 = .ok (.iload_n 3, 1) := by decide +kernel
theorem dX10_sort__679 : decode cX10_sort_ 679 = .ok (.aload_n 1, 1) := by decide +kernel
theorem dX10_sort__680 : decode cX10_sort_ 680 = .ok (.iload 14, 2) := by decide +kernel
theorem dX10_sort__682 : decode cX10_sort_ 682 = .ok (.iaload, 1) := by decide +kernel
theorem dX10_sort__683 : decode cX10_sort_ 683 = .ok (.iastore, 1) := by decide +kernel
theorem dX10_sort__684 : decode cX10_sort_ 684 = .ok (.aload_n 1, 1) := by decide +kernel
theorem dX10_sort__685 : decode cX10_sort_ 685 = .ok (.iload 14, 2) := by decide +kernel
theorem dX10_sort__687 : decode cX10_sort_ 687 = .ok (.iload 16, 2) := by decide +kernel
theorem dX10_sort__689 : decode cX10_sort_ 689 = .ok (.iastore, 1) := by decide +kernel
theorem dX10_sort__690 : decode cX10_sort_ 690 = .ok (.aload_n 1, 1) := by decide +kernel
theorem dX10_sort__691 : decode cX10_sort_ 691 = .ok (.iload 5, 2) := by decide +kernel
theorem dX10_sort__693 : decode cX10_sort_ 693 = .ok (.aload_n 1, 1) := by decide +kernel
theorem dX10_sort__694 : decode cX10_sort_ 694 = .ok (.iload 15, 2) := by decide +kernel
theorem dX10_sort__696 : decode cX10_sort_ 696 = .ok (.iaload, 1) := by decide +kernel
theorem dX10_sort__697 : decode cX10_sort_ 697 = .ok (.iastore, 1) := by decide +kernel
theorem dX10_sort__698 : decode cX10_sort_ 698 = .ok (.aload_n 1, 1) := by decide +kernel
theorem dX10_sort__699 : decode cX10_sort_ 699 = .ok (.iload 15, 2) := by decide +kernel
theorem dX10_sort__701 : decode cX10_sort_ 701 = .ok (.iload 17, 2) := by decide +kernel
theorem dX10_sort__703 : decode cX10_sort_ 703 = .ok (.iastore, 1) := by decide +kernel
theorem dX10_sort__704 : decode cX10_sort_ 704 = .ok (.iload 6, 2) := by decide +kernel
theorem dX10_sort__706 : decode cX10_sort_ 706 = .ok (.sipush 4096, 3) := by decide +kernel
theorem dX10_sort__709 : decode cX10_sort_ 709 = .ok (.if_icmp .le 36, 3) := by decide +kernel
theorem dX10_sort__712 : decode cX10_sort_ 712 = .ok (.aload_n 0, 1) := by decide +kernel
theorem dX10_sort__713 : decode cX10_sort_ 713 = .ok (.ifnull 32, 3) := by decide +kernel
theorem dX10_sort__716 : decode cX10_sort_ 716 = .ok (.aload_n 0, 1) := by decide +kernel
theorem dX10_sort__717 : decode cX10_sort_ 717 = .ok (.iload_n 2, 1) := by decide +kernel
theorem dX10_sort__718 : decode cX10_sort_ 718 = .ok (.iconst 1, 1) := by decide +kernel
theorem dX10_sort__719 : decode cX10_sort_ 719 = .ok (.ior, 1) := by decide +kernel
theorem dX10_sort__720 : decode cX10_sort_ 720 = .ok (.iload 14, 2) := by decide +kernel
theorem dX10_sort__722 : decode cX10_sort_ 722 = .ok (.iconst 1, 1) := by decide +kernel
theorem dX10_sort__723 : decode cX10_sort_ 723 = .ok (.iadd, 1) := by decide +kernel
theorem dX10_sort__724 : decode cX10_sort_ 724 = .ok (.iload 15, 2) := by decide +kernel
theorem dX10_sort__726 : decode cX10_sort_ 726 = .ok (.invokevirtual 45, 3) := by decide +kernel
theorem dX10_sort__729 : decode cX10_sort_ 729 = .ok (.aload_n 0, 1) := by decide +kernel
theorem dX10_sort__730 : decode cX10_sort_ 730 = .ok (.iload_n 2, 1) := by decide +kernel
theorem dX10_sort__731 : decode cX10_sort_ 731 = .ok (.iconst 1, 1) := by decide +kernel
theorem dX10_sort__732 : decode cX10_sort_ 732 = .ok (.ior, 1) := by decide +kernel
theorem dX10_sort__733 : decode cX10_sort_ 733 = .ok (.iload 15, 2) := by decide +kernel
theorem dX10_sort__735 : decode cX10_sort_ 735 = .ok (.iconst 1, 1) := by decide +kernel
theorem dX10_sort__736 : decode cX10_sort_ 736 = .ok (.iadd, 1) := by decide +kernel
theorem dX10_sort__737 : decode cX10_sort_ 737 = .ok (.iload 4, 2) := by decide +kernel
theorem dX10_sort__739 : decode cX10_sort_ 739 = .ok (.invokevirtual 45, 3) := by decide +kernel
theorem dX10_sort__742 : decode cX10_sort_ 742 = .ok (.goto 31, 3) := by decide +kernel
theorem dX10_sort__745 : decode cX10_sort_ 745 = .ok (.aload_n 0, 1) := by decide +kernel
theorem dX10_sort__746 : decode cX10_sort_ 746 = .ok (.aload_n 1, 1) := by decide +kernel
theorem dX10_sort__747 : decode cX10_sort_ 747 = .ok (.iload_n 2, 1) := by decide +kernel
theorem dX10_sort__748 : decode cX10_sort_ 748 = .ok (.iconst 1, 1) := by decide +kernel
theorem dX10_sort__749 : decode cX10_sort_ 749 = .ok (.ior, 1) := by decide +kernel
theorem dX10_sort__750 : decode cX10_sort_ 750 = .ok (.iload 14, 2) := by decide +kernel
theorem dX10_sort__752 : decode cX10_sort_ 752 = .ok (.iconst 1, 1) := by decide +kernel
theorem dX10_sort__753 : decode cX10_sort_ 753 = .ok (.iadd, 1) := by decide +kernel
theorem dX10_sort__754 : decode cX10_sort_ 754 = .ok (.iload 15, 2) := by decide +kernel
theorem dX10_sort__756 : decode cX10_sort_ 756 = .ok (.invokestatic 26, 3) := by decide +kernel
theorem dX10_sort__759 : decode cX10_sort_ 759 = .ok (.aload_n 0, 1) := by decide +kernel
theorem dX10_sort__760 : decode cX10_sort_ 760 = .ok (.aload_n 1, 1) := by decide +kernel
theorem dX10_sort__761 : decode cX10_sort_ 761 = .ok (.iload_n 2, 1) := by decide +kernel
theorem dX10_sort__762 : decode cX10_sort_ 762 = .ok (.iconst 1, 1) := by decide +kernel
theorem dX10_sort__763 : decode cX10_sort_ 763 = .ok (.ior, 1) := by decide +kernel
theorem dX10_sort__764 : decode cX10_sort_ 764 = .ok (.iload 15, 2) := by decide +kernel
theorem dX10_sort__766 : decode cX10_sort_ 766 = .ok (.iconst 1, 1) := by decide +kernel
theorem dX10_sort__767 : decode cX10_sort_ 767 = .ok (.iadd, 1) := by decide +kernel
theorem dX10_sort__768 : decode cX10_sort_ 768 = .ok (.iload 4, 2) := by decide +kernel
theorem dX10_sort__770 : decode cX10_sort_ 770 = .ok (.invokestatic 26, 3) := by decide +kernel
theorem dX10_sort__773 : decode cX10_sort_ 773 = .ok (.goto 167, 3) := by decide +kernel
theorem dX10_sort__776 : decode cX10_sort_ 776 = .ok (.aload_n 1, 1) := by decide +kernel
theorem dX10_sort__777 : decode cX10_sort_ 777 = .ok (.iload 10, 2) := by decide +kernel
theorem dX10_sort__779 : decode cX10_sort_ 779 = .ok (.iaload, 1) := by decide +kernel
theorem dX10_sort__780 : decode cX10_sort_ 780 = .ok (.istore 16, 2) := by decide +kernel
theorem dX10_sort__782 : decode cX10_sort_ 782 = .ok (.aload_n 1, 1) := by decide +kernel
theorem dX10_sort__783 : decode cX10_sort_ 783 = .ok (.iload 10, 2) := by decide +kernel
theorem dX10_sort__785 : decode cX10_sort_ 785 = .ok (.aload_n 1, 1) := by decide +kernel
theorem dX10_sort__786 : decode cX10_sort_ 786 = .ok (.iload 14, 2) := by decide +kernel
theorem dX10_sort__788 : decode cX10_sort_ 788 = .ok (.iaload, 1) := by decide +kernel
theorem dX10_sort__789 : decode cX10_sort_ 789 = .ok (.iastore, 1) := by decide +kernel
theorem dX10_sort__790 : decode cX10_sort_ 790 = .ok (.iinc 15 1, 3) := by decide +kernel
theorem dX10_sort__793 : decode cX10_sort_ 793 = .ok (.iload 15, 2) := by decide +kernel
theorem dX10_sort__795 : decode cX10_sort_ 795 = .ok (.istore 17, 2) := by decide +kernel
theorem dX10_sort__797 : decode cX10_sort_ 797 = .ok (.iinc 17 (-1), 3) := by decide +kernel
theorem dX10_sort__800 : decode cX10_sort_ 800 = .ok (.iload 17, 2) := by decide +kernel
theorem dX10_sort__802 : decode cX10_sort_ 802 = .ok (.iload 14, 2) := by decide +kernel
theorem dX10_sort__804 : decode cX10_sort_ 804 = .ok (.if_icmp .le 85, 3) := by decide +kernel
theorem dX10_sort__807 : decode cX10_sort_ 807 = .ok (.aload_n 1, 1) := by decide +kernel
theorem dX10_sort__808 : decode cX10_sort_ 808 = .ok (.iload 17, 2) := by decide +kernel
theorem dX10_sort__810 : decode cX10_sort_ 810 = .ok (.iaload, 1) := by decide +kernel
theorem dX10_sort__811 : decode cX10_sort_ 811 = .ok (.istore 18, 2) := by decide +kernel
theorem dX10_sort__813 : decode cX10_sort_ 813 = .ok (.iload 18, 2) := by decide +kernel
theorem dX10_sort__815 : decode cX10_sort_ 815 = .ok (.iload 16, 2) := by decide +kernel
theorem dX10_sort__817 : decode cX10_sort_ 817 = .ok (.if_icmp .eq 69, 3) := by decide +kernel
theorem dX10_sort__820 : decode cX10_sort_ 820 = .ok (.aload_n 1, 1) := by decide +kernel
theorem dX10_sort__821 : decode cX10_sort_ 821 = .ok (.iload 17, 2) := by decide +kernel
theorem dX10_sort__823 : decode cX10_sort_ 823 = .ok (.iload 16, 2) := by decide +kernel
theorem dX10_sort__825 : decode cX10_sort_ 825 = .ok (.iastore, 1) := by decide +kernel
theorem dX10_sort__826 : decode cX10_sort_ 826 = .ok (.iload 18, 2) := by decide +kernel
theorem dX10_sort__828 : decode cX10_sort_ 828 = .ok (.iload 16, 2) := by decide +kernel
theorem dX10_sort__830 : decode cX10_sort_ 830 = .ok (.if_icmp .ge 47, 3) := by decide +kernel
theorem dX10_sort__833 : decode cX10_sort_ 833 = .ok (.aload_n 1, 1) := by decide +kernel
theorem dX10_sort__834 : decode cX10_sort_ 834 = .ok (.iinc 14 1, 3) := by decide +kernel
theorem dX10_sort__837 : decode cX10_sort_ 837 = .ok (.iload 14, 2) := by decide +kernel
theorem dX10_sort__839 : decode cX10_sort_ 839 = .ok (.iaload, 1) := by decide +kernel
theorem dX10_sort__840 : decode cX10_sort_ 840 = .ok (.iload 16, 2) := by decide +kernel
theorem dX10_sort__842 : decode cX10_sort_ 842 = .ok (.if_icmp .ge 6, 3) := by decide +kernel
theorem dX10_sort__845 : decode cX10_sort_ 845 = .ok (.goto (-12), 3) := by decide +kernel
theorem dX10_sort__848 : decode cX10_sort_ 848 = .ok (.aload_n 1, 1) := by decide +kernel
theorem dX10_sort__849 : decode cX10_sort_ 849 = .ok (.iload 14, 2) := by decide +kernel
theorem dX10_sort__851 : decode cX10_sort_ 851 = .ok (.iaload, 1) := by decide +kernel
theorem dX10_sort__852 : decode cX10_sort_ 852 = .ok (.iload 16, 2) := by decide +kernel
theorem dX10_sort__854 : decode cX10_sort_ 854 = .ok (.if_icmp .le 14, 3) := by decide +kernel
theorem dX10_sort__857 : decode cX10_sort_ 857 = .ok (.aload_n 1, 1) := by decide +kernel
theorem dX10_sort__858 : decode cX10_sort_ 858 = .ok (.iinc 15 (-1), 3) := by decide +kernel
theorem dX10_sort__861 : decode cX10_sort_ 861 = .ok (.iload 15, 2) := by decide +kernel
theorem dX10_sort__863 : decode cX10_sort_ 863 = .ok (.aload_n 1, 1) := by decide +kernel
theorem dX10_sort__864 : decode cX10_sort_ 864 = .ok (.iload 14, 2) := by decide +kernel
theorem dX10_sort__866 : decode cX10_sort_ 866 = .ok (.iaload, 1) := by decide +kernel
theorem dX10_sort__867 : decode cX10_sort_ 867 = .ok (.iastore, 1) := by decide +kernel
theorem dX10_sort__868 : decode cX10_sort_ 868 = .ok (.aload_n 1, 1) := by decide +kernel
theorem dX10_sort__869 : decode cX10_sort_ 869 = .ok (.iload 14, 2) := by decide +kernel
theorem dX10_sort__871 : decode cX10_sort_ 871 = .ok (.iload 18, 2) := by decide +kernel
theorem dX10_sort__873 : decode cX10_sort_ 873 = .ok (.iastore, 1) := by decide +kernel
theorem dX10_sort__874 : decode cX10_sort_ 874 = .ok (.goto 12, 3) := by decide +kernel
theorem dX10_sort__877 : decode cX10_sort_ 877 = .ok (.aload_n 1, 1) := by decide +kernel
theorem dX10_sort__878 : decode cX10_sort_ 878 = .ok (.iinc 15 (-1), 3) := by decide +kernel
theorem dX10_sort__881 : decode cX10_sort_ 881 = .ok (.iload 15, 2) := by decide +kernel
theorem dX10_sort__883 : decode cX10_sort_ 883 = .ok (.iload 18, 2) := by decide +kernel
theorem dX10_sort__885 : decode cX10_sort_ 885 = .ok (.iastore, 1) := by decide +kernel
theorem dX10_sort__886 : decode cX10_sort_ 886 = .ok (.goto (-89), 3) := by decide +kernel
theorem dX10_sort__889 : decode cX10_sort_ 889 = .ok (.aload_n 1, 1) := by decide +kernel
theorem dX10_sort__890 : decode cX10_sort_ 890 = .ok (.iload_n 3, 1) := by decide +kernel
theorem dX10_sort__891 : decode cX10_sort_ 891 = .ok (.aload_n 1, 1) := by decide +kernel
theorem dX10_sort__892 : decode cX10_sort_ 892 = .ok (.iload 14, 2) := by decide +kernel
theorem dX10_sort__894 : decode cX10_sort_ 894 = .ok (.iaload, 1) := by decide +kernel
theorem dX10_sort__895 : decode cX10_sort_ 895 = .ok (.iastore, 1) := by decide +kernel
theorem dX10_sort__896 : decode cX10_sort_ 896 = .ok (.aload_n 1, 1) := by decide +kernel
theorem dX10_sort__897 : decode cX10_sort_ 897 = .ok (.iload 14, 2) := by decide +kernel
theorem dX10_sort__899 : decode cX10_sort_ 899 = .ok (.iload 16, 2) := by decide +kernel
theorem dX10_sort__901 : decode cX10_sort_ 901 = .ok (.iastore, 1) := by decide +kernel
theorem dX10_sort__902 : decode cX10_sort_ 902 = .ok (.iload 6, 2) := by decide +kernel
theorem dX10_sort__904 : decode cX10_sort_ 904 = .ok (.sipush 4096, 3) := by decide +kernel
theorem dX10_sort__907 : decode cX10_sort_ 907 = .ok (.if_icmp .le 21, 3) := by decide +kernel
theorem dX10_sort__910 : decode cX10_sort_ 910 = .ok (.aload_n 0, 1) := by decide +kernel
theorem dX10_sort__911 : decode cX10_sort_ 911 = .ok (.ifnull 17, 3) := by decide +kernel
theorem dX10_sort__914 : decode cX10_sort_ 914 = .ok (.aload_n 0, 1) := by decide +kernel
theorem dX10_sort__915 : decode cX10_sort_ 915 = .ok (.iload_n 2, 1) := by decide +kernel
theorem dX10_sort__916 : decode cX10_sort_ 916 = .ok (.iconst 1, 1) := by decide +kernel
theorem dX10_sort__917 : decode cX10_sort_ 917 = .ok (.ior, 1) := by decide +kernel
theorem dX10_sort__918 : decode cX10_sort_ 918 = .ok (.iload 15, 2) := by decide +kernel
theorem dX10_sort__920 : decode cX10_sort_ 920 = .ok (.iload 4, 2) := by decide +kernel
theorem dX10_sort__922 : decode cX10_sort_ 922 = .ok (.invokevirtual 45, 3) := by decide +kernel
theorem dX10_sort__925 : decode cX10_sort_ 925 = .ok (.goto 15, 3) := by decide +kernel
theorem dX10_sort__928 : decode cX10_sort_ 928 = .ok (.aload_n 0, 1) := by decide +kernel
theorem dX10_sort__929 : decode cX10_sort_ 929 = .ok (.aload_n 1, 1) := by decide +kernel
theorem dX10_sort__930 : decode cX10_sort_ 930 = .ok (.iload_n 2, 1) := by decide +kernel
theorem dX10_sort__931 : decode cX10_sort_ 931 = .ok (.iconst 1, 1) := by decide +kernel
theorem dX10_sort__932 : decode cX10_sort_ 932 = .ok (.ior, 1) := by decide +kernel
theorem dX10_sort__933 : decode cX10_sort_ 933 = .ok (.iload 15, 2) := by decide +kernel
theorem dX10_sort__935 : decode cX10_sort_ 935 = .ok (.iload 4, 2) := by decide +kernel
theorem dX10_sort__937 : decode cX10_sort_ 937 = .ok (.invokestatic 26, 3) := by decide +kernel
theorem dX10_sort__940 : decode cX10_sort_ 940 = .ok (.iload 14, 2) := by decide +kernel
theorem dX10_sort__942 : decode cX10_sort_ 942 = .ok (.istore 4, 2) := by decide +kernel
theorem dX10_sort__944 : decode cX10_sort_ 944 = .ok (.goto (-944), 3) := by decide +kernel
theorem dX10_mixedInsertionSort_0 : decode cX10_mixedInsertionSort 0 = .ok (.iload_n 2, 1) := by decide +kernel
theorem dX10_mixedInsertionSort_1 : decode cX10_mixedInsertionSort 1 = .ok (.iload_n 3, 1) := by decide +kernel
theorem dX10_mixedInsertionSort_2 : decode cX10_mixedInsertionSort 2 = .ok (.if_icmp .ne 58, 3) := by decide +kernel
theorem dX10_mixedInsertionSort_5 : decode cX10_mixedInsertionSort 5 = .ok (.iinc 1 1, 3) := by decide +kernel
theorem dX10_mixedInsertionSort_8 : decode cX10_mixedInsertionSort 8 = .ok (.iload_n 1, 1) := by decide +kernel
theorem dX10_mixedInsertionSort_9 : decode cX10_mixedInsertionSort 9 = .ok (.iload_n 2, 1) := by decide +kernel
theorem dX10_mixedInsertionSort_10 : decode cX10_mixedInsertionSort 10 = .ok (.if_icmp .ge 47, 3) := by decide +kernel
theorem dX10_mixedInsertionSort_13 : decode cX10_mixedInsertionSort 13 = .ok (.aload_n 0, 1) := by decide +kernel
theorem dX10_mixedInsertionSort_14 : decode cX10_mixedInsertionSort 14 = .ok (.iload_n 1, 1) := by decide +kernel
theorem dX10_mixedInsertionSort_15 : decode cX10_mixedInsertionSort 15 = .ok (.dup, 1) := by decide +kernel
theorem dX10_mixedInsertionSort_16 : decode cX10_mixedInsertionSort 16 = .ok (.istore 4, 2) := by decide +kernel
theorem dX10_mixedInsertionSort_18 : decode cX10_mixedInsertionSort 18 = .ok (.iaload, 1) := by decide +kernel
theorem dX10_mixedInsertionSort_19 : decode cX10_mixedInsertionSort 19 = .ok (.istore 5, 2) := by decide +kernel
theorem dX10_mixedInsertionSort_21 : decode cX10_mixedInsertionSort 21 = .ok (.iload 5, 2) := by decide +kernel
theorem dX10_mixedInsertionSort_23 : decode cX10_mixedInsertionSort 23 = .ok (.aload_n 0, 1) := by decide +kernel
theorem dX10_mixedInsertionSort_24 : decode cX10_mixedInsertionSort 24 = .ok (.iinc 4 (-1), 3) := by decide +kernel
theorem dX10_mixedInsertionSort_27 : decode cX10_mixedInsertionSort 27 = .ok (.iload 4, 2) := by decide +kernel
theorem dX10_mixedInsertionSort_29 : decode cX10_mixedInsertionSort 29 = .ok (.iaload, 1) := by decide +kernel
theorem dX10_mixedInsertionSort_30 : decode cX10_mixedInsertionSort 30 = .ok (.if_icmp .ge 16, 3) := by decide +kernel
theorem dX10_mixedInsertionSort_33 : decode cX10_mixedInsertionSort 33 = .ok (.aload_n 0, 1) := by decide +kernel
theorem dX10_mixedInsertionSort_34 : decode cX10_mixedInsertionSort 34 = .ok (.iload 4, 2) := by decide +kernel
theorem dX10_mixedInsertionSort_36 : decode cX10_mixedInsertionSort 36 = .ok (.iconst 1, 1) := by decide +kernel
theorem dX10_mixedInsertionSort_37 : decode cX10_mixedInsertionSort 37 = .ok (.iadd, 1) := by decide +kernel
theorem dX10_mixedInsertionSort_38 : decode cX10_mixedInsertionSort 38 = .ok (.aload_n 0, 1) := by decide +kernel
theorem dX10_mixedInsertionSort_39 : decode cX10_mixedInsertionSort 39 = .ok (.iload 4, 2) := by decide +kernel
theorem dX10_mixedInsertionSort_41 : decode cX10_mixedInsertionSort 41 = .ok (.iaload, 1) := by decide +kernel
theorem dX10_mixedInsertionSort_42 : decode cX10_mixedInsertionSort 42 = .ok (.iastore, 1) := by decide +kernel
theorem dX10_mixedInsertionSort_43 : decode cX10_mixedInsertionSort 43 = .ok (.goto (-22), 3) := by decide +kernel
theorem dX10_mixedInsertionSort_46 : decode cX10_mixedInsertionSort 46 = .ok (.aload_n 0, 1) := by decide +kernel
theorem dX10_mixedInsertionSort_47 : decode cX10_mixedInsertionSort 47 = .ok (.iload 4, 2) := by decide +kernel
theorem dX10_mixedInsertionSort_49 : decode cX10_mixedInsertionSort 49 = .ok (.iconst 1, 1) := by decide +kernel
theorem dX10_mixedInsertionSort_50 : decode cX10_mixedInsertionSort 50 = .ok (.iadd, 1) := by decide +kernel
theorem dX10_mixedInsertionSort_51 : decode cX10_mixedInsertionSort 51 = .ok (.iload 5, 2) := by decide +kernel
theorem dX10_mixedInsertionSort_53 : decode cX10_mixedInsertionSort 53 = .ok (.iastore, 1) := by decide +kernel
theorem dX10_mixedInsertionSort_54 : decode cX10_mixedInsertionSort 54 = .ok (.goto (-49), 3) := by decide +kernel
theorem dX10_mixedInsertionSort_57 : decode cX10_mixedInsertionSort 57 = .ok (.goto 357, 3) := by decide +kernel
theorem dX10_mixedInsertionSort_60 : decode cX10_mixedInsertionSort 60 = .ok (.aload_n 0, 1) := by decide +kernel
theorem dX10_mixedInsertionSort_61 : decode cX10_mixedInsertionSort 61 = .ok (.iload_n 2, 1) := by decide +kernel
theorem dX10_mixedInsertionSort_62 : decode cX10_mixedInsertionSort 62 = .ok (.iaload, 1) := by decide +kernel
theorem dX10_mixedInsertionSort_63 : decode cX10_mixedInsertionSort 63 = .ok (.istore 4, 2) := by decide +kernel
theorem dX10_mixedInsertionSort_65 : decode cX10_mixedInsertionSort 65 = .ok (.iload_n 3, 1) := by decide +kernel
theorem dX10_mixedInsertionSort_66 : decode cX10_mixedInsertionSort 66 = .ok (.istore 6, 2) := by decide +kernel
theorem dX10_mixedInsertionSort_68 : decode cX10_mixedInsertionSort 68 = .ok (.iinc 1 1, 3) := by decide +kernel
theorem dX10_mixedInsertionSort_71 : decode cX10_mixedInsertionSort 71 = .ok (.iload_n 1, 1) := by decide +kernel
theorem dX10_mixedInsertionSort_72 : decode cX10_mixedInsertionSort 72 = .ok (.iload_n 2, 1) := by decide +kernel
theorem dX10_mixedInsertionSort_73 : decode cX10_mixedInsertionSort 73 = .ok (.if_icmp .ge 155, 3) := by decide +kernel
theorem dX10_mixedInsertionSort_76 : decode cX10_mixedInsertionSort 76 = .ok (.aload_n 0, 1) := by decide +kernel
theorem dX10_mixedInsertionSort_77 : decode cX10_mixedInsertionSort 77 = .ok (.iload_n 1, 1) := by decide +kernel
theorem dX10_mixedInsertionSort_78 : decode cX10_mixedInsertionSort 78 = .ok (.dup, 1) := by decide +kernel
theorem dX10_mixedInsertionSort_79 : decode cX10_mixedInsertionSort 79 = .ok (.istore 5, 2) := by decide +kernel
theorem dX10_mixedInsertionSort_81 : decode cX10_mixedInsertionSort 81 = .ok (.iaload, 1) := by decide +kernel
theorem dX10_mixedInsertionSort_82 : decode cX10_mixedInsertionSort 82 = .ok (.istore 7, 2) := by decide +kernel
theorem dX10_mixedInsertionSort_84 : decode cX10_mixedInsertionSort 84 = .ok (.iload 7, 2) := by decide +kernel
theorem dX10_mixedInsertionSort_86 : decode cX10_mixedInsertionSort 86 = .ok (.aload_n 0, 1) := by decide +kernel
theorem dX10_mixedInsertionSort_87 : decode cX10_mixedInsertionSort 87 = .ok (.iload 5, 2) := by decide +kernel
theorem dX10_mixedInsertionSort_89 : decode cX10_mixedInsertionSort 89 = .ok (.iconst 1, 1) := by decide +kernel
theorem dX10_mixedInsertionSort_90 : decode cX10_mixedInsertionSort 90 = .ok (.isub, 1) := by decide +kernel
theorem dX10_mixedInsertionSort_91 : decode cX10_mixedInsertionSort 91 = .ok (.iaload, 1) := by decide +kernel
theorem dX10_mixedInsertionSort_92 : decode cX10_mixedInsertionSort 92 = .ok (.if_icmp .ge 50, 3) := by decide +kernel
theorem dX10_mixedInsertionSort_95 : decode cX10_mixedInsertionSort 95 = .ok (.aload_n 0, 1) := by decide +kernel
theorem dX10_mixedInsertionSort_96 : decode cX10_mixedInsertionSort 96 = .ok (.iload 5, 2) := by decide +kernel
theorem dX10_mixedInsertionSort_98 : decode cX10_mixedInsertionSort 98 = .ok (.aload_n 0, 1) := by decide +kernel
theorem dX10_mixedInsertionSort_99 : decode cX10_mixedInsertionSort 99 = .ok (.iinc 5 (-1), 3) := by decide +kernel
theorem dX10_mixedInsertionSort_102 : decode cX10_mixedInsertionSort 102 = .ok (.iload 5, 2) := by decide +kernel
theorem dX10_mixedInsertionSort_104 : decode cX10_mixedInsertionSort 104 = .ok (.iaload, 1) := by decide +kernel
theorem dX10_mixedInsertionSort_105 : decode cX10_mixedInsertionSort 105 = .ok (.iastore, 1) := by decide +kernel
theorem dX10_mixedInsertionSort_106 : decode cX10_mixedInsertionSort 106 = .ok (.iload 7, 2) := by decide +kernel
theorem dX10_mixedInsertionSort_108 : decode cX10_mixedInsertionSort 108 = .ok (.aload_n 0, 1) := by decide +kernel
theorem dX10_mixedInsertionSort_109 : decode cX10_mixedInsertionSort 109 = .ok (.iinc 5 (-1), 3) := by decide +kernel
theorem dX10_mixedInsertionSort_112 : decode cX10_mixedInsertionSort 112 = .ok (.iload 5, 2) := by decide +kernel
theorem dX10_mixedInsertionSort_114 : decode cX10_mixedInsertionSort 114 = .ok (.iaload, 1) := by decide +kernel
theorem dX10_mixedInsertionSort_115 : decode cX10_mixedInsertionSort 115 = .ok (.if_icmp .ge 16, 3) := by decide +kernel
theorem dX10_mixedInsertionSort_118 : decode cX10_mixedInsertionSort 118 = .ok (.aload_n 0, 1) := by decide +kernel
theorem dX10_mixedInsertionSort_119 : decode cX10_mixedInsertionSort 119 = .ok (.iload 5, 2) := by decide +kernel
theorem dX10_mixedInsertionSort_121 : decode cX10_mixedInsertionSort 121 = .ok (.iconst 1, 1) := by decide +kernel
theorem dX10_mixedInsertionSort_122 : decode cX10_mixedInsertionSort 122 = .ok (.iadd, 1) := by decide +kernel
theorem dX10_mixedInsertionSort_123 : decode cX10_mixedInsertionSort 123 = .ok (.aload_n 0, 1) := by decide +kernel
theorem dX10_mixedInsertionSort_124 : decode cX10_mixedInsertionSort 124 = .ok (.iload 5, 2) := by decide +kernel
theorem dX10_mixedInsertionSort_126 : decode cX10_mixedInsertionSort 126 = .ok (.iaload, 1) := by decide +kernel
theorem dX10_mixedInsertionSort_127 : decode cX10_mixedInsertionSort 127 = .ok (.iastore, 1) := by decide +kernel
theorem dX10_mixedInsertionSort_128 : decode cX10_mixedInsertionSort 128 = .ok (.goto (-22), 3) := by decide +kernel
theorem dX10_mixedInsertionSort_131 : decode cX10_mixedInsertionSort 131 = .ok (.aload_n 0, 1) := by decide +kernel
theorem dX10_mixedInsertionSort_132 : decode cX10_mixedInsertionSort 132 = .ok (.iload 5, 2) := by decide +kernel
theorem dX10_mixedInsertionSort_134 : decode cX10_mixedInsertionSort 134 = .ok (.iconst 1, 1) := by decide +kernel
theorem dX10_mixedInsertionSort_135 : decode cX10_mixedInsertionSort 135 = .ok (.iadd, 1) := by decide +kernel
theorem dX10_mixedInsertionSort_136 : decode cX10_mixedInsertionSort 136 = .ok (.iload 7, 2) := by decide +kernel
theorem dX10_mixedInsertionSort_138 : decode cX10_mixedInsertionSort 138 = .ok (.iastore, 1) := by decide +kernel
theorem dX10_mixedInsertionSort_139 : decode cX10_mixedInsertionSort 139 = .ok (.goto 86, 3) := by decide +kernel
theorem dX10_mixedInsertionSort_142 : decode cX10_mixedInsertionSort 142 = .ok (.iload 6, 2) := by decide +kernel
theorem dX10_mixedInsertionSort_144 : decode cX10_mixedInsertionSort 144 = .ok (.iload 5, 2) := by decide +kernel
theorem dX10_mixedInsertionSort_146 : decode cX10_mixedInsertionSort 146 = .ok (.if_icmp .le 79, 3) := by decide +kernel
theorem dX10_mixedInsertionSort_149 : decode cX10_mixedInsertionSort 149 = .ok (.iload 7, 2) := by decide +kernel
theorem dX10_mixedInsertionSort_151 : decode cX10_mixedInsertionSort 151 = .ok (.iload 4, 2) := by decide +kernel
theorem dX10_mixedInsertionSort_153 : decode cX10_mixedInsertionSort 153 = .ok (.if_icmp .le 72, 3) := by decide +kernel
theorem dX10_mixedInsertionSort_156 : decode cX10_mixedInsertionSort 156 = .ok (.aload_n 0, 1) := by decide +kernel
theorem dX10_mixedInsertionSort_157 : decode cX10_mixedInsertionSort 157 = .ok (.iinc 6 (-1), 3) := by decide +kernel
theorem dX10_mixedInsertionSort_160 : decode cX10_mixedInsertionSort 160 = .ok (.iload 6, 2) := by decide +kernel
theorem dX10_mixedInsertionSort_162 : decode cX10_mixedInsertionSort 162 = .ok (.iaload, 1) := by decide +kernel
theorem dX10_mixedInsertionSort_163 : decode cX10_mixedInsertionSort 163 = .ok (.iload 4, 2) := by decide +kernel
theorem dX10_mixedInsertionSort_165 : decode cX10_mixedInsertionSort 165 = .ok (.if_icmp .le 6, 3) := by decide +kernel
theorem dX10_mixedInsertionSort_168 : decode cX10_mixedInsertionSort 168 = .ok (.goto (-12), 3) := by decide +kernel
theorem dX10_mixedInsertionSort_171 : decode cX10_mixedInsertionSort 171 = .ok (.iload 6, 2) := by decide +kernel
theorem dX10_mixedInsertionSort_173 : decode cX10_mixedInsertionSort 173 = .ok (.iload 5, 2) := by decide +kernel
theorem dX10_mixedInsertionSort_175 : decode cX10_mixedInsertionSort 175 = .ok (.if_icmp .le 17, 3) := by decide +kernel
theorem dX10_mixedInsertionSort_178 : decode cX10_mixedInsertionSort 178 = .ok (.aload_n 0, 1) := by decide +kernel
theorem dX10_mixedInsertionSort_179 : decode cX10_mixedInsertionSort 179 = .ok (.iload 6, 2) := by decide +kernel
theorem dX10_mixedInsertionSort_181 : decode cX10_mixedInsertionSort 181 = .ok (.iaload, 1) := by decide +kernel
theorem dX10_mixedInsertionSort_182 : decode cX10_mixedInsertionSort 182 = .ok (.istore 7, 2) := by decide +kernel
theorem dX10_mixedInsertionSort_184 : decode cX10_mixedInsertionSort 184 = .ok (.aload_n 0, 1) := by decide +kernel
theorem dX10_mixedInsertionSort_185 : decode cX10_mixedInsertionSort 185 = .ok (.iload 6, 2) := by decide +kernel
theorem dX10_mixedInsertionSort_187 : decode cX10_mixedInsertionSort 187 = .ok (.aload_n 0, 1) := by decide +kernel
theorem dX10_mixedInsertionSort_188 : decode cX10_mixedInsertionSort 188 = .ok (.iload 5, 2) := by decide +kernel
theorem dX10_mixedInsertionSort_190 : decode cX10_mixedInsertionSort 190 = .ok (.iaload, 1) := by decide +kernel
theorem dX10_mixedInsertionSort_191 : decode cX10_mixedInsertionSort 191 = .ok (.iastore, 1) := by decide +kernel
theorem dX10_mixedInsertionSort_192 : decode cX10_mixedInsertionSort 192 = .ok (.iload 7, 2) := by decide +kernel
theorem dX10_mixedInsertionSort_194 : decode cX10_mixedInsertionSort 194 = .ok (.aload_n 0, 1) := by decide +kernel
theorem dX10_mixedInsertionSort_195 : decode cX10_mixedInsertionSort 195 = .ok (.iinc 5 (-1), 3) := by decide +kernel
theorem dX10_mixedInsertionSort_198 : decode cX10_mixedInsertionSort 198 = .ok (.iload 5, 2) := by decide +kernel
theorem dX10_mixedInsertionSort_200 : decode cX10_mixedInsertionSort 200 = .ok (.iaload, 1) := by decide +kernel
theorem dX10_mixedInsertionSort_201 : decode cX10_mixedInsertionSort 201 = .ok (.if_icmp .ge 16, 3) := by decide +kernel
theorem dX10_mixedInsertionSort_204 : decode cX10_mixedInsertionSort 204 = .ok (.aload_n 0, 1) := by decide +kernel
theorem dX10_mixedInsertionSort_205 : decode cX10_mixedInsertionSort 205 = .ok (.iload 5, 2) := by decide +kernel
theorem dX10_mixedInsertionSort_207 : decode cX10_mixedInsertionSort 207 = .ok (.iconst 1, 1) := by decide +kernel
theorem dX10_mixedInsertionSort_208 : decode cX10_mixedInsertionSort 208 = .ok (.iadd, 1) := by decide +kernel
theorem dX10_mixedInsertionSort_209 : decode cX10_mixedInsertionSort 209 = .ok (.aload_n 0, 1) := by decide +kernel
theorem dX10_mixedInsertionSort_210 : decode cX10_mixedInsertionSort 210 = .ok (.iload 5, 2) := by decide +kernel
theorem dX10_mixedInsertionSort_212 : decode cX10_mixedInsertionSort 212 = .ok (.iaload, 1) := by decide +kernel
theorem dX10_mixedInsertionSort_213 : decode cX10_mixedInsertionSort 213 = .ok (.iastore, 1) := by decide +kernel
theorem dX10_mixedInsertionSort_214 : decode cX10_mixedInsertionSort 214 = .ok (.goto (-22), 3) := by decide +kernel
theorem dX10_mixedInsertionSort_217 : decode cX10_mixedInsertionSort 217 = .ok (.aload_n 0, 1) := by decide +kernel
theorem dX10_mixedInsertionSort_218 : decode cX10_mixedInsertionSort 218 = .ok (.iload 5, 2) := by decide +kernel
theorem dX10_mixedInsertionSort_220 : decode cX10_mixedInsertionSort 220 = .ok (.iconst 1, 1) := by decide +kernel
theorem dX10_mixedInsertionSort_221 : decode cX10_mixedInsertionSort 221 = .ok (.iadd, 1) := by decide +kernel
theorem dX10_mixedInsertionSort_222 : decode cX10_mixedInsertionSort 222 = .ok (.iload 7, 2) := by decide +kernel
theorem dX10_mixedInsertionSort_224 : decode cX10_mixedInsertionSort 224 = .ok (.iastore, 1) := by decide +kernel
theorem dX10_mixedInsertionSort_225 : decode cX10_mixedInsertionSort 225 = .ok (.goto (-157), 3) := by decide +kernel
theorem dX10_mixedInsertionSort_228 : decode cX10_mixedInsertionSort 228 = .ok (.iload_n 1, 1) := by decide +kernel
theorem dX10_mixedInsertionSort_229 : decode cX10_mixedInsertionSort 229 = .ok (.iload_n 3, 1) := by decide +kernel
theorem dX10_mixedInsertionSort_230 : decode cX10_mixedInsertionSort 230 = .ok (.if_icmp .ge 184, 3) := by decide +kernel
theorem dX10_mixedInsertionSort_233 : decode cX10_mixedInsertionSort 233 = .ok (.aload_n 0, 1) := by decide +kernel
theorem dX10_mixedInsertionSort_234 : decode cX10_mixedInsertionSort 234 = .ok (.iload_n 1, 1) := by decide +kernel
theorem dX10_mixedInsertionSort_235 : decode cX10_mixedInsertionSort 235 = .ok (.dup, 1) := by decide +kernel
theorem dX10_mixedInsertionSort_236 : decode cX10_mixedInsertionSort 236 = .ok (.istore 5, 2) := by decide +kernel
theorem dX10_mixedInsertionSort_238 : decode cX10_mixedInsertionSort 238 = .ok (.iaload, 1) := by decide +kernel
theorem dX10_mixedInsertionSort_239 : decode cX10_mixedInsertionSort 239 = .ok (.istore 6, 2) := by decide +kernel
theorem dX10_mixedInsertionSort_241 : decode cX10_mixedInsertionSort 241 = .ok (.aload_n 0, 1) := by decide +kernel
theorem dX10_mixedInsertionSort_242 : decode cX10_mixedInsertionSort 242 = .ok (.iinc 1 1, 3) := by decide +kernel
theorem dX10_mixedInsertionSort_245 : decode cX10_mixedInsertionSort 245 = .ok (.iload_n 1, 1) := by decide +kernel
theorem dX10_mixedInsertionSort_246 : decode cX10_mixedInsertionSort 246 = .ok (.iaload, 1) := by decide +kernel
theorem dX10_mixedInsertionSort_247 : decode cX10_mixedInsertionSort 247 = .ok (.istore 7, 2) := by decide +kernel
theorem dX10_mixedInsertionSort_249 : decode cX10_mixedInsertionSort 249 = .ok (.iload 6, 2) := by decide +kernel
theorem dX10_mixedInsertionSort_251 : decode cX10_mixedInsertionSort 251 = .ok (.iload 7, 2) := by decide +kernel
theorem dX10_mixedInsertionSort_253 : decode cX10_mixedInsertionSort 253 = .ok (.if_icmp .le 75, 3) := by decide +kernel
theorem dX10_mixedInsertionSort_256 : decode cX10_mixedInsertionSort 256 = .ok (.iload 6, 2) := by decide +kernel
theorem dX10_mixedInsertionSort_258 : decode cX10_mixedInsertionSort 258 = .ok (.aload_n 0, 1) := by decide +kernel
theorem dX10_mixedInsertionSort_259 : decode cX10_mixedInsertionSort 259 = .ok (.iinc 5 (-1), 3) := by decide +kernel
theorem dX10_mixedInsertionSort_262 : decode cX10_mixedInsertionSort 262 = .ok (.iload 5, 2) := by decide +kernel
theorem dX10_mixedInsertionSort_264 : decode cX10_mixedInsertionSort 264 = .ok (.iaload, 1) := by decide +kernel
theorem dX10_mixedInsertionSort_265 : decode cX10_mixedInsertionSort 265 = .ok (.if_icmp .ge 16, 3) := by decide +kernel
theorem dX10_mixedInsertionSort_268 : decode cX10_mixedInsertionSort 268 = .ok (.aload_n 0, 1) := by decide +kernel
theorem dX10_mixedInsertionSort_269 : decode cX10_mixedInsertionSort 269 = .ok (.iload 5, 2) := by decide +kernel
theorem dX10_mixedInsertionSort_271 : decode cX10_mixedInsertionSort 271 = .ok (.iconst 2, 1) := by decide +kernel
theorem dX10_mixedInsertionSort_272 : decode cX10_mixedInsertionSort 272 = .ok (.iadd, 1) := by decide +kernel
theorem dX10_mixedInsertionSort_273 : decode cX10_mixedInsertionSort 273 = .ok (.aload_n 0, 1) := by decide +kernel
theorem dX10_mixedInsertionSort_274 : decode cX10_mixedInsertionSort 274 = .ok (.iload 5, 2) := by decide +kernel
theorem dX10_mixedInsertionSort_276 : decode cX10_mixedInsertionSort 276 = .ok (.iaload, 1) := by decide +kernel
theorem dX10_mixedInsertionSort_277 : decode cX10_mixedInsertionSort 277 = .ok (.iastore, 1) := by decide +kernel
theorem dX10_mixedInsertionSort_278 : decode cX10_mixedInsertionSort 278 = .ok (.goto (-22), 3) := by decide +kernel
theorem dX10_mixedInsertionSort_281 : decode cX10_mixedInsertionSort 281 = .ok (.aload_n 0, 1) := by decide +kernel
theorem dX10_mixedInsertionSort_282 : decode cX10_mixedInsertionSort 282 = .ok (.iinc 5 1, 3) := by decide +kernel
theorem dX10_mixedInsertionSort_285 : decode cX10_mixedInsertionSort 285 = .ok (.iload 5, 2) := by decide +kernel
theorem dX10_mixedInsertionSort_287 : decode cX10_mixedInsertionSort 287 = .ok (.iconst 1, 1) := by decide +kernel
theorem dX10_mixedInsertionSort_288 : decode cX10_mixedInsertionSort 288 = .ok (.iadd, 1) := by decide +kernel
theorem dX10_mixedInsertionSort_289 : decode cX10_mixedInsertionSort 289 = .ok (.iload 6, 2) := by decide +kernel
theorem dX10_mixedInsertionSort_291 : decode cX10_mixedInsertionSort 291 = .ok (.iastore, 1) := by decide +kernel
theorem dX10_mixedInsertionSort_292 : decode cX10_mixedInsertionSort 292 = .ok (.iload 7, 2) := by decide +kernel
theorem dX10_mixedInsertionSort_294 : decode cX10_mixedInsertionSort 294 = .ok (.aload_n 0, 1) := by decide +kernel
theorem dX10_mixedInsertionSort_295 : decode cX10_mixedInsertionSort 295 = .ok (.iinc 5 (-1), 3) := by decide +kernel
theorem dX10_mixedInsertionSort_298 : decode cX10_mixedInsertionSort 298 = .ok (.iload 5, 2) := by decide +kernel
theorem dX10_mixedInsertionSort_300 : decode cX10_mixedInsertionSort 300 = .ok (.iaload, 1) := by decide +kernel
theorem dX10_mixedInsertionSort_301 : decode cX10_mixedInsertionSort 301 = .ok (.if_icmp .ge 16, 3) := by decide +kernel
theorem dX10_mixedInsertionSort_304 : decode cX10_mixedInsertionSort 304 = .ok (.aload_n 0, 1) := by decide +kernel
theorem dX10_mixedInsertionSort_305 : decode cX10_mixedInsertionSort 305 = .ok (.iload 5, 2) := by decide +kernel
theorem dX10_mixedInsertionSort_307 : decode cX10_mixedInsertionSort 307 = .ok (.iconst 1, 1) := by decide +kernel
theorem dX10_mixedInsertionSort_308 : decode cX10_mixedInsertionSort 308 = .ok (.iadd, 1) := by decide +kernel
theorem dX10_mixedInsertionSort_309 : decode cX10_mixedInsertionSort 309 = .ok (.aload_n 0, 1) := by decide +kernel
theorem dX10_mixedInsertionSort_310 : decode cX10_mixedInsertionSort 310 = .ok (.iload 5, 2) := by decide +kernel
theorem dX10_mixedInsertionSort_312 : decode cX10_mixedInsertionSort 312 = .ok (.iaload, 1) := by decide +kernel
theorem dX10_mixedInsertionSort_313 : decode cX10_mixedInsertionSort 313 = .ok (.iastore, 1) := by decide +kernel
theorem dX10_mixedInsertionSort_314 : decode cX10_mixedInsertionSort 314 = .ok (.goto (-22), 3) := by decide +kernel
theorem dX10_mixedInsertionSort_317 : decode cX10_mixedInsertionSort 317 = .ok (.aload_n 0, 1) := by decide +kernel
theorem dX10_mixedInsertionSort_318 : decode cX10_mixedInsertionSort 318 = .ok (.iload 5, 2) := by decide +kernel
theorem dX10_mixedInsertionSort_320 : decode cX10_mixedInsertionSort 320 = .ok (.iconst 1, 1) := by decide +kernel
theorem dX10_mixedInsertionSort_321 : decode cX10_mixedInsertionSort 321 = .ok (.iadd, 1) := by decide +kernel
theorem dX10_mixedInsertionSort_322 : decode cX10_mixedInsertionSort 322 = .ok (.iload 7, 2) := by decide +kernel
theorem dX10_mixedInsertionSort_324 : decode cX10_mixedInsertionSort 324 = .ok (.iastore, 1) := by decide +kernel
theorem dX10_mixedInsertionSort_325 : decode cX10_mixedInsertionSort 325 = .ok (.goto 83, 3) := by decide +kernel
theorem dX10_mixedInsertionSort_328 : decode cX10_mixedInsertionSort 328 = .ok (.iload 6, 2) := by decide +kernel
theorem dX10_mixedInsertionSort_330 : decode cX10_mixedInsertionSort 330 = .ok (.aload_n 0, 1) := by decide +kernel
theorem dX10_mixedInsertionSort_331 : decode cX10_mixedInsertionSort 331 = .ok (.iload 5, 2) := by decide +kernel
theorem dX10_mixedInsertionSort_333 : decode cX10_mixedInsertionSort 333 = .ok (.iconst 1, 1) := by decide +kernel
theorem dX10_mixedInsertionSort_334 : decode cX10_mixedInsertionSort 334 = .ok (.isub, 1) := by decide +kernel
theorem dX10_mixedInsertionSort_335 : decode cX10_mixedInsertionSort 335 = .ok (.iaload, 1) := by decide +kernel
theorem dX10_mixedInsertionSort_336 : decode cX10_mixedInsertionSort 336 = .ok (.if_icmp .ge 72, 3) := by decide +kernel
theorem dX10_mixedInsertionSort_339 : decode cX10_mixedInsertionSort 339 = .ok (.iload 7, 2) := by decide +kernel
theorem dX10_mixedInsertionSort_341 : decode cX10_mixedInsertionSort 341 = .ok (.aload_n 0, 1) := by decide +kernel
theorem dX10_mixedInsertionSort_342 : decode cX10_mixedInsertionSort 342 = .ok (.iinc 5 (-1), 3) := by decide +kernel
theorem dX10_mixedInsertionSort_345 : decode cX10_mixedInsertionSort 345 = .ok (.iload 5, 2) := by decide +kernel
theorem dX10_mixedInsertionSort_347 : decode cX10_mixedInsertionSort 347 = .ok (.iaload, 1) := by decide +kernel
theorem dX10_mixedInsertionSort_348 : decode cX10_mixedInsertionSort 348 = .ok (.if_icmp .ge 16, 3) := by decide +kernel
theorem dX10_mixedInsertionSort_351 : decode cX10_mixedInsertionSort 351 = .ok (.aload_n 0, 1) := by decide +kernel
theorem dX10_mixedInsertionSort_352 : decode cX10_mixedInsertionSort 352 = .ok (.iload 5, 2) := by decide +kernel
theorem dX10_mixedInsertionSort_354 : decode cX10_mixedInsertionSort 354 = .ok (.iconst 2, 1) := by decide +kernel
theorem dX10_mixedInsertionSort_355 : decode cX10_mixedInsertionSort 355 = .ok (.iadd, 1) := by decide +kernel
theorem dX10_mixedInsertionSort_356 : decode cX10_mixedInsertionSort 356 = .ok (.aload_n 0, 1) := by decide +kernel
theorem dX10_mixedInsertionSort_357 : decode cX10_mixedInsertionSort 357 = .ok (.iload 5, 2) := by decide +kernel
theorem dX10_mixedInsertionSort_359 : decode cX10_mixedInsertionSort 359 = .ok (.iaload, 1) := by decide +kernel
theorem dX10_mixedInsertionSort_360 : decode cX10_mixedInsertionSort 360 = .ok (.iastore, 1) := by decide +kernel
theorem dX10_mixedInsertionSort_361 : decode cX10_mixedInsertionSort 361 = .ok (.goto (-22), 3) := by decide +kernel
theorem dX10_mixedInsertionSort_364 : decode cX10_mixedInsertionSort 364 = .ok (.aload_n 0, 1) := by decide +kernel
theorem dX10_mixedInsertionSort_365 : decode cX10_mixedInsertionSort 365 = .ok (.iinc 5 1, 3) := by decide +kernel
theorem dX10_mixedInsertionSort_368 : decode cX10_mixedInsertionSort 368 = .ok (.iload 5, 2) := by decide +kernel
theorem dX10_mixedInsertionSort_370 : decode cX10_mixedInsertionSort 370 = .ok (.iconst 1, 1) := by decide +kernel
theorem dX10_mixedInsertionSort_371 : decode cX10_mixedInsertionSort 371 = .ok (.iadd, 1) := by decide +kernel
theorem dX10_mixedInsertionSort_372 : decode cX10_mixedInsertionSort 372 = .ok (.iload 7, 2) := by decide +kernel
theorem dX10_mixedInsertionSort_374 : decode cX10_mixedInsertionSort 374 = .ok (.iastore, 1) := by decide +kernel
theorem dX10_mixedInsertionSort_375 : decode cX10_mixedInsertionSort 375 = .ok (.iload 6, 2) := by decide +kernel
theorem dX10_mixedInsertionSort_377 : decode cX10_mixedInsertionSort 377 = .ok (.aload_n 0, 1) := by decide +kernel
theorem dX10_mixedInsertionSort_378 : decode cX10_mixedInsertionSort 378 = .ok (.iinc 5 (-1), 3) := by decide +kernel
theorem dX10_mixedInsertionSort_381 : decode cX10_mixedInsertionSort 381 = .ok (.iload 5, 2) := by decide +kernel
theorem dX10_mixedInsertionSort_383 : decode cX10_mixedInsertionSort 383 = .ok (.iaload, 1) := by decide +kernel
theorem dX10_mixedInsertionSort_384 : decode cX10_mixedInsertionSort 384 = .ok (.if_icmp .ge 16, 3) := by decide +kernel
theorem dX10_mixedInsertionSort_387 : decode cX10_mixedInsertionSort 387 = .ok (.aload_n 0, 1) := by decide +kernel
theorem dX10_mixedInsertionSort_388 : decode cX10_mixedInsertionSort 388 = .ok (.iload 5, 2) := by decide +kernel
theorem dX10_mixedInsertionSort_390 : decode cX10_mixedInsertionSort 390 = .ok (.iconst 1, 1) := by decide +kernel
theorem dX10_mixedInsertionSort_391 : decode cX10_mixedInsertionSort 391 = .ok (.iadd, 1) := by decide +kernel
theorem dX10_mixedInsertionSort_392 : decode cX10_mixedInsertionSort 392 = .ok (.aload_n 0, 1) := by decide +kernel
theorem dX10_mixedInsertionSort_393 : decode cX10_mixedInsertionSort 393 = .ok (.iload 5, 2) := by decide +kernel
theorem dX10_mixedInsertionSort_395 : decode cX10_mixedInsertionSort 395 = .ok (.iaload, 1) := by decide +kernel
theorem dX10_mixedInsertionSort_396 : decode cX10_mixedInsertionSort 396 = .ok (.iastore, 1) := by decide +kernel
theorem dX10_mixedInsertionSort_397 : decode cX10_mixedInsertionSort 397 = .ok (.goto (-22), 3) := by decide +kernel
theorem dX10_mixedInsertionSort_400 : decode cX10_mixedInsertionSort 400 = .ok (.aload_n 0, 1) := by decide +kernel
theorem dX10_mixedInsertionSort_401 : decode cX10_mixedInsertionSort 401 = .ok (.iload 5, 2) := by decide +kernel
theorem dX10_mixedInsertionSort_403 : decode cX10_mixedInsertionSort 403 = .ok (.iconst 1, 1) := by decide +kernel
theorem dX10_mixedInsertionSort_404 : decode cX10_mixedInsertionSort 404 = .ok (.iadd, 1) := by decide +kernel
theorem dX10_mixedInsertionSort_405 : decode cX10_mixedInsertionSort 405 = .ok (.iload 6, 2) := by decide +kernel
theorem dX10_mixedInsertionSort_407 : decode cX10_mixedInsertionSort 407 = .ok (.iastore, 1) := by decide +kernel
theorem dX10_mixedInsertionSort_408 : decode cX10_mixedInsertionSort 408 = .ok (.iinc 1 1, 3) := by decide +kernel
theorem dX10_mixedInsertionSort_411 : decode cX10_mixedInsertionSort 411 = .ok (.goto (-183), 3) := by decide +kernel
theorem dX10_mixedInsertionSort_414 : decode cX10_mixedInsertionSort 414 = .ok (.return_, 1) := by decide +kernel
theorem dX10_insertionSort_0 : decode cX10_insertionSort 0 = .ok (.iload_n 1, 1) := by decide +kernel
theorem dX10_insertionSort_1 : decode cX10_insertionSort 1 = .ok (.istore 4, 2) := by decide +kernel
theorem dX10_insertionSort_3 : decode cX10_insertionSort 3 = .ok (.iinc 4 1, 3) := by decide +kernel
theorem dX10_insertionSort_6 : decode cX10_insertionSort 6 = .ok (.iload 4, 2) := by decide +kernel
theorem dX10_insertionSort_8 : decode cX10_insertionSort 8 = .ok (.iload_n 2, 1) := by decide +kernel
theorem dX10_insertionSort_9 : decode cX10_insertionSort 9 = .ok (.if_icmp .ge 58, 3) := by decide +kernel
theorem dX10_insertionSort_12 : decode cX10_insertionSort 12 = .ok (.aload_n 0, 1) := by decide +kernel
theorem dX10_insertionSort_13 : decode cX10_insertionSort 13 = .ok (.iload 4, 2) := by decide +kernel
theorem dX10_insertionSort_15 : decode cX10_insertionSort 15 = .ok (.dup, 1) := by decide +kernel
theorem dX10_insertionSort_16 : decode cX10_insertionSort 16 = .ok (.istore_n 3, 1) := by decide +kernel
theorem dX10_insertionSort_17 : decode cX10_insertionSort 17 = .ok (.iaload, 1) := by decide +kernel
theorem dX10_insertionSort_18 : decode cX10_insertionSort 18 = .ok (.istore 5, 2) := by decide +kernel
theorem dX10_insertionSort_20 : decode cX10_insertionSort 20 = .ok (.iload 5, 2) := by decide +kernel
theorem dX10_insertionSort_22 : decode cX10_insertionSort 22 = .ok (.aload_n 0, 1) := by decide +kernel
theorem dX10_insertionSort_23 : decode cX10_insertionSort 23 = .ok (.iload_n 3, 1) := by decide +kernel
theorem dX10_insertionSort_24 : decode cX10_insertionSort 24 = .ok (.iconst 1, 1) := by decide +kernel
theorem dX10_insertionSort_25 : decode cX10_insertionSort 25 = .ok (.isub, 1) := by decide +kernel
theorem dX10_insertionSort_26 : decode cX10_insertionSort 26 = .ok (.iaload, 1) := by decide +kernel
theorem dX10_insertionSort_27 : decode cX10_insertionSort 27 = .ok (.if_icmp .ge 37, 3) := by decide +kernel
theorem dX10_insertionSort_30 : decode cX10_insertionSort 30 = .ok (.iinc 3 (-1), 3) := by decide +kernel
theorem dX10_insertionSort_33 : decode cX10_insertionSort 33 = .ok (.iload_n 3, 1) := by decide +kernel
theorem dX10_insertionSort_34 : decode cX10_insertionSort 34 = .ok (.iload_n 1, 1) := by decide +kernel
theorem dX10_insertionSort_35 : decode cX10_insertionSort 35 = .ok (.if_icmp .lt 22, 3) := by decide +kernel
theorem dX10_insertionSort_38 : decode cX10_insertionSort 38 = .ok (.iload 5, 2) := by decide +kernel
theorem dX10_insertionSort_40 : decode cX10_insertionSort 40 = .ok (.aload_n 0, 1) := by decide +kernel
theorem dX10_insertionSort_41 : decode cX10_insertionSort 41 = .ok (.iload_n 3, 1) := by decide +kernel
theorem dX10_insertionSort_42 : decode cX10_insertionSort 42 = .ok (.iaload, 1) := by decide +kernel
theorem dX10_insertionSort_43 : decode cX10_insertionSort 43 = .ok (.if_icmp .ge 14, 3) := by decide +kernel
theorem dX10_insertionSort_46 : decode cX10_insertionSort 46 = .ok (.aload_n 0, 1) := by decide +kernel
theorem dX10_insertionSort_47 : decode cX10_insertionSort 47 = .ok (.iload_n 3, 1) := by decide +kernel
theorem dX10_insertionSort_48 : decode cX10_insertionSort 48 = .ok (.iconst 1, 1) := by decide +kernel
theorem dX10_insertionSort_49 : decode cX10_insertionSort 49 = .ok (.iadd, 1) := by decide +kernel
theorem dX10_insertionSort_50 : decode cX10_insertionSort 50 = .ok (.aload_n 0, 1) := by decide +kernel
theorem dX10_insertionSort_51 : decode cX10_insertionSort 51 = .ok (.iload_n 3, 1) := by decide +kernel
theorem dX10_insertionSort_52 : decode cX10_insertionSort 52 = .ok (.iaload, 1) := by decide +kernel
theorem dX10_insertionSort_53 : decode cX10_insertionSort 53 = .ok (.iastore, 1) := by decide +kernel
theorem dX10_insertionSort_54 : decode cX10_insertionSort 54 = .ok (.goto (-24), 3) := by decide +kernel
theorem dX10_insertionSort_57 : decode cX10_insertionSort 57 = .ok (.aload_n 0, 1) := by decide +kernel
theorem dX10_insertionSort_58 : decode cX10_insertionSort 58 = .ok (.iload_n 3, 1) := by decide +kernel
theorem dX10_insertionSort_59 : decode cX10_insertionSort 59 = .ok (.iconst 1, 1) := by decide +kernel
theorem dX10_insertionSort_60 : decode cX10_insertionSort 60 = .ok (.iadd, 1) := by decide +kernel
theorem dX10_insertionSort_61 : decode cX10_insertionSort 61 = .ok (.iload 5, 2) := by decide +kernel
theorem dX10_insertionSort_63 : decode cX10_insertionSort 63 = .ok (.iastore, 1) := by decide +kernel
theorem dX10_insertionSort_64 : decode cX10_insertionSort 64 = .ok (.goto (-61), 3) := by decide +kernel
theorem dX10_insertionSort_67 : decode cX10_insertionSort 67 = .ok (.return_, 1) := by decide +kernel
theorem dX10_heapSort_0 : decode cX10_heapSort 0 = .ok (.iload_n 1, 1) := by decide +kernel
theorem dX10_heapSort_1 : decode cX10_heapSort 1 = .ok (.iload_n 2, 1) := by decide +kernel
theorem dX10_heapSort_2 : decode cX10_heapSort 2 = .ok (.iadd, 1) := by decide +kernel
theorem dX10_heapSort_3 : decode cX10_heapSort 3 = .ok (.iconst 1, 1) := by decide +kernel
theorem dX10_heapSort_4 : decode cX10_heapSort 4 = .ok (.iushr, 1) := by decide +kernel
theorem dX10_heapSort_5 : decode cX10_heapSort 5 = .ok (.istore_n 3, 1) := by decide +kernel
theorem dX10_heapSort_6 : decode cX10_heapSort 6 = .ok (.iload_n 3, 1) := by decide +kernel
theorem dX10_heapSort_7 : decode cX10_heapSort 7 = .ok (.iload_n 1, 1) := by decide +kernel
theorem dX10_heapSort_8 : decode cX10_heapSort 8 = .ok (.if_icmp .le 19, 3) := by decide +kernel
theorem dX10_heapSort_11 : decode cX10_heapSort 11 = .ok (.aload_n 0, 1) := by decide +kernel
theorem dX10_heapSort_12 : decode cX10_heapSort 12 = .ok (.iinc 3 (-1), 3) := by decide +kernel
theorem dX10_heapSort_15 : decode cX10_heapSort 15 = .ok (.iload_n 3, 1) := by decide +kernel
theorem dX10_heapSort_16 : decode cX10_heapSort 16 = .ok (.aload_n 0, 1) := by decide +kernel
theorem dX10_heapSort_17 : decode cX10_heapSort 17 = .ok (.iload_n 3, 1) := by decide +kernel
theorem dX10_heapSort_18 : decode cX10_heapSort 18 = .ok (.iaload, 1) := by decide +kernel
theorem dX10_heapSort_19 : decode cX10_heapSort 19 = .ok (.iload_n 1, 1) := by decide +kernel
theorem dX10_heapSort_20 : decode cX10_heapSort 20 = .ok (.iload_n 2, 1) := by decide +kernel
theorem dX10_heapSort_21 : decode cX10_heapSort 21 = .ok (.invokestatic 49, 3) := by decide +kernel
theorem dX10_heapSort_24 : decode cX10_heapSort 24 = .ok (.goto (-18), 3) := by decide +kernel
theorem dX10_heapSort_27 : decode cX10_heapSort 27 = .ok (.iinc 2 (-1), 3) := by decide +kernel
theorem dX10_heapSort_30 : decode cX10_heapSort 30 = .ok (.iload_n 2, 1) := by decide +kernel
theorem dX10_heapSort_31 : decode cX10_heapSort 31 = .ok (.iload_n 1, 1) := by decide +kernel
theorem dX10_heapSort_32 : decode cX10_heapSort 32 = .ok (.if_icmp .le 24, 3) := by decide +kernel
theorem dX10_heapSort_35 : decode cX10_heapSort 35 = .ok (.aload_n 0, 1) := by decide +kernel
theorem dX10_heapSort_36 : decode cX10_heapSort 36 = .ok (.iload_n 1, 1) := by decide +kernel
theorem dX10_heapSort_37 : decode cX10_heapSort 37 = .ok (.iaload, 1) := by decide +kernel
theorem dX10_heapSort_38 : decode cX10_heapSort 38 = .ok (.istore_n 3, 1) := by decide +kernel
theorem dX10_heapSort_39 : decode cX10_heapSort 39 = .ok (.aload_n 0, 1) := by decide +kernel
theorem dX10_heapSort_40 : decode cX10_heapSort 40 = .ok (.iload_n 1, 1) := by decide +kernel
theorem dX10_heapSort_41 : decode cX10_heapSort 41 = .ok (.aload_n 0, 1) := by decide +kernel
theorem dX10_heapSort_42 : decode cX10_heapSort 42 = .ok (.iload_n 2, 1) := by decide +kernel
theorem dX10_heapSort_43 : decode cX10_heapSort 43 = .ok (.iaload, 1) := by decide +kernel
theorem dX10_heapSort_44 : decode cX10_heapSort 44 = .ok (.iload_n 1, 1) := by decide +kernel
theorem dX10_heapSort_45 : decode cX10_heapSort 45 = .ok (.iload_n 2, 1) := by decide +kernel
theorem dX10_heapSort_46 : decode cX10_heapSort 46 = .ok (.invokestatic 49, 3) := by decide +kernel
theorem dX10_heapSort_49 : decode cX10_heapSort 49 = .ok (.aload_n 0, 1) := by decide +kernel
theorem dX10_heapSort_50 : decode cX10_heapSort 50 = .ok (.iload_n 2, 1) := by decide +kernel
theorem dX10_heapSort_51 : decode cX10_heapSort 51 = .ok (.iload_n 3, 1) := by decide +kernel
theorem dX10_heapSort_52 : decode cX10_heapSort 52 = .ok (.iastore, 1) := by decide +kernel
theorem dX10_heapSort_53 : decode cX10_heapSort 53 = .ok (.goto (-26), 3) := by decide +kernel
theorem dX10_heapSort_56 : decode cX10_heapSort 56 = .ok (.return_, 1) := by decide +kernel
theorem dX10_pushDown_0 : decode cX10_pushDown 0 = .ok (.iload_n 1, 1) := by decide +kernel
theorem dX10_pushDown_1 : decode cX10_pushDown 1 = .ok (.iconst 1, 1) := by decide +kernel
theorem dX10_pushDown_2 : decode cX10_pushDown 2 = .ok (.ishl, 1) := by decide +kernel
theorem dX10_pushDown_3 : decode cX10_pushDown 3 = .ok (.iload_n 3, 1) := by decide +kernel
theorem dX10_pushDown_4 : decode cX10_pushDown 4 = .ok (.isub, 1) := by decide +kernel
theorem dX10_pushDown_5 : decode cX10_pushDown 5 = .ok (.iconst 2, 1) := by decide +kernel
theorem dX10_pushDown_6 : decode cX10_pushDown 6 = .ok (.iadd, 1) := by decide +kernel
theorem dX10_pushDown_7 : decode cX10_pushDown 7 = .ok (.istore 5, 2) := by decide +kernel
theorem dX10_pushDown_9 : decode cX10_pushDown 9 = .ok (.iload 5, 2) := by decide +kernel
theorem dX10_pushDown_11 : decode cX10_pushDown 11 = .ok (.iload 4, 2) := by decide +kernel
theorem dX10_pushDown_13 : decode cX10_pushDown 13 = .ok (.if_icmp .le 6, 3) := by decide +kernel
theorem dX10_pushDown_16 : decode cX10_pushDown 16 = .ok (.goto 49, 3) := by decide +kernel
theorem dX10_pushDown_19 : decode cX10_pushDown 19 = .ok (.iload 5, 2) := by decide +kernel
theorem dX10_pushDown_21 : decode cX10_pushDown 21 = .ok (.iload 4, 2) := by decide +kernel
theorem dX10_pushDown_23 : decode cX10_pushDown 23 = .ok (.if_icmp .eq 16, 3) := by decide +kernel
theorem dX10_pushDown_26 : decode cX10_pushDown 26 = .ok (.aload_n 0, 1) := by decide +kernel
theorem dX10_pushDown_27 : decode cX10_pushDown 27 = .ok (.iload 5, 2) := by decide +kernel
theorem dX10_pushDown_29 : decode cX10_pushDown 29 = .ok (.iaload, 1) := by decide +kernel
theorem dX10_pushDown_30 : decode cX10_pushDown 30 = .ok (.aload_n 0, 1) := by decide +kernel
theorem dX10_pushDown_31 : decode cX10_pushDown 31 = .ok (.iload 5, 2) := by decide +kernel
theorem dX10_pushDown_33 : decode cX10_pushDown 33 = .ok (.iconst 1, 1) := by decide +kernel
theorem dX10_pushDown_34 : decode cX10_pushDown 34 = .ok (.isub, 1) := by decide +kernel
theorem dX10_pushDown_35 : decode cX10_pushDown 35 = .ok (.iaload, 1) := by decide +kernel
theorem dX10_pushDown_36 : decode cX10_pushDown 36 = .ok (.if_icmp .ge 6, 3) := by decide +kernel
theorem dX10_pushDown_39 : decode cX10_pushDown 39 = .ok (.iinc 5 (-1), 3) := by decide +kernel
theorem dX10_pushDown_42 : decode cX10_pushDown 42 = .ok (.aload_n 0, 1) := by decide +kernel
theorem dX10_pushDown_43 : decode cX10_pushDown 43 = .ok (.iload 5, 2) := by decide +kernel
theorem dX10_pushDown_45 : decode cX10_pushDown 45 = .ok (.iaload, 1) := by decide +kernel
theorem dX10_pushDown_46 : decode cX10_pushDown 46 = .ok (.iload_n 2, 1) := by decide +kernel
theorem dX10_pushDown_47 : decode cX10_pushDown 47 = .ok (.if_icmp .gt 6, 3) := by decide +kernel
theorem dX10_pushDown_50 : decode cX10_pushDown 50 = .ok (.goto 15, 3) := by decide +kernel
theorem dX10_pushDown_53 : decode cX10_pushDown 53 = .ok (.aload_n 0, 1) := by decide +kernel
theorem dX10_pushDown_54 : decode cX10_pushDown 54 = .ok (.iload_n 1, 1) := by decide +kernel
theorem dX10_pushDown_55 : decode cX10_pushDown 55 = .ok (.aload_n 0, 1) := by decide +kernel
theorem dX10_pushDown_56 : decode cX10_pushDown 56 = .ok (.iload 5, 2) := by decide +kernel
theorem dX10_pushDown_58 : decode cX10_pushDown 58 = .ok (.dup, 1) := by decide +kernel
theorem dX10_pushDown_59 : decode cX10_pushDown 59 = .ok (.istore_n 1, 1) := by decide +kernel
theorem dX10_pushDown_60 : decode cX10_pushDown 60 = .ok (.iaload, 1) := by decide +kernel
theorem dX10_pushDown_61 : decode cX10_pushDown 61 = .ok (.iastore, 1) := by decide +kernel
theorem dX10_pushDown_62 : decode cX10_pushDown 62 = .ok (.goto (-62), 3) := by decide +kernel
theorem dX10_pushDown_65 : decode cX10_pushDown 65 = .ok (.aload_n 0, 1) := by decide +kernel
theorem dX10_pushDown_66 : decode cX10_pushDown 66 = .ok (.iload_n 1, 1) := by decide +kernel
theorem dX10_pushDown_67 : decode cX10_pushDown 67 = .ok (.iload_n 2, 1) := by decide +kernel
theorem dX10_pushDown_68 : decode cX10_pushDown 68 = .ok (.iastore, 1) := by decide +kernel
theorem dX10_pushDown_69 : decode cX10_pushDown 69 = .ok (.return_, 1) := by decide +kernel
theorem dX10_tryMergeRuns_0 : decode cX10_tryMergeRuns 0 = .ok (.aconst_null, 1) := by decide +kernel
theorem dX10_tryMergeRuns_1 : decode cX10_tryMergeRuns 1 = .ok (.astore 4, 2) := by decide +kernel
theorem dX10_tryMergeRuns_3 : decode cX10_tryMergeRuns 3 = .ok (.iload_n 2, 1) := by decide +kernel
theorem dX10_tryMergeRuns_4 : decode cX10_tryMergeRuns 4 = .ok (.iload_n 3, 1) := by decide +kernel
theorem dX10_tryMergeRuns_5 : decode cX10_tryMergeRuns 5 = .ok (.iadd, 1) := by decide +kernel
theorem dX10_tryMergeRuns_6 : decode cX10_tryMergeRuns 6 = .ok (.istore 5, 2) := by decide +kernel
theorem dX10_tryMergeRuns_8 : decode cX10_tryMergeRuns 8 = .ok (.iconst 1, 1) := by decide +kernel
theorem dX10_tryMergeRuns_9 : decode cX10_tryMergeRuns 9 = .ok (.istore 6, 2) := by decide +kernel
theorem dX10_tryMergeRuns_11 : decode cX10_tryMergeRuns 11 = .ok (.iload_n 2, 1) := by decide +kernel
theorem dX10_tryMergeRuns_12 : decode cX10_tryMergeRuns 12 = .ok (.istore 7, 2) := by decide +kernel
theorem dX10_tryMergeRuns_14 : decode cX10_tryMergeRuns 14 = .ok (.iload_n 2, 1) := by decide +kernel
theorem dX10_tryMergeRuns_15 : decode cX10_tryMergeRuns 15 = .ok (.iconst 1, 1) := by decide +kernel
theorem dX10_tryMergeRuns_16 : decode cX10_tryMergeRuns 16 = .ok (.iadd, 1) := by decide +kernel
theorem dX10_tryMergeRuns_17 : decode cX10_tryMergeRuns 17 = .ok (.istore 8, 2) := by decide +kernel
theorem dX10_tryMergeRuns_19 : decode cX10_tryMergeRuns 19 = .ok (.iload 8, 2) := by decide +kernel
theorem dX10_tryMergeRuns_21 : decode cX10_tryMergeRuns 21 = .ok (.iload 5, 2) := by decide +kernel
theorem dX10_tryMergeRuns_23 : decode cX10_tryMergeRuns 23 = .ok (.if_icmp .ge 299, 3) := by decide +kernel
theorem dX10_tryMergeRuns_26 : decode cX10_tryMergeRuns 26 = .ok (.aload_n 1, 1) := by decide +kernel
theorem dX10_tryMergeRuns_27 : decode cX10_tryMergeRuns 27 = .ok (.iload 8, 2) := by decide +kernel
theorem dX10_tryMergeRuns_29 : decode cX10_tryMergeRuns 29 = .ok (.iconst 1, 1) := by decide +kernel
theorem dX10_tryMergeRuns_30 : decode cX10_tryMergeRuns 30 = .ok (.isub, 1) := by decide +kernel
theorem dX10_tryMergeRuns_31 : decode cX10_tryMergeRuns 31 = .ok (.iaload, 1) := by decide +kernel
theorem dX10_tryMergeRuns_32 : decode cX10_tryMergeRuns 32 = .ok (.aload_n 1, 1) := by decide +kernel
theorem dX10_tryMergeRuns_33 : decode cX10_tryMergeRuns 33 = .ok (.iload 8, 2) := by decide +kernel
theorem dX10_tryMergeRuns_35 : decode cX10_tryMergeRuns 35 = .ok (.iaload, 1) := by decide +kernel
theorem dX10_tryMergeRuns_36 : decode cX10_tryMergeRuns 36 = .ok (.if_icmp .ge 29, 3) := by decide +kernel
theorem dX10_tryMergeRuns_39 : decode cX10_tryMergeRuns 39 = .ok (.iinc 8 1, 3) := by decide +kernel
theorem dX10_tryMergeRuns_42 : decode cX10_tryMergeRuns 42 = .ok (.iload 8, 2) := by decide +kernel
theorem dX10_tryMergeRuns_44 : decode cX10_tryMergeRuns 44 = .ok (.iload 5, 2) := by decide +kernel
theorem dX10_tryMergeRuns_46 : decode cX10_tryMergeRuns 46 = .ok (.if_icmp .ge 156, 3) := by decide +kernel
theorem dX10_tryMergeRuns_49 : decode cX10_tryMergeRuns 49 = .ok (.aload_n 1, 1) := by decide +kernel
theorem dX10_tryMergeRuns_50 : decode cX10_tryMergeRuns 50 = .ok (.iload 8, 2) := by decide +kernel
theorem dX10_tryMergeRuns_52 : decode cX10_tryMergeRuns 52 = .ok (.iconst 1, 1) := by decide +kernel
theorem dX10_tryMergeRuns_53 : decode cX10_tryMergeRuns 53 = .ok (.isub, 1) := by decide +kernel
theorem dX10_tryMergeRuns_54 : decode cX10_tryMergeRuns 54 = .ok (.iaload, 1) := by decide +kernel
theorem dX10_tryMergeRuns_55 : decode cX10_tryMergeRuns 55 = .ok (.aload_n 1, 1) := by decide +kernel
theorem dX10_tryMergeRuns_56 : decode cX10_tryMergeRuns 56 = .ok (.iload 8, 2) := by decide +kernel
theorem dX10_tryMergeRuns_58 : decode cX10_tryMergeRuns 58 = .ok (.iaload, 1) := by decide +kernel
theorem dX10_tryMergeRuns_59 : decode cX10_tryMergeRuns 59 = .ok (.if_icmp .gt 143, 3) := by decide +kernel
theorem dX10_tryMergeRuns_62 : decode cX10_tryMergeRuns 62 = .ok (.goto (-23), 3) := by decide +kernel
theorem dX10_tryMergeRuns_65 : decode cX10_tryMergeRuns 65 = .ok (.aload_n 1, 1) := by decide +kernel
theorem dX10_tryMergeRuns_66 : decode cX10_tryMergeRuns 66 = .ok (.iload 8, 2) := by decide +kernel
theorem dX10_tryMergeRuns_68 : decode cX10_tryMergeRuns 68 = .ok (.iconst 1, 1) := by decide +kernel
theorem dX10_tryMergeRuns_69 : decode cX10_tryMergeRuns 69 = .ok (.isub, 1) := by decide +kernel
theorem dX10_tryMergeRuns_70 : decode cX10_tryMergeRuns 70 = .ok (.iaload, 1) := by decide +kernel
theorem dX10_tryMergeRuns_71 : decode cX10_tryMergeRuns 71 = .ok (.aload_n 1, 1) := by decide +kernel
theorem dX10_tryMergeRuns_72 : decode cX10_tryMergeRuns 72 = .ok (.iload 8, 2) := by decide +kernel
theorem dX10_tryMergeRuns_74 : decode cX10_tryMergeRuns 74 = .ok (.iaload, 1) := by decide +kernel
theorem dX10_tryMergeRuns_75 : decode cX10_tryMergeRuns 75 = .ok (.if_icmp .le 89, 3) := by decide +kernel
theorem dX10_tryMergeRuns_78 : decode cX10_tryMergeRuns 78 = .ok (.iinc 8 1, 3) := by decide +kernel
theorem dX10_tryMergeRuns_81 : decode cX10_tryMergeRuns 81 = .ok (.iload 8, 2) := by decide +kernel
theorem dX10_tryMergeRuns_83 : decode cX10_tryMergeRuns 83 = .ok (.iload 5, 2) := by decide +kernel
theorem dX10_tryMergeRuns_85 : decode cX10_tryMergeRuns 85 = .ok (.if_icmp .ge 19, 3) := by decide +kernel
theorem dX10_tryMergeRuns_88 : decode cX10_tryMergeRuns 88 = .ok (.aload_n 1, 1) := by decide +kernel
theorem dX10_tryMergeRuns_89 : decode cX10_tryMergeRuns 89 = .ok (.iload 8, 2) := by decide +kernel
theorem dX10_tryMergeRuns_91 : decode cX10_tryMergeRuns 91 = .ok (.iconst 1, 1) := by decide +kernel
theorem dX10_tryMergeRuns_92 : decode cX10_tryMergeRuns 92 = .ok (.isub, 1) := by decide +kernel
theorem dX10_tryMergeRuns_93 : decode cX10_tryMergeRuns 93 = .ok (.iaload, 1) := by decide +kernel
theorem dX10_tryMergeRuns_94 : decode cX10_tryMergeRuns 94 = .ok (.aload_n 1, 1) := by decide +kernel
theorem dX10_tryMergeRuns_95 : decode cX10_tryMergeRuns 95 = .ok (.iload 8, 2) := by decide +kernel
theorem dX10_tryMergeRuns_97 : decode cX10_tryMergeRuns 97 = .ok (.iaload, 1) := by decide +kernel
theorem dX10_tryMergeRuns_98 : decode cX10_tryMergeRuns 98 = .ok (.if_icmp .lt 6, 3) := by decide +kernel
theorem dX10_tryMergeRuns_101 : decode cX10_tryMergeRuns 101 = .ok (.goto (-23), 3) := by decide +kernel
theorem dX10_tryMergeRuns_104 : decode cX10_tryMergeRuns 104 = .ok (.iload 7, 2) := by decide +kernel
theorem dX10_tryMergeRuns_106 : decode cX10_tryMergeRuns 106 = .ok (.iconst 1, 1) := by decide +kernel
theorem dX10_tryMergeRuns_107 : decode cX10_tryMergeRuns 107 = .ok (.isub, 1) := by decide +kernel
theorem dX10_tryMergeRuns_108 : decode cX10_tryMergeRuns 108 = .ok (.istore 9, 2) := by decide +kernel
theorem dX10_tryMergeRuns_110 : decode cX10_tryMergeRuns 110 = .ok (.iload 8, 2) := by decide +kernel
theorem dX10_tryMergeRuns_112 : decode cX10_tryMergeRuns 112 = .ok (.istore 10, 2) := by decide +kernel
theorem dX10_tryMergeRuns_114 : decode cX10_tryMergeRuns 114 = .ok (.iinc 9 1, 3) := by decide +kernel
theorem dX10_tryMergeRuns_117 : decode cX10_tryMergeRuns 117 = .ok (.iload 9, 2) := by decide +kernel
theorem dX10_tryMergeRuns_119 : decode cX10_tryMergeRuns 119 = .ok (.iinc 10 (-1), 3) := by decide +kernel
theorem dX10_tryMergeRuns_122 : decode cX10_tryMergeRuns 122 = .ok (.iload 10, 2) := by decide +kernel
theorem dX10_tryMergeRuns_124 : decode cX10_tryMergeRuns 124 = .ok (.if_icmp .ge 37, 3) := by decide +kernel
theorem dX10_tryMergeRuns_127 : decode cX10_tryMergeRuns 127 = .ok (.aload_n 1, 1) := by decide +kernel
theorem dX10_tryMergeRuns_128 : decode cX10_tryMergeRuns 128 = .ok (.iload 9, 2) := by decide +kernel
theorem dX10_tryMergeRuns_130 : decode cX10_tryMergeRuns 130 = .ok (.iaload, 1) := by decide +kernel
theorem dX10_tryMergeRuns_131 : decode cX10_tryMergeRuns 131 = .ok (.aload_n 1, 1) := by decide +kernel
theorem dX10_tryMergeRuns_132 : decode cX10_tryMergeRuns 132 = .ok (.iload 10, 2) := by decide +kernel
theorem dX10_tryMergeRuns_134 : decode cX10_tryMergeRuns 134 = .ok (.iaload, 1) := by decide +kernel
theorem dX10_tryMergeRuns_135 : decode cX10_tryMergeRuns 135 = .ok (.if_icmp .le 26, 3) := by decide +kernel
theorem dX10_tryMergeRuns_138 : decode cX10_tryMergeRuns 138 = .ok (.aload_n 1, 1) := by decide +kernel
theorem dX10_tryMergeRuns_139 : decode cX10_tryMergeRuns 139 = .ok (.iload 9, 2) := by decide +kernel
theorem dX10_tryMergeRuns_141 : decode cX10_tryMergeRuns 141 = .ok (.iaload, 1) := by decide +kernel
theorem dX10_tryMergeRuns_142 : decode cX10_tryMergeRuns 142 = .ok (.istore 11, 2) := by decide +kernel
theorem dX10_tryMergeRuns_144 : decode cX10_tryMergeRuns 144 = .ok (.aload_n 1, 1) := by decide +kernel
theorem dX10_tryMergeRuns_145 : decode cX10_tryMergeRuns 145 = .ok (.iload 9, 2) := by decide +kernel
theorem dX10_tryMergeRuns_147 : decode cX10_tryMergeRuns 147 = .ok (.aload_n 1, 1) := by decide +kernel
theorem dX10_tryMergeRuns_148 : decode cX10_tryMergeRuns 148 = .ok (.iload 10, 2) := by decide +kernel
theorem dX10_tryMergeRuns_150 : decode cX10_tryMergeRuns 150 = .ok (.iaload, 1) := by decide +kernel
theorem dX10_tryMergeRuns_151 : decode cX10_tryMergeRuns 151 = .ok (.iastore, 1) := by decide +kernel
theorem dX10_tryMergeRuns_152 : decode cX10_tryMergeRuns 152 = .ok (.aload_n 1, 1) := by decide +kernel
theorem dX10_tryMergeRuns_153 : decode cX10_tryMergeRuns 153 = .ok (.iload 10, 2) := by decide +kernel
theorem dX10_tryMergeRuns_155 : decode cX10_tryMergeRuns 155 = .ok (.iload 11, 2) := by decide +kernel
theorem dX10_tryMergeRuns_157 : decode cX10_tryMergeRuns 157 = .ok (.iastore, 1) := by decide +kernel
theorem dX10_tryMergeRuns_158 : decode cX10_tryMergeRuns 158 = .ok (.goto (-44), 3) := by decide +kernel
theorem dX10_tryMergeRuns_161 : decode cX10_tryMergeRuns 161 = .ok (.goto 41, 3) := by decide +kernel
theorem dX10_tryMergeRuns_164 : decode cX10_tryMergeRuns 164 = .ok (.aload_n 1, 1) := by decide +kernel
theorem dX10_tryMergeRuns_165 : decode cX10_tryMergeRuns 165 = .ok (.iload 8, 2) := by decide +kernel
theorem dX10_tryMergeRuns_167 : decode cX10_tryMergeRuns 167 = .ok (.iaload, 1) := by decide +kernel
theorem dX10_tryMergeRuns_168 : decode cX10_tryMergeRuns 168 = .ok (.istore 9, 2) := by decide +kernel
theorem dX10_tryMergeRuns_170 : decode cX10_tryMergeRuns 170 = .ok (.iinc 8 1, 3) := by decide +kernel
theorem dX10_tryMergeRuns_173 : decode cX10_tryMergeRuns 173 = .ok (.iload 8, 2) := by decide +kernel
theorem dX10_tryMergeRuns_175 : decode cX10_tryMergeRuns 175 = .ok (.iload 5, 2) := by decide +kernel
theorem dX10_tryMergeRuns_177 : decode cX10_tryMergeRuns 177 = .ok (.if_icmp .ge 15, 3) := by decide +kernel
theorem dX10_tryMergeRuns_180 : decode cX10_tryMergeRuns 180 = .ok (.iload 9, 2) := by decide +kernel
theorem dX10_tryMergeRuns_182 : decode cX10_tryMergeRuns 182 = .ok (.aload_n 1, 1) := by decide +kernel
theorem dX10_tryMergeRuns_183 : decode cX10_tryMergeRuns 183 = .ok (.iload 8, 2) := by decide +kernel
theorem dX10_tryMergeRuns_185 : decode cX10_tryMergeRuns 185 = .ok (.iaload, 1) := by decide +kernel
theorem dX10_tryMergeRuns_186 : decode cX10_tryMergeRuns 186 = .ok (.if_icmp .ne 6, 3) := by decide +kernel
theorem dX10_tryMergeRuns_189 : decode cX10_tryMergeRuns 189 = .ok (.goto (-19), 3) := by decide +kernel
theorem dX10_tryMergeRuns_192 : decode cX10_tryMergeRuns 192 = .ok (.iload 8, 2) := by decide +kernel
theorem dX10_tryMergeRuns_194 : decode cX10_tryMergeRuns 194 = .ok (.iload 5, 2) := by decide +kernel
theorem dX10_tryMergeRuns_196 : decode cX10_tryMergeRuns 196 = .ok (.if_icmp .ge 6, 3) := by decide +kernel
theorem dX10_tryMergeRuns_199 : decode cX10_tryMergeRuns 199 = .ok (.goto (-180), 3) := by decide +kernel
theorem dX10_tryMergeRuns_202 : decode cX10_tryMergeRuns 202 = .ok (.aload 4, 2) := by decide +kernel
theorem dX10_tryMergeRuns_204 : decode cX10_tryMergeRuns 204 = .ok (.ifnonnull 46, 3) := by decide +kernel
theorem dX10_tryMergeRuns_207 : decode cX10_tryMergeRuns 207 = .ok (.iload 8, 2) := by decide +kernel
theorem dX10_tryMergeRuns_209 : decode cX10_tryMergeRuns 209 = .ok (.iload 5, 2) := by decide +kernel
theorem dX10_tryMergeRuns_211 : decode cX10_tryMergeRuns 211 = .ok (.if_icmp .ne 5, 3) := by decide +kernel
theorem dX10_tryMergeRuns_214 : decode cX10_tryMergeRuns 214 = .ok (.iconst 1, 1) := by decide +kernel
theorem dX10_tryMergeRuns_215 : decode cX10_tryMergeRuns 215 = .ok (.ireturn, 1) := by decide +kernel
theorem dX10_tryMergeRuns_216 : decode cX10_tryMergeRuns 216 = .ok (.iload 8, 2) := by decide +kernel
theorem dX10_tryMergeRuns_218 : decode cX10_tryMergeRuns 218 = .ok (.iload_n 2, 1) := by decide +kernel
theorem dX10_tryMergeRuns_219 : decode cX10_tryMergeRuns 219 = .ok (.isub, 1) := by decide +kernel
theorem dX10_tryMergeRuns_220 : decode cX10_tryMergeRuns 220 = .ok (.bipush 16, 2) := by decide +kernel
theorem dX10_tryMergeRuns_222 : decode cX10_tryMergeRuns 222 = .ok (.if_icmp .ge 5, 3) := by decide +kernel
theorem dX10_tryMergeRuns_225 : decode cX10_tryMergeRuns 225 = .ok (.iconst 0, 1) := by decide +kernel
theorem dX10_tryMergeRuns_226 : decode cX10_tryMergeRuns 226 = .ok (.ireturn, 1) := by decide +kernel
theorem dX10_tryMergeRuns_227 : decode cX10_tryMergeRuns 227 = .ok (.iload_n 3, 1) := by decide +kernel
theorem dX10_tryMergeRuns_228 : decode cX10_tryMergeRuns 228 = .ok (.bipush 10, 2) := by decide +kernel
theorem dX10_tryMergeRuns_230 : decode cX10_tryMergeRuns 230 = .ok (.ishr, 1) := by decide +kernel
theorem dX10_tryMergeRuns_231 : decode cX10_tryMergeRuns 231 = .ok (.bipush 127, 2) := by decide +kernel
theorem dX10_tryMergeRuns_233 : decode cX10_tryMergeRuns 233 = .ok (.ior, 1) := by decide +kernel
theorem dX10_tryMergeRuns_234 : decode cX10_tryMergeRuns 234 = .ok (.sipush 1023, 3) := by decide +kernel
theorem dX10_tryMergeRuns_237 : decode cX10_tryMergeRuns 237 = .ok (.iand, 1) := by decide +kernel
theorem dX10_tryMergeRuns_238 : decode cX10_tryMergeRuns 238 = .ok (.newarray .int, 2) := by decide +kernel
theorem dX10_tryMergeRuns_240 : decode cX10_tryMergeRuns 240 = .ok (.astore 4, 2) := by decide +kernel
theorem dX10_tryMergeRuns_242 : decode cX10_tryMergeRuns 242 = .ok (.aload 4, 2) := by decide +kernel
theorem dX10_tryMergeRuns_244 : decode cX10_tryMergeRuns 244 = .ok (.iconst 0, 1) := by decide +kernel
theorem dX10_tryMergeRuns_245 : decode cX10_tryMergeRuns 245 = .ok (.iload_n 2, 1) := by decide +kernel
theorem dX10_tryMergeRuns_246 : decode cX10_tryMergeRuns 246 = .ok (.iastore, 1) := by decide +kernel
theorem dX10_tryMergeRuns_247 : decode cX10_tryMergeRuns 247 = .ok (.goto 62, 3) := by decide +kernel
theorem dX10_tryMergeRuns_250 : decode cX10_tryMergeRuns 250 = .ok (.aload_n 1, 1) := by decide +kernel
theorem dX10_tryMergeRuns_251 : decode cX10_tryMergeRuns 251 = .ok (.iload 7, 2) := by decide +kernel
theorem dX10_tryMergeRuns_253 : decode cX10_tryMergeRuns 253 = .ok (.iconst 1, 1) := by decide +kernel
theorem dX10_tryMergeRuns_254 : decode cX10_tryMergeRuns 254 = .ok (.isub, 1) := by decide +kernel
theorem dX10_tryMergeRuns_255 : decode cX10_tryMergeRuns 255 = .ok (.iaload, 1) := by decide +kernel
theorem dX10_tryMergeRuns_256 : decode cX10_tryMergeRuns 256 = .ok (.aload_n 1, 1) := by decide +kernel
theorem dX10_tryMergeRuns_257 : decode cX10_tryMergeRuns 257 = .ok (.iload 7, 2) := by decide +kernel
theorem dX10_tryMergeRuns_259 : decode cX10_tryMergeRuns 259 = .ok (.iaload, 1) := by decide +kernel
theorem dX10_tryMergeRuns_260 : decode cX10_tryMergeRuns 260 = .ok (.if_icmp .le 49, 3) := by decide +kernel
theorem dX10_tryMergeRuns_263 : decode cX10_tryMergeRuns 263 = .ok (.iload 6, 2) := by decide +kernel
theorem dX10_tryMergeRuns_265 : decode cX10_tryMergeRuns 265 = .ok (.iload 8, 2) := by decide +kernel
theorem dX10_tryMergeRuns_267 : decode cX10_tryMergeRuns 267 = .ok (.iload_n 2, 1) := by decide +kernel
theorem dX10_tryMergeRuns_268 : decode cX10_tryMergeRuns 268 = .ok (.isub, 1) := by decide +kernel
theorem dX10_tryMergeRuns_269 : decode cX10_tryMergeRuns 269 = .ok (.bipush 7, 2) := by decide +kernel
theorem dX10_tryMergeRuns_271 : decode cX10_tryMergeRuns 271 = .ok (.ishr, 1) := by decide +kernel
theorem dX10_tryMergeRuns_272 : decode cX10_tryMergeRuns 272 = .ok (.if_icmp .le 5, 3) := by decide +kernel
theorem dX10_tryMergeRuns_275 : decode cX10_tryMergeRuns 275 = .ok (.iconst 0, 1) := by decide +kernel
theorem dX10_tryMergeRuns_276 : decode cX10_tryMergeRuns 276 = .ok (.ireturn, 1) := by decide +kernel
theorem dX10_tryMergeRuns_277 : decode cX10_tryMergeRuns 277 = .ok (.iinc 6 1, 3) := by decide +kernel
theorem dX10_tryMergeRuns_280 : decode cX10_tryMergeRuns 280 = .ok (.iload 6, 2) := by decide +kernel
theorem dX10_tryMergeRuns_282 : decode cX10_tryMergeRuns 282 = .ok (.sipush 5120, 3) := by decide +kernel
theorem dX10_tryMergeRuns_285 : decode cX10_tryMergeRuns 285 = .ok (.if_icmp .ne 5, 3) := by decide +kernel
theorem dX10_tryMergeRuns_288 : decode cX10_tryMergeRuns 288 = .ok (.iconst 0, 1) := by decide +kernel
theorem dX10_tryMergeRuns_289 : decode cX10_tryMergeRuns 289 = .ok (.ireturn, 1) := by decide +kernel
theorem dX10_tryMergeRuns_290 : decode cX10_tryMergeRuns 290 = .ok (.iload 6, 2) := by decide +kernel
theorem dX10_tryMergeRuns_292 : decode cX10_tryMergeRuns 292 = .ok (.aload 4, 2) := by decide +kernel
theorem dX10_tryMergeRuns_294 : decode cX10_tryMergeRuns 294 = .ok (.arraylength, 1) := by decide +kernel
theorem dX10_tryMergeRuns_295 : decode cX10_tryMergeRuns 295 = .ok (.if_icmp .ne 14, 3) := by decide +kernel
theorem dX10_tryMergeRuns_298 : decode cX10_tryMergeRuns 298 = .ok (.aload 4, 2) := by decide +kernel
theorem dX10_tryMergeRuns_300 : decode cX10_tryMergeRuns 300 = .ok (.iload 6, 2) := by decide +kernel
theorem dX10_tryMergeRuns_302 : decode cX10_tryMergeRuns 302 = .ok (.iconst 1, 1) := by decide +kernel
theorem dX10_tryMergeRuns_303 : decode cX10_tryMergeRuns 303 = .ok (.ishl, 1) := by decide +kernel
theorem dX10_tryMergeRuns_304 : decode cX10_tryMergeRuns 304 = .ok (.invokestatic 53, 3) := by decide +kernel
theorem dX10_tryMergeRuns_307 : decode cX10_tryMergeRuns 307 = .ok (.astore 4, 2) := by decide +kernel
theorem dX10_tryMergeRuns_309 : decode cX10_tryMergeRuns 309 = .ok (.aload 4, 2) := by decide +kernel
theorem dX10_tryMergeRuns_311 : decode cX10_tryMergeRuns 311 = .ok (.iload 6, 2) := by decide +kernel
theorem dX10_tryMergeRuns_313 : decode cX10_tryMergeRuns 313 = .ok (.iload 8, 2) := by decide +kernel
theorem dX10_tryMergeRuns_315 : decode cX10_tryMergeRuns 315 = .ok (.dup, 1) := by decide +kernel
theorem dX10_tryMergeRuns_316 : decode cX10_tryMergeRuns 316 = .ok (.istore 7, 2) := by decide +kernel
theorem dX10_tryMergeRuns_318 : decode cX10_tryMergeRuns 318 = .ok (.iastore, 1) := by decide +kernel
theorem dX10_tryMergeRuns_319 : decode cX10_tryMergeRuns 319 = .ok (.goto (-300), 3) := by decide +kernel
theorem dX10_tryMergeRuns_322 : decode cX10_tryMergeRuns 322 = .ok (.iload 6, 2) := by decide +kernel
theorem dX10_tryMergeRuns_324 : decode cX10_tryMergeRuns 324 = .ok (.iconst 1, 1) := by decide +kernel
theorem dX10_tryMergeRuns_325 : decode cX10_tryMergeRuns 325 = .ok (.if_icmp .le 61, 3) := by decide +kernel
theorem dX10_tryMergeRuns_328 : decode cX10_tryMergeRuns 328 = .ok (.iload_n 2, 1) := by decide +kernel
theorem dX10_tryMergeRuns_329 : decode cX10_tryMergeRuns 329 = .ok (.istore 9, 2) := by decide +kernel
theorem dX10_tryMergeRuns_331 : decode cX10_tryMergeRuns 331 = .ok (.aload_n 0, 1) := by decide +kernel
theorem dX10_tryMergeRuns_332 : decode cX10_tryMergeRuns 332 = .ok (.ifnull 16, 3) := by decide +kernel
theorem dX10_tryMergeRuns_335 : decode cX10_tryMergeRuns 335 = .ok (.aload_n 0, 1) := by decide +kernel
theorem dX10_tryMergeRuns_336 : decode cX10_tryMergeRuns 336 = .ok (.getfield 59, 3) := by decide +kernel
theorem dX10_tryMergeRuns_339 : decode cX10_tryMergeRuns 339 = .ok (.checkcast 63, 3) := by decide +kernel
theorem dX10_tryMergeRuns_342 : decode cX10_tryMergeRuns 342 = .ok (.dup, 1) := by decide +kernel
theorem dX10_tryMergeRuns_343 : decode cX10_tryMergeRuns 343 = .ok (.astore 8, 2) := by decide +kernel
theorem dX10_tryMergeRuns_345 : decode cX10_tryMergeRuns 345 = .ok (.ifnonnull 11, 3) := by decide +kernel
theorem dX10_tryMergeRuns_348 : decode cX10_tryMergeRuns 348 = .ok (.iload_n 3, 1) := by decide +kernel
theorem dX10_tryMergeRuns_349 : decode cX10_tryMergeRuns 349 = .ok (.newarray .int, 2) := by decide +kernel
theorem dX10_tryMergeRuns_351 : decode cX10_tryMergeRuns 351 = .ok (.astore 8, 2) := by decide +kernel
theorem dX10_tryMergeRuns_353 : decode cX10_tryMergeRuns 353 = .ok (.goto 9, 3) := by decide +kernel
theorem dX10_tryMergeRuns_356 : decode cX10_tryMergeRuns 356 = .ok (.aload_n 0, 1) := by decide +kernel
theorem dX10_tryMergeRuns_357 : decode cX10_tryMergeRuns 357 = .ok (.getfield 65, 3) := by decide +kernel
theorem dX10_tryMergeRuns_360 : decode cX10_tryMergeRuns 360 = .ok (.istore 9, 2) := by decide +kernel
theorem dX10_tryMergeRuns_362 : decode cX10_tryMergeRuns 362 = .ok (.aload_n 1, 1) := by decide +kernel
theorem dX10_tryMergeRuns_363 : decode cX10_tryMergeRuns 363 = .ok (.aload 8, 2) := by decide +kernel
theorem dX10_tryMergeRuns_365 : decode cX10_tryMergeRuns 365 = .ok (.iload 9, 2) := by decide +kernel
theorem dX10_tryMergeRuns_367 : decode cX10_tryMergeRuns 367 = .ok (.iconst 1, 1) := by decide +kernel
theorem dX10_tryMergeRuns_368 : decode cX10_tryMergeRuns 368 = .ok (.aload_n 0, 1) := by decide +kernel
theorem dX10_tryMergeRuns_369 : decode cX10_tryMergeRuns 369 = .ok (.ifnull 7, 3) := by decide +kernel
theorem dX10_tryMergeRuns_372 : decode cX10_tryMergeRuns 372 = .ok (.iconst 1, 1) := by decide +kernel
theorem dX10_tryMergeRuns_373 : decode cX10_tryMergeRuns 373 = .ok (.goto 4, 3) := by decide +kernel
theorem dX10_tryMergeRuns_376 : decode cX10_tryMergeRuns 376 = .ok (.iconst 0, 1) := by decide +kernel
theorem dX10_tryMergeRuns_377 : decode cX10_tryMergeRuns 377 = .ok (.aload 4, 2) := by decide +kernel
theorem dX10_tryMergeRuns_379 : decode cX10_tryMergeRuns 379 = .ok (.iconst 0, 1) := by decide +kernel
theorem dX10_tryMergeRuns_380 : decode cX10_tryMergeRuns 380 = .ok (.iload 6, 2) := by decide +kernel
theorem dX10_tryMergeRuns_382 : decode cX10_tryMergeRuns 382 = .ok (.invokestatic 69, 3) := by decide +kernel
theorem dX10_tryMergeRuns_385 : decode cX10_tryMergeRuns 385 = .ok (.pop, 1) := by decide +kernel
theorem dX10_tryMergeRuns_386 : decode cX10_tryMergeRuns 386 = .ok (.iconst 1, 1) := by decide +kernel
theorem dX10_tryMergeRuns_387 : decode cX10_tryMergeRuns 387 = .ok (.ireturn, 1) := by decide +kernel
theorem dX10_mergeRuns_0 : decode cX10_mergeRuns 0 = .ok (.iload 7, 2) := by decide +kernel
theorem dX10_mergeRuns_2 : decode cX10_mergeRuns 2 = .ok (.iload 6, 2) := by decide +kernel
theorem dX10_mergeRuns_4 : decode cX10_mergeRuns 4 = .ok (.isub, 1) := by decide +kernel
theorem dX10_mergeRuns_5 : decode cX10_mergeRuns 5 = .ok (.iconst 1, 1) := by decide +kernel
theorem dX10_mergeRuns_6 : decode cX10_mergeRuns 6 = .ok (.if_icmp .ne 55, 3) := by decide +kernel
theorem dX10_mergeRuns_9 : decode cX10_mergeRuns 9 = .ok (.iload_n 3, 1) := by decide +kernel
theorem dX10_mergeRuns_10 : decode cX10_mergeRuns 10 = .ok (.ifCond .lt 5, 3) := by decide +kernel
theorem dX10_mergeRuns_13 : decode cX10_mergeRuns 13 = .ok (.aload_n 0, 1) := by decide +kernel
theorem dX10_mergeRuns_14 : decode cX10_mergeRuns 14 = .ok (.areturn, 1) := by decide +kernel
theorem dX10_mergeRuns_15 : decode cX10_mergeRuns 15 = .ok (.aload 5, 2) := by decide +kernel
theorem dX10_mergeRuns_17 : decode cX10_mergeRuns 17 = .ok (.iload 7, 2) := by decide +kernel
theorem dX10_mergeRuns_19 : decode cX10_mergeRuns 19 = .ok (.iaload, 1) := by decide +kernel
theorem dX10_mergeRuns_20 : decode cX10_mergeRuns 20 = .ok (.istore 8, 2) := by decide +kernel
theorem dX10_mergeRuns_22 : decode cX10_mergeRuns 22 = .ok (.iload 8, 2) := by decide +kernel
theorem dX10_mergeRuns_24 : decode cX10_mergeRuns 24 = .ok (.iload_n 2, 1) := by decide +kernel
theorem dX10_mergeRuns_25 : decode cX10_mergeRuns 25 = .ok (.isub, 1) := by decide +kernel
theorem dX10_mergeRuns_26 : decode cX10_mergeRuns 26 = .ok (.istore 9, 2) := by decide +kernel
theorem dX10_mergeRuns_28 : decode cX10_mergeRuns 28 = .ok (.aload 5, 2) := by decide +kernel
theorem dX10_mergeRuns_30 : decode cX10_mergeRuns 30 = .ok (.iload 6, 2) := by decide +kernel
theorem dX10_mergeRuns_32 : decode cX10_mergeRuns 32 = .ok (.iaload, 1) := by decide +kernel
theorem dX10_mergeRuns_33 : decode cX10_mergeRuns 33 = .ok (.istore 10, 2) := by decide +kernel
theorem dX10_mergeRuns_35 : decode cX10_mergeRuns 35 = .ok (.iload 8, 2) := by decide +kernel
theorem dX10_mergeRuns_37 : decode cX10_mergeRuns 37 = .ok (.iload 10, 2) := by decide +kernel
theorem dX10_mergeRuns_39 : decode cX10_mergeRuns 39 = .ok (.if_icmp .le 20, 3) := by decide +kernel
theorem dX10_mergeRuns_42 : decode cX10_mergeRuns 42 = .ok (.aload_n 1, 1) := by decide +kernel
theorem dX10_mergeRuns_43 : decode cX10_mergeRuns 43 = .ok (.iinc 9 (-1), 3) := by decide +kernel
theorem dX10_mergeRuns_46 : decode cX10_mergeRuns 46 = .ok (.iload 9, 2) := by decide +kernel
theorem dX10_mergeRuns_48 : decode cX10_mergeRuns 48 = .ok (.aload_n 0, 1) := by decide +kernel
theorem dX10_mergeRuns_49 : decode cX10_mergeRuns 49 = .ok (.iinc 8 (-1), 3) := by decide +kernel
theorem dX10_mergeRuns_52 : decode cX10_mergeRuns 52 = .ok (.iload 8, 2) := by decide +kernel
theorem dX10_mergeRuns_54 : decode cX10_mergeRuns 54 = .ok (.iaload, 1) := by decide +kernel
theorem dX10_mergeRuns_55 : decode cX10_mergeRuns 55 = .ok (.iastore, 1) := by decide +kernel
theorem dX10_mergeRuns_56 : decode cX10_mergeRuns 56 = .ok (.goto (-21), 3) := by decide +kernel
theorem dX10_mergeRuns_59 : decode cX10_mergeRuns 59 = .ok (.aload_n 1, 1) := by decide +kernel
theorem dX10_mergeRuns_60 : decode cX10_mergeRuns 60 = .ok (.areturn, 1) := by decide +kernel
theorem dX10_mergeRuns_61 : decode cX10_mergeRuns 61 = .ok (.iload 6, 2) := by decide +kernel
theorem dX10_mergeRuns_63 : decode cX10_mergeRuns 63 = .ok (.istore 8, 2) := by decide +kernel
theorem dX10_mergeRuns_65 : decode cX10_mergeRuns 65 = .ok (.aload 5, 2) := by decide +kernel
theorem dX10_mergeRuns_67 : decode cX10_mergeRuns 67 = .ok (.iload 6, 2) := by decide +kernel
theorem dX10_mergeRuns_69 : decode cX10_mergeRuns 69 = .ok (.iaload, 1) := by decide +kernel
theorem dX10_mergeRuns_70 : decode cX10_mergeRuns 70 = .ok (.aload 5, 2) := by decide +kernel
theorem dX10_mergeRuns_72 : decode cX10_mergeRuns 72 = .ok (.iload 7, 2) := by decide +kernel
theorem dX10_mergeRuns_74 : decode cX10_mergeRuns 74 = .ok (.iaload, 1) := by decide +kernel
theorem dX10_mergeRuns_75 : decode cX10_mergeRuns 75 = .ok (.iadd, 1) := by decide +kernel
theorem dX10_mergeRuns_76 : decode cX10_mergeRuns 76 = .ok (.iconst 1, 1) := by decide +kernel
theorem dX10_mergeRuns_77 : decode cX10_mergeRuns 77 = .ok (.iushr, 1) := by decide +kernel
theorem dX10_mergeRuns_78 : decode cX10_mergeRuns 78 = .ok (.istore 9, 2) := by decide +kernel
theorem dX10_mergeRuns_80 : decode cX10_mergeRuns 80 = .ok (.aload 5, 2) := by decide +kernel
theorem dX10_mergeRuns_82 : decode cX10_mergeRuns 82 = .ok (.iinc 8 1, 3) := by decide +kernel
theorem dX10_mergeRuns_85 : decode cX10_mergeRuns 85 = .ok (.iload 8, 2) := by decide +kernel
theorem dX10_mergeRuns_87 : decode cX10_mergeRuns 87 = .ok (.iconst 1, 1) := by decide +kernel
theorem dX10_mergeRuns_88 : decode cX10_mergeRuns 88 = .ok (.iadd, 1) := by decide +kernel
theorem dX10_mergeRuns_89 : decode cX10_mergeRuns 89 = .ok (.iaload, 1) := by decide +kernel
theorem dX10_mergeRuns_90 : decode cX10_mergeRuns 90 = .ok (.iload 9, 2) := by decide +kernel
theorem dX10_mergeRuns_92 : decode cX10_mergeRuns 92 = .ok (.if_icmp .gt 6, 3) := by decide +kernel
theorem dX10_mergeRuns_95 : decode cX10_mergeRuns 95 = .ok (.goto (-15), 3) := by decide +kernel
theorem dX10_mergeRuns_98 : decode cX10_mergeRuns 98 = .ok (.iload 4, 2) := by decide +kernel
theorem dX10_mergeRuns_100 : decode cX10_mergeRuns 100 = .ok (.ifCond .eq 64, 3) := by decide +kernel
theorem dX10_mergeRuns_103 : decode cX10_mergeRuns 103 = .ok (.iload 7, 2) := by decide +kernel
theorem dX10_mergeRuns_105 : decode cX10_mergeRuns 105 = .ok (.iload 6, 2) := by decide +kernel
theorem dX10_mergeRuns_107 : decode cX10_mergeRuns 107 = .ok (.isub, 1) := by decide +kernel
theorem dX10_mergeRuns_108 : decode cX10_mergeRuns 108 = .ok (.iconst 4, 1) := by decide +kernel
theorem dX10_mergeRuns_109 : decode cX10_mergeRuns 109 = .ok (.if_icmp .le 55, 3) := by decide +kernel
theorem dX10_mergeRuns_112 : decode cX10_mergeRuns 112 = .ok (.new 73, 3) := by decide +kernel
theorem dX10_mergeRuns_115 : decode cX10_mergeRuns 115 = .ok (.dup, 1) := by decide +kernel
theorem dX10_mergeRuns_116 : decode cX10_mergeRuns 116 = .ok (.aload_n 0, 1) := by decide +kernel
theorem dX10_mergeRuns_117 : decode cX10_mergeRuns 117 = .ok (.aload_n 1, 1) := by decide +kernel
theorem dX10_mergeRuns_118 : decode cX10_mergeRuns 118 = .ok (.iload_n 2, 1) := by decide +kernel
theorem dX10_mergeRuns_119 : decode cX10_mergeRuns 119 = .ok (.iconst 0, 1) := by decide +kernel
theorem dX10_mergeRuns_120 : decode cX10_mergeRuns 120 = .ok (.aload 5, 2) := by decide +kernel
theorem dX10_mergeRuns_122 : decode cX10_mergeRuns 122 = .ok (.iload 8, 2) := by decide +kernel
theorem dX10_mergeRuns_124 : decode cX10_mergeRuns 124 = .ok (.iload 7, 2) := by decide +kernel
theorem dX10_mergeRuns_126 : decode cX10_mergeRuns 126 = .ok (.invokespecial 75, 3) := by decide +kernel
theorem dX10_mergeRuns_129 : decode cX10_mergeRuns 129 = .ok (.invokevirtual 78, 3) := by decide +kernel
theorem dX10_mergeRuns_132 : decode cX10_mergeRuns 132 = .ok (.astore 12, 2) := by decide +kernel
theorem dX10_mergeRuns_134 : decode cX10_mergeRuns 134 = .ok (.aload_n 0, 1) := by decide +kernel
theorem dX10_mergeRuns_135 : decode cX10_mergeRuns 135 = .ok (.aload_n 1, 1) := by decide +kernel
theorem dX10_mergeRuns_136 : decode cX10_mergeRuns 136 = .ok (.iload_n 2, 1) := by decide +kernel
theorem dX10_mergeRuns_137 : decode cX10_mergeRuns 137 = .ok (.iload_n 3, 1) := by decide +kernel
theorem dX10_mergeRuns_138 : decode cX10_mergeRuns 138 = .ok (.ineg, 1) := by decide +kernel
theorem dX10_mergeRuns_139 : decode cX10_mergeRuns 139 = .ok (.iconst 1, 1) := by decide +kernel
theorem dX10_mergeRuns_140 : decode cX10_mergeRuns 140 = .ok (.aload 5, 2) := by decide +kernel
theorem dX10_mergeRuns_142 : decode cX10_mergeRuns 142 = .ok (.iload 6, 2) := by decide +kernel
theorem dX10_mergeRuns_144 : decode cX10_mergeRuns 144 = .ok (.iload 8, 2) := by decide +kernel
theorem dX10_mergeRuns_146 : decode cX10_mergeRuns 146 = .ok (.invokestatic 69, 3) := by decide +kernel
theorem dX10_mergeRuns_149 : decode cX10_mergeRuns 149 = .ok (.astore 10, 2) := by decide +kernel
theorem dX10_mergeRuns_151 : decode cX10_mergeRuns 151 = .ok (.aload 12, 2) := by decide +kernel
theorem dX10_mergeRuns_153 : decode cX10_mergeRuns 153 = .ok (.invokevirtual 82, 3) := by decide +kernel
theorem dX10_mergeRuns_156 : decode cX10_mergeRuns 156 = .ok (.checkcast 63, 3) := by decide +kernel
theorem dX10_mergeRuns_159 : decode cX10_mergeRuns 159 = .ok (.astore 11, 2) := by decide +kernel
theorem dX10_mergeRuns_161 : decode cX10_mergeRuns 161 = .ok (.goto 36, 3) := by decide +kernel
theorem dX10_mergeRuns_164 : decode cX10_mergeRuns 164 = .ok (.aload_n 0, 1) := by decide +kernel
theorem dX10_mergeRuns_165 : decode cX10_mergeRuns 165 = .ok (.aload_n 1, 1) := by decide +kernel
theorem dX10_mergeRuns_166 : decode cX10_mergeRuns 166 = .ok (.iload_n 2, 1) := by decide +kernel
theorem dX10_mergeRuns_167 : decode cX10_mergeRuns 167 = .ok (.iload_n 3, 1) := by decide +kernel
theorem dX10_mergeRuns_168 : decode cX10_mergeRuns 168 = .ok (.ineg, 1) := by decide +kernel
theorem dX10_mergeRuns_169 : decode cX10_mergeRuns 169 = .ok (.iconst 0, 1) := by decide +kernel
theorem dX10_mergeRuns_170 : decode cX10_mergeRuns 170 = .ok (.aload 5, 2) := by decide +kernel
theorem dX10_mergeRuns_172 : decode cX10_mergeRuns 172 = .ok (.iload 6, 2) := by decide +kernel
theorem dX10_mergeRuns_174 : decode cX10_mergeRuns 174 = .ok (.iload 8, 2) := by decide +kernel
theorem dX10_mergeRuns_176 : decode cX10_mergeRuns 176 = .ok (.invokestatic 69, 3) := by decide +kernel
theorem dX10_mergeRuns_179 : decode cX10_mergeRuns 179 = .ok (.astore 10, 2) := by decide +kernel
theorem dX10_mergeRuns_181 : decode cX10_mergeRuns 181 = .ok (.aload_n 0, 1) := by decide +kernel
theorem dX10_mergeRuns_182 : decode cX10_mergeRuns 182 = .ok (.aload_n 1, 1) := by decide +kernel
theorem dX10_mergeRuns_183 : decode cX10_mergeRuns 183 = .ok (.iload_n 2, 1) := by decide +kernel
theorem dX10_mergeRuns_184 : decode cX10_mergeRuns 184 = .ok (.iconst 0, 1) := by decide +kernel
theorem dX10_mergeRuns_185 : decode cX10_mergeRuns 185 = .ok (.iconst 0, 1) := by decide +kernel
theorem dX10_mergeRuns_186 : decode cX10_mergeRuns 186 = .ok (.aload 5, 2) := by decide +kernel
theorem dX10_mergeRuns_188 : decode cX10_mergeRuns 188 = .ok (.iload 8, 2) := by decide +kernel
theorem dX10_mergeRuns_190 : decode cX10_mergeRuns 190 = .ok (.iload 7, 2) := by decide +kernel
theorem dX10_mergeRuns_192 : decode cX10_mergeRuns 192 = .ok (.invokestatic 69, 3) := by decide +kernel
theorem dX10_mergeRuns_195 : decode cX10_mergeRuns 195 = .ok (.astore 11, 2) := by decide +kernel
theorem dX10_mergeRuns_197 : decode cX10_mergeRuns 197 = .ok (.aload 10, 2) := by decide +kernel
theorem dX10_mergeRuns_199 : decode cX10_mergeRuns 199 = .ok (.aload_n 0, 1) := by decide +kernel
theorem dX10_mergeRuns_200 : decode cX10_mergeRuns 200 = .ok (.if_acmp .ne 7, 3) := by decide +kernel
theorem dX10_mergeRuns_203 : decode cX10_mergeRuns 203 = .ok (.aload_n 1, 1) := by decide +kernel
theorem dX10_mergeRuns_204 : decode cX10_mergeRuns 204 = .ok (.goto 4, 3) := by decide +kernel
theorem dX10_mergeRuns_207 : decode cX10_mergeRuns 207 = .ok (.aload_n 0, 1) := by decide +kernel
theorem dX10_mergeRuns_208 : decode cX10_mergeRuns 208 = .ok (.astore 12, 2) := by decide +kernel
theorem dX10_mergeRuns_210 : decode cX10_mergeRuns 210 = .ok (.aload 10, 2) := by decide +kernel
theorem dX10_mergeRuns_212 : decode cX10_mergeRuns 212 = .ok (.aload_n 0, 1) := by decide +kernel
theorem dX10_mergeRuns_213 : decode cX10_mergeRuns 213 = .ok (.if_acmp .ne 13, 3) := by decide +kernel
theorem dX10_mergeRuns_216 : decode cX10_mergeRuns 216 = .ok (.aload 5, 2) := by decide +kernel
theorem dX10_mergeRuns_218 : decode cX10_mergeRuns 218 = .ok (.iload 6, 2) := by decide +kernel
theorem dX10_mergeRuns_220 : decode cX10_mergeRuns 220 = .ok (.iaload, 1) := by decide +kernel
theorem dX10_mergeRuns_221 : decode cX10_mergeRuns 221 = .ok (.iload_n 2, 1) := by decide +kernel
theorem dX10_mergeRuns_222 : decode cX10_mergeRuns 222 = .ok (.isub, 1) := by decide +kernel
theorem dX10_mergeRuns_223 : decode cX10_mergeRuns 223 = .ok (.goto 8, 3) := by decide +kernel
theorem dX10_mergeRuns_226 : decode cX10_mergeRuns 226 = .ok (.aload 5, 2) := by decide +kernel
theorem dX10_mergeRuns_228 : decode cX10_mergeRuns 228 = .ok (.iload 6, 2) := by decide +kernel
theorem dX10_mergeRuns_230 : decode cX10_mergeRuns 230 = .ok (.iaload, 1) := by decide +kernel
theorem dX10_mergeRuns_231 : decode cX10_mergeRuns 231 = .ok (.istore 13, 2) := by decide +kernel
theorem dX10_mergeRuns_233 : decode cX10_mergeRuns 233 = .ok (.aload 10, 2) := by decide +kernel
theorem dX10_mergeRuns_235 : decode cX10_mergeRuns 235 = .ok (.aload_n 1, 1) := by decide +kernel
theorem dX10_mergeRuns_236 : decode cX10_mergeRuns 236 = .ok (.if_acmp .ne 13, 3) := by decide +kernel
theorem dX10_mergeRuns_239 : decode cX10_mergeRuns 239 = .ok (.aload 5, 2) := by decide +kernel
theorem dX10_mergeRuns_241 : decode cX10_mergeRuns 241 = .ok (.iload 6, 2) := by decide +kernel
theorem dX10_mergeRuns_243 : decode cX10_mergeRuns 243 = .ok (.iaload, 1) := by decide +kernel
theorem dX10_mergeRuns_244 : decode cX10_mergeRuns 244 = .ok (.iload_n 2, 1) := by decide +kernel
theorem dX10_mergeRuns_245 : decode cX10_mergeRuns 245 = .ok (.isub, 1) := by decide +kernel
theorem dX10_mergeRuns_246 : decode cX10_mergeRuns 246 = .ok (.goto 8, 3) := by decide +kernel
theorem dX10_mergeRuns_249 : decode cX10_mergeRuns 249 = .ok (.aload 5, 2) := by decide +kernel
theorem dX10_mergeRuns_251 : decode cX10_mergeRuns 251 = .ok (.iload 6, 2) := by decide +kernel
theorem dX10_mergeRuns_253 : decode cX10_mergeRuns 253 = .ok (.iaload, 1) := by decide +kernel
theorem dX10_mergeRuns_254 : decode cX10_mergeRuns 254 = .ok (.istore 14, 2) := by decide +kernel
theorem dX10_mergeRuns_256 : decode cX10_mergeRuns 256 = .ok (.aload 10, 2) := by decide +kernel
theorem dX10_mergeRuns_258 : decode cX10_mergeRuns 258 = .ok (.aload_n 1, 1) := by decide +kernel
theorem dX10_mergeRuns_259 : decode cX10_mergeRuns 259 = .ok (.if_acmp .ne 13, 3) := by decide +kernel
theorem dX10_mergeRuns_262 : decode cX10_mergeRuns 262 = .ok (.aload 5, 2) := by decide +kernel
theorem dX10_mergeRuns_264 : decode cX10_mergeRuns 264 = .ok (.iload 8, 2) := by decide +kernel
theorem dX10_mergeRuns_266 : decode cX10_mergeRuns 266 = .ok (.iaload, 1) := by decide +kernel
theorem dX10_mergeRuns_267 : decode cX10_mergeRuns 267 = .ok (.iload_n 2, 1) := by decide +kernel
theorem dX10_mergeRuns_268 : decode cX10_mergeRuns 268 = .ok (.isub, 1) := by decide +kernel
theorem dX10_mergeRuns_269 : decode cX10_mergeRuns 269 = .ok (.goto 8, 3) := by decide +kernel
theorem dX10_mergeRuns_272 : decode cX10_mergeRuns 272 = .ok (.aload 5, 2) := by decide +kernel
theorem dX10_mergeRuns_274 : decode cX10_mergeRuns 274 = .ok (.iload 8, 2) := by decide +kernel
theorem dX10_mergeRuns_276 : decode cX10_mergeRuns 276 = .ok (.iaload, 1) := by decide +kernel
theorem dX10_mergeRuns_277 : decode cX10_mergeRuns 277 = .ok (.istore 15, 2) := by decide +kernel
theorem dX10_mergeRuns_279 : decode cX10_mergeRuns 279 = .ok (.aload 11, 2) := by decide +kernel
theorem dX10_mergeRuns_281 : decode cX10_mergeRuns 281 = .ok (.aload_n 1, 1) := by decide +kernel
theorem dX10_mergeRuns_282 : decode cX10_mergeRuns 282 = .ok (.if_acmp .ne 13, 3) := by decide +kernel
theorem dX10_mergeRuns_285 : decode cX10_mergeRuns 285 = .ok (.aload 5, 2) := by decide +kernel
theorem dX10_mergeRuns_287 : decode cX10_mergeRuns 287 = .ok (.iload 8, 2) := by decide +kernel
theorem dX10_mergeRuns_289 : decode cX10_mergeRuns 289 = .ok (.iaload, 1) := by decide +kernel
theorem dX10_mergeRuns_290 : decode cX10_mergeRuns 290 = .ok (.iload_n 2, 1) := by decide +kernel
theorem dX10_mergeRuns_291 : decode cX10_mergeRuns 291 = .ok (.isub, 1) := by decide +kernel
theorem dX10_mergeRuns_292 : decode cX10_mergeRuns 292 = .ok (.goto 8, 3) := by decide +kernel
theorem dX10_mergeRuns_295 : decode cX10_mergeRuns 295 = .ok (.aload 5, 2) := by decide +kernel
theorem dX10_mergeRuns_297 : decode cX10_mergeRuns 297 = .ok (.iload 8, 2) := by decide +kernel
theorem dX10_mergeRuns_299 : decode cX10_mergeRuns 299 = .ok (.iaload, 1) := by decide +kernel
theorem dX10_mergeRuns_300 : decode cX10_mergeRuns 300 = .ok (.istore 16, 2) := by decide +kernel
theorem dX10_mergeRuns_302 : decode cX10_mergeRuns 302 = .ok (.aload 11, 2) := by decide +kernel
theorem dX10_mergeRuns_304 : decode cX10_mergeRuns 304 = .ok (.aload_n 1, 1) := by decide +kernel
theorem dX10_mergeRuns_305 : decode cX10_mergeRuns 305 = .ok (.if_acmp .ne 13, 3) := by decide +kernel
theorem dX10_mergeRuns_308 : decode cX10_mergeRuns 308 = .ok (.aload 5, 2) := by decide +kernel
theorem dX10_mergeRuns_310 : decode cX10_mergeRuns 310 = .ok (.iload 7, 2) := by decide +kernel
theorem dX10_mergeRuns_312 : decode cX10_mergeRuns 312 = .ok (.iaload, 1) := by decide +kernel
theorem dX10_mergeRuns_313 : decode cX10_mergeRuns 313 = .ok (.iload_n 2, 1) := by decide +kernel
theorem dX10_mergeRuns_314 : decode cX10_mergeRuns 314 = .ok (.isub, 1) := by decide +kernel
theorem dX10_mergeRuns_315 : decode cX10_mergeRuns 315 = .ok (.goto 8, 3) := by decide +kernel
theorem dX10_mergeRuns_318 : decode cX10_mergeRuns 318 = .ok (.aload 5, 2) := by decide +kernel
theorem dX10_mergeRuns_320 : decode cX10_mergeRuns 320 = .ok (.iload 7, 2) := by decide +kernel
theorem dX10_mergeRuns_322 : decode cX10_mergeRuns 322 = .ok (.iaload, 1) := by decide +kernel
theorem dX10_mergeRuns_323 : decode cX10_mergeRuns 323 = .ok (.istore 17, 2) := by decide +kernel
theorem dX10_mergeRuns_325 : decode cX10_mergeRuns 325 = .ok (.iload 4, 2) := by decide +kernel
theorem dX10_mergeRuns_327 : decode cX10_mergeRuns 327 = .ok (.ifCond .eq 34, 3) := by decide +kernel
theorem dX10_mergeRuns_330 : decode cX10_mergeRuns 330 = .ok (.new 85, 3) := by decide +kernel
theorem dX10_mergeRuns_333 : decode cX10_mergeRuns 333 = .ok (.dup, 1) := by decide +kernel
theorem dX10_mergeRuns_334 : decode cX10_mergeRuns 334 = .ok (.aconst_null, 1) := by decide +kernel
theorem dX10_mergeRuns_335 : decode cX10_mergeRuns 335 = .ok (.aload 12, 2) := by decide +kernel
theorem dX10_mergeRuns_337 : decode cX10_mergeRuns 337 = .ok (.iload 13, 2) := by decide +kernel
theorem dX10_mergeRuns_339 : decode cX10_mergeRuns 339 = .ok (.aload 10, 2) := by decide +kernel
theorem dX10_mergeRuns_341 : decode cX10_mergeRuns 341 = .ok (.iload 14, 2) := by decide +kernel
theorem dX10_mergeRuns_343 : decode cX10_mergeRuns 343 = .ok (.iload 15, 2) := by decide +kernel
theorem dX10_mergeRuns_345 : decode cX10_mergeRuns 345 = .ok (.aload 11, 2) := by decide +kernel
theorem dX10_mergeRuns_347 : decode cX10_mergeRuns 347 = .ok (.iload 16, 2) := by decide +kernel
theorem dX10_mergeRuns_349 : decode cX10_mergeRuns 349 = .ok (.iload 17, 2) := by decide +kernel
theorem dX10_mergeRuns_351 : decode cX10_mergeRuns 351 = .ok (.invokespecial 87, 3) := by decide +kernel
theorem dX10_mergeRuns_354 : decode cX10_mergeRuns 354 = .ok (.invokevirtual 90, 3) := by decide +kernel
theorem dX10_mergeRuns_357 : decode cX10_mergeRuns 357 = .ok (.pop, 1) := by decide +kernel
theorem dX10_mergeRuns_358 : decode cX10_mergeRuns 358 = .ok (.goto 23, 3) := by decide +kernel
theorem dX10_mergeRuns_361 : decode cX10_mergeRuns 361 = .ok (.aconst_null, 1) := by decide +kernel
theorem dX10_mergeRuns_362 : decode cX10_mergeRuns 362 = .ok (.aload 12, 2) := by decide +kernel
theorem dX10_mergeRuns_364 : decode cX10_mergeRuns 364 = .ok (.iload 13, 2) := by decide +kernel
theorem dX10_mergeRuns_366 : decode cX10_mergeRuns 366 = .ok (.aload 10, 2) := by decide +kernel
theorem dX10_mergeRuns_368 : decode cX10_mergeRuns 368 = .ok (.iload 14, 2) := by decide +kernel
theorem dX10_mergeRuns_370 : decode cX10_mergeRuns 370 = .ok (.iload 15, 2) := by decide +kernel
theorem dX10_mergeRuns_372 : decode cX10_mergeRuns 372 = .ok (.aload 11, 2) := by decide +kernel
theorem dX10_mergeRuns_374 : decode cX10_mergeRuns 374 = .ok (.iload 16, 2) := by decide +kernel
theorem dX10_mergeRuns_376 : decode cX10_mergeRuns 376 = .ok (.iload 17, 2) := by decide +kernel
theorem dX10_mergeRuns_378 : decode cX10_mergeRuns 378 = .ok (.invokestatic 91, 3) := by decide +kernel
theorem dX10_mergeRuns_381 : decode cX10_mergeRuns 381 = .ok (.aload 12, 2) := by decide +kernel
theorem dX10_mergeRuns_383 : decode cX10_mergeRuns 383 = .ok (.areturn, 1) := by decide +kernel
theorem dX10_mergeParts_0 : decode cX10_mergeParts 0 = .ok (.aload_n 0, 1) := by decide +kernel
theorem dX10_mergeParts_1 : decode cX10_mergeParts 1 = .ok (.ifnull 169, 3) := by decide +kernel
theorem dX10_mergeParts_4 : decode cX10_mergeParts 4 = .ok (.aload_n 3, 1) := by decide +kernel
theorem dX10_mergeParts_5 : decode cX10_mergeParts 5 = .ok (.aload 6, 2) := by decide +kernel
theorem dX10_mergeParts_7 : decode cX10_mergeParts 7 = .ok (.if_acmp .ne 163, 3) := by decide +kernel
theorem dX10_mergeParts_10 : decode cX10_mergeParts 10 = .ok (.iload 5, 2) := by decide +kernel
theorem dX10_mergeParts_12 : decode cX10_mergeParts 12 = .ok (.iload 4, 2) := by decide +kernel
theorem dX10_mergeParts_14 : decode cX10_mergeParts 14 = .ok (.isub, 1) := by decide +kernel
theorem dX10_mergeParts_15 : decode cX10_mergeParts 15 = .ok (.iload 8, 2) := by decide +kernel
theorem dX10_mergeParts_17 : decode cX10_mergeParts 17 = .ok (.iload 7, 2) := by decide +kernel
theorem dX10_mergeParts_19 : decode cX10_mergeParts 19 = .ok (.isub, 1) := by decide +kernel
theorem dX10_mergeParts_20 : decode cX10_mergeParts 20 = .ok (.if_icmp .ge 27, 3) := by decide +kernel
theorem dX10_mergeParts_23 : decode cX10_mergeParts 23 = .ok (.iload 4, 2) := by decide +kernel
theorem dX10_mergeParts_25 : decode cX10_mergeParts 25 = .ok (.istore 9, 2) := by decide +kernel
theorem dX10_mergeParts_27 : decode cX10_mergeParts 27 = .ok (.iload 7, 2) := by decide +kernel
theorem dX10_mergeParts_29 : decode cX10_mergeParts 29 = .ok (.istore 4, 2) := by decide +kernel
theorem dX10_mergeParts_31 : decode cX10_mergeParts 31 = .ok (.iload 9, 2) := by decide +kernel
theorem dX10_mergeParts_33 : decode cX10_mergeParts 33 = .ok (.istore 7, 2) := by decide +kernel
theorem dX10_mergeParts_35 : decode cX10_mergeParts 35 = .ok (.iload 5, 2) := by decide +kernel
theorem dX10_mergeParts_37 : decode cX10_mergeParts 37 = .ok (.istore 10, 2) := by decide +kernel
theorem dX10_mergeParts_39 : decode cX10_mergeParts 39 = .ok (.iload 8, 2) := by decide +kernel
theorem dX10_mergeParts_41 : decode cX10_mergeParts 41 = .ok (.istore 5, 2) := by decide +kernel
theorem dX10_mergeParts_43 : decode cX10_mergeParts 43 = .ok (.iload 10, 2) := by decide +kernel
theorem dX10_mergeParts_45 : decode cX10_mergeParts 45 = .ok (.istore 8, 2) := by decide +kernel
theorem dX10_mergeParts_47 : decode cX10_mergeParts 47 = .ok (.iload 5, 2) := by decide +kernel
theorem dX10_mergeParts_49 : decode cX10_mergeParts 49 = .ok (.iload 4, 2) := by decide +kernel
theorem dX10_mergeParts_51 : decode cX10_mergeParts 51 = .ok (.isub, 1) := by decide +kernel
theorem dX10_mergeParts_52 : decode cX10_mergeParts 52 = .ok (.sipush 4096, 3) := by decide +kernel
theorem dX10_mergeParts_55 : decode cX10_mergeParts 55 = .ok (.if_icmp .ge 6, 3) := by decide +kernel
theorem dX10_mergeParts_58 : decode cX10_mergeParts 58 = .ok (.goto 112, 3) := by decide +kernel
theorem dX10_mergeParts_61 : decode cX10_mergeParts 61 = .ok (.iload 4, 2) := by decide +kernel
theorem dX10_mergeParts_63 : decode cX10_mergeParts 63 = .ok (.iload 5, 2) := by decide +kernel
theorem dX10_mergeParts_65 : decode cX10_mergeParts 65 = .ok (.iadd, 1) := by decide +kernel
theorem dX10_mergeParts_66 : decode cX10_mergeParts 66 = .ok (.iconst 1, 1) := by decide +kernel
theorem dX10_mergeParts_67 : decode cX10_mergeParts 67 = .ok (.iushr, 1) := by decide +kernel
theorem dX10_mergeParts_68 : decode cX10_mergeParts 68 = .ok (.istore 9, 2) := by decide +kernel
theorem dX10_mergeParts_70 : decode cX10_mergeParts 70 = .ok (.aload_n 3, 1) := by decide +kernel
theorem dX10_mergeParts_71 : decode cX10_mergeParts 71 = .ok (.iload 9, 2) := by decide +kernel
theorem dX10_mergeParts_73 : decode cX10_mergeParts 73 = .ok (.iaload, 1) := by decide +kernel
theorem dX10_mergeParts_74 : decode cX10_mergeParts 74 = .ok (.istore 10, 2) := by decide +kernel
theorem dX10_mergeParts_76 : decode cX10_mergeParts 76 = .ok (.iload 8, 2) := by decide +kernel
theorem dX10_mergeParts_78 : decode cX10_mergeParts 78 = .ok (.istore 11, 2) := by decide +kernel
theorem dX10_mergeParts_80 : decode cX10_mergeParts 80 = .ok (.iload 7, 2) := by decide +kernel
theorem dX10_mergeParts_82 : decode cX10_mergeParts 82 = .ok (.istore 12, 2) := by decide +kernel
theorem dX10_mergeParts_84 : decode cX10_mergeParts 84 = .ok (.iload 12, 2) := by decide +kernel
theorem dX10_mergeParts_86 : decode cX10_mergeParts 86 = .ok (.iload 11, 2) := by decide +kernel
theorem dX10_mergeParts_88 : decode cX10_mergeParts 88 = .ok (.if_icmp .ge 38, 3) := by decide +kernel
theorem dX10_mergeParts_91 : decode cX10_mergeParts 91 = .ok (.iload 12, 2) := by decide +kernel
theorem dX10_mergeParts_93 : decode cX10_mergeParts 93 = .ok (.iload 11, 2) := by decide +kernel
theorem dX10_mergeParts_95 : decode cX10_mergeParts 95 = .ok (.iadd, 1) := by decide +kernel
theorem dX10_mergeParts_96 : decode cX10_mergeParts 96 = .ok (.iconst 1, 1) := by decide +kernel
theorem dX10_mergeParts_97 : decode cX10_mergeParts 97 = .ok (.iushr, 1) := by decide +kernel
theorem dX10_mergeParts_98 : decode cX10_mergeParts 98 = .ok (.istore 13, 2) := by decide +kernel
theorem dX10_mergeParts_100 : decode cX10_mergeParts 100 = .ok (.iload 10, 2) := by decide +kernel
theorem dX10_mergeParts_102 : decode cX10_mergeParts 102 = .ok (.aload 6, 2) := by decide +kernel
theorem dX10_mergeParts_104 : decode cX10_mergeParts 104 = .ok (.iload 13, 2) := by decide +kernel
theorem dX10_mergeParts_106 : decode cX10_mergeParts 106 = .ok (.iaload, 1) := by decide +kernel
theorem dX10_mergeParts_107 : decode cX10_mergeParts 107 = .ok (.if_icmp .le 12, 3) := by decide +kernel
theorem dX10_mergeParts_110 : decode cX10_mergeParts 110 = .ok (.iload 13, 2) := by decide +kernel
theorem dX10_mergeParts_112 : decode cX10_mergeParts 112 = .ok (.iconst 1, 1) := by decide +kernel
theorem dX10_mergeParts_113 : decode cX10_mergeParts 113 = .ok (.iadd, 1) := by decide +kernel
theorem dX10_mergeParts_114 : decode cX10_mergeParts 114 = .ok (.istore 12, 2) := by decide +kernel
theorem dX10_mergeParts_116 : decode cX10_mergeParts 116 = .ok (.goto 7, 3) := by decide +kernel
theorem dX10_mergeParts_119 : decode cX10_mergeParts 119 = .ok (.iload 13, 2) := by decide +kernel
theorem dX10_mergeParts_121 : decode cX10_mergeParts 121 = .ok (.istore 11, 2) := by decide +kernel
theorem dX10_mergeParts_123 : decode cX10_mergeParts 123 = .ok (.goto (-39), 3) := by decide +kernel
theorem dX10_mergeParts_126 : decode cX10_mergeParts 126 = .ok (.iload 11, 2) := by decide +kernel
theorem dX10_mergeParts_128 : decode cX10_mergeParts 128 = .ok (.iload 7, 2) := by decide +kernel
theorem dX10_mergeParts_130 : decode cX10_mergeParts 130 = .ok (.isub, 1) := by decide +kernel
theorem dX10_mergeParts_131 : decode cX10_mergeParts 131 = .ok (.iload 9, 2) := by decide +kernel
theorem dX10_mergeParts_133 : decode cX10_mergeParts 133 = .ok (.iadd, 1) := by decide +kernel
theorem dX10_mergeParts_134 : decode cX10_mergeParts 134 = .ok (.iload 4, 2) := by decide +kernel
theorem dX10_mergeParts_136 : decode cX10_mergeParts 136 = .ok (.isub, 1) := by decide +kernel
theorem dX10_mergeParts_137 : decode cX10_mergeParts 137 = .ok (.istore 12, 2) := by decide +kernel
theorem dX10_mergeParts_139 : decode cX10_mergeParts 139 = .ok (.aload_n 0, 1) := by decide +kernel
theorem dX10_mergeParts_140 : decode cX10_mergeParts 140 = .ok (.aload_n 1, 1) := by decide +kernel
theorem dX10_mergeParts_141 : decode cX10_mergeParts 141 = .ok (.iload_n 2, 1) := by decide +kernel
theorem dX10_mergeParts_142 : decode cX10_mergeParts 142 = .ok (.iload 12, 2) := by decide +kernel
theorem dX10_mergeParts_144 : decode cX10_mergeParts 144 = .ok (.iadd, 1) := by decide +kernel
theorem dX10_mergeParts_145 : decode cX10_mergeParts 145 = .ok (.aload_n 3, 1) := by decide +kernel
theorem dX10_mergeParts_146 : decode cX10_mergeParts 146 = .ok (.iload 9, 2) := by decide +kernel
theorem dX10_mergeParts_148 : decode cX10_mergeParts 148 = .ok (.iload 5, 2) := by decide +kernel
theorem dX10_mergeParts_150 : decode cX10_mergeParts 150 = .ok (.aload 6, 2) := by decide +kernel
theorem dX10_mergeParts_152 : decode cX10_mergeParts 152 = .ok (.iload 11, 2) := by decide +kernel
theorem dX10_mergeParts_154 : decode cX10_mergeParts 154 = .ok (.iload 8, 2) := by decide +kernel
theorem dX10_mergeParts_156 : decode cX10_mergeParts 156 = .ok (.invokevirtual 95, 3) := by decide +kernel
theorem dX10_mergeParts_159 : decode cX10_mergeParts 159 = .ok (.iload 9, 2) := by decide +kernel
theorem dX10_mergeParts_161 : decode cX10_mergeParts 161 = .ok (.istore 5, 2) := by decide +kernel
theorem dX10_mergeParts_163 : decode cX10_mergeParts 163 = .ok (.iload 11, 2) := by decide +kernel
theorem dX10_mergeParts_165 : decode cX10_mergeParts 165 = .ok (.istore 8, 2) := by decide +kernel
theorem dX10_mergeParts_167 : decode cX10_mergeParts 167 = .ok (.goto (-157), 3) := by decide +kernel
theorem dX10_mergeParts_170 : decode cX10_mergeParts 170 = .ok (.iload 4, 2) := by decide +kernel
theorem dX10_mergeParts_172 : decode cX10_mergeParts 172 = .ok (.iload 5, 2) := by decide +kernel
theorem dX10_mergeParts_174 : decode cX10_mergeParts 174 = .ok (.if_icmp .ge 49, 3) := by decide +kernel
theorem dX10_mergeParts_177 : decode cX10_mergeParts 177 = .ok (.iload 7, 2) := by decide +kernel
theorem dX10_mergeParts_179 : decode cX10_mergeParts 179 = .ok (.iload 8, 2) := by decide +kernel
theorem dX10_mergeParts_181 : decode cX10_mergeParts 181 = .ok (.if_icmp .ge 42, 3) := by decide +kernel
theorem dX10_mergeParts_184 : decode cX10_mergeParts 184 = .ok (.aload_n 1, 1) := by decide +kernel
theorem dX10_mergeParts_185 : decode cX10_mergeParts 185 = .ok (.iload_n 2, 1) := by decide +kernel
theorem dX10_mergeParts_186 : decode cX10_mergeParts 186 = .ok (.iinc 2 1, 3) := by decide +kernel
theorem dX10_mergeParts_189 : decode cX10_mergeParts 189 = .ok (.aload_n 3, 1) := by decide +kernel
theorem dX10_mergeParts_190 : decode cX10_mergeParts 190 = .ok (.iload 4, 2) := by decide +kernel
theorem dX10_mergeParts_192 : decode cX10_mergeParts 192 = .ok (.iaload, 1) := by decide +kernel
theorem dX10_mergeParts_193 : decode cX10_mergeParts 193 = .ok (.aload 6, 2) := by decide +kernel
theorem dX10_mergeParts_195 : decode cX10_mergeParts 195 = .ok (.iload 7, 2) := by decide +kernel
theorem dX10_mergeParts_197 : decode cX10_mergeParts 197 = .ok (.iaload, 1) := by decide +kernel
theorem dX10_mergeParts_198 : decode cX10_mergeParts 198 = .ok (.if_icmp .ge 13, 3) := by decide +kernel
theorem dX10_mergeParts_201 : decode cX10_mergeParts 201 = .ok (.aload_n 3, 1) := by decide +kernel
theorem dX10_mergeParts_202 : decode cX10_mergeParts 202 = .ok (.iload 4, 2) := by decide +kernel
theorem dX10_mergeParts_204 : decode cX10_mergeParts 204 = .ok (.iinc 4 1, 3) := by decide +kernel
theorem dX10_mergeParts_207 : decode cX10_mergeParts 207 = .ok (.iaload, 1) := by decide +kernel
theorem dX10_mergeParts_208 : decode cX10_mergeParts 208 = .ok (.goto 11, 3) := by decide +kernel
theorem dX10_mergeParts_211 : decode cX10_mergeParts 211 = .ok (.aload 6, 2) := by decide +kernel
theorem dX10_mergeParts_213 : decode cX10_mergeParts 213 = .ok (.iload 7, 2) := by decide +kernel
theorem dX10_mergeParts_215 : decode cX10_mergeParts 215 = .ok (.iinc 7 1, 3) := by decide +kernel
theorem dX10_mergeParts_218 : decode cX10_mergeParts 218 = .ok (.iaload, 1) := by decide +kernel
theorem dX10_mergeParts_219 : decode cX10_mergeParts 219 = .ok (.iastore, 1) := by decide +kernel
theorem dX10_mergeParts_220 : decode cX10_mergeParts 220 = .ok (.goto (-50), 3) := by decide +kernel
theorem dX10_mergeParts_223 : decode cX10_mergeParts 223 = .ok (.aload_n 1, 1) := by decide +kernel
theorem dX10_mergeParts_224 : decode cX10_mergeParts 224 = .ok (.aload_n 3, 1) := by decide +kernel
theorem dX10_mergeParts_225 : decode cX10_mergeParts 225 = .ok (.if_acmp .ne 9, 3) := by decide +kernel
theorem dX10_mergeParts_228 : decode cX10_mergeParts 228 = .ok (.iload_n 2, 1) := by decide +kernel
theorem dX10_mergeParts_229 : decode cX10_mergeParts 229 = .ok (.iload 4, 2) := by decide +kernel
theorem dX10_mergeParts_231 : decode cX10_mergeParts 231 = .ok (.if_icmp .ge 26, 3) := by decide +kernel
theorem dX10_mergeParts_234 : decode cX10_mergeParts 234 = .ok (.iload 4, 2) := by decide +kernel
theorem dX10_mergeParts_236 : decode cX10_mergeParts 236 = .ok (.iload 5, 2) := by decide +kernel
theorem dX10_mergeParts_238 : decode cX10_mergeParts 238 = .ok (.if_icmp .ge 19, 3) := by decide +kernel
theorem dX10_mergeParts_241 : decode cX10_mergeParts 241 = .ok (.aload_n 1, 1) := by decide +kernel
theorem dX10_mergeParts_242 : decode cX10_mergeParts 242 = .ok (.iload_n 2, 1) := by decide +kernel
theorem dX10_mergeParts_243 : decode cX10_mergeParts 243 = .ok (.iinc 2 1, 3) := by decide +kernel
theorem dX10_mergeParts_246 : decode cX10_mergeParts 246 = .ok (.aload_n 3, 1) := by decide +kernel
theorem dX10_mergeParts_247 : decode cX10_mergeParts 247 = .ok (.iload 4, 2) := by decide +kernel
theorem dX10_mergeParts_249 : decode cX10_mergeParts 249 = .ok (.iinc 4 1, 3) := by decide +kernel
theorem dX10_mergeParts_252 : decode cX10_mergeParts 252 = .ok (.iaload, 1) := by decide +kernel
theorem dX10_mergeParts_253 : decode cX10_mergeParts 253 = .ok (.iastore, 1) := by decide +kernel
theorem dX10_mergeParts_254 : decode cX10_mergeParts 254 = .ok (.goto (-20), 3) := by decide +kernel
theorem dX10_mergeParts_257 : decode cX10_mergeParts 257 = .ok (.aload_n 1, 1) := by decide +kernel
theorem dX10_mergeParts_258 : decode cX10_mergeParts 258 = .ok (.aload 6, 2) := by decide +kernel
theorem dX10_mergeParts_260 : decode cX10_mergeParts 260 = .ok (.if_acmp .ne 9, 3) := by decide +kernel
theorem dX10_mergeParts_263 : decode cX10_mergeParts 263 = .ok (.iload_n 2, 1) := by decide +kernel
theorem dX10_mergeParts_264 : decode cX10_mergeParts 264 = .ok (.iload 7, 2) := by decide +kernel
theorem dX10_mergeParts_266 : decode cX10_mergeParts 266 = .ok (.if_icmp .ge 27, 3) := by decide +kernel
theorem dX10_mergeParts_269 : decode cX10_mergeParts 269 = .ok (.iload 7, 2) := by decide +kernel
theorem dX10_mergeParts_271 : decode cX10_mergeParts 271 = .ok (.iload 8, 2) := by decide +kernel
theorem dX10_mergeParts_273 : decode cX10_mergeParts 273 = .ok (.if_icmp .ge 20, 3) := by decide +kernel
theorem dX10_mergeParts_276 : decode cX10_mergeParts 276 = .ok (.aload_n 1, 1) := by decide +kernel
theorem dX10_mergeParts_277 : decode cX10_mergeParts 277 = .ok (.iload_n 2, 1) := by decide +kernel
theorem dX10_mergeParts_278 : decode cX10_mergeParts 278 = .ok (.iinc 2 1, 3) := by decide +kernel
theorem dX10_mergeParts_281 : decode cX10_mergeParts 281 = .ok (.aload 6, 2) := by decide +kernel
theorem dX10_mergeParts_283 : decode cX10_mergeParts 283 = .ok (.iload 7, 2) := by decide +kernel
theorem dX10_mergeParts_285 : decode cX10_mergeParts 285 = .ok (.iinc 7 1, 3) := by decide +kernel
theorem dX10_mergeParts_288 : decode cX10_mergeParts 288 = .ok (.iaload, 1) := by decide +kernel
theorem dX10_mergeParts_289 : decode cX10_mergeParts 289 = .ok (.iastore, 1) := by decide +kernel
theorem dX10_mergeParts_290 : decode cX10_mergeParts 290 = .ok (.goto (-21), 3) := by decide +kernel
theorem dX10_mergeParts_293 : decode cX10_mergeParts 293 = .ok (.return_, 1) := by decide +kernel
theorem dJ7_sort_e9f53_0 : decode cJ7_sort_e9f53 0 = .ok (.aload_n 0, 1) := by decide +kernel
theorem dJ7_sort_e9f53_1 : decode cJ7_sort_e9f53 1 = .ok (.arraylength, 1) := by decide +kernel
theorem dJ7_sort_e9f53_2 : decode cJ7_sort_e9f53 2 = .ok (.iload_n 1, 1) := by decide +kernel
theorem dJ7_sort_e9f53_3 : decode cJ7_sort_e9f53 3 = .ok (.iload_n 2, 1) := by decide +kernel
theorem dJ7_sort_e9f53_4 : decode cJ7_sort_e9f53 4 = .ok (.invokestatic 13, 3) := by decide +kernel
theorem dJ7_sort_e9f53_7 : decode cJ7_sort_e9f53 7 = .ok (.aload_n 0, 1) := by decide +kernel
theorem dJ7_sort_e9f53_8 : decode cJ7_sort_e9f53 8 = .ok (.iconst 0, 1) := by decide +kernel
theorem dJ7_sort_e9f53_9 : decode cJ7_sort_e9f53 9 = .ok (.iload_n 1, 1) := by decide +kernel
theorem dJ7_sort_e9f53_10 : decode cJ7_sort_e9f53 10 = .ok (.iload_n 2, 1) := by decide +kernel
theorem dJ7_sort_e9f53_11 : decode cJ7_sort_e9f53 11 = .ok (.invokestatic 7, 3) := by decide +kernel
theorem dJ7_sort_e9f53_14 : decode cJ7_sort_e9f53 14 = .ok (.return_, 1) := by decide +kernel
theorem dJ7_rangeCheck_23922_0 : decode cJ7_rangeCheck_23922 0 = .ok (.iload_n 1, 1) := by decide +kernel
theorem dJ7_rangeCheck_23922_1 : decode cJ7_rangeCheck_23922 1 = .ok (.iload_n 2, 1) := by decide +kernel
theorem dJ7_rangeCheck_23922_2 : decode cJ7_rangeCheck_23922 2 = .ok (.if_icmp .le 44, 3) := by decide +kernel
theorem dJ7_rangeCheck_23922_5 : decode cJ7_rangeCheck_23922 5 = .ok (.new 43, 3) := by decide +kernel
theorem dJ7_rangeCheck_23922_8 : decode cJ7_rangeCheck_23922 8 = .ok (.dup, 1) := by decide +kernel
theorem dJ7_rangeCheck_23922_9 : decode cJ7_rangeCheck_23922 9 = .ok (.new 45, 3) := by decide +kernel
theorem dJ7_rangeCheck_23922_12 : decode cJ7_rangeCheck_23922 12 = .ok (.dup, 1) := by decide +kernel
theorem dJ7_rangeCheck_23922_13 : decode cJ7_rangeCheck_23922 13 = .ok (.invokespecial 47, 3) := by decide +kernel
theorem dJ7_rangeCheck_23922_16 : decode cJ7_rangeCheck_23922 16 = .ok (.ldc 48, 2) := by decide +kernel
theorem dJ7_rangeCheck_23922_18 : decode cJ7_rangeCheck_23922 18 = .ok (.invokevirtual 50, 3) := by decide +kernel
theorem dJ7_rangeCheck_23922_21 : decode cJ7_rangeCheck_23922 21 = .ok (.iload_n 1, 1) := by decide +kernel
theorem dJ7_rangeCheck_23922_22 : decode cJ7_rangeCheck_23922 22 = .ok (.invokevirtual 54, 3) := by decide +kernel
theorem dJ7_rangeCheck_23922_25 : decode cJ7_rangeCheck_23922 25 = .ok (.ldc 57, 2) := by decide +kernel
theorem dJ7_rangeCheck_23922_27 : decode cJ7_rangeCheck_23922 27 = .ok (.invokevirtual 50, 3) := by decide +kernel
theorem dJ7_rangeCheck_23922_30 : decode cJ7_rangeCheck_23922 30 = .ok (.iload_n 2, 1) := by decide +kernel
theorem dJ7_rangeCheck_23922_31 : decode cJ7_rangeCheck_23922 31 = .ok (.invokevirtual 54, 3) := by decide +kernel
theorem dJ7_rangeCheck_23922_34 : decode cJ7_rangeCheck_23922 34 = .ok (.ldc 59, 2) := by decide +kernel
theorem dJ7_rangeCheck_23922_36 : decode cJ7_rangeCheck_23922 36 = .ok (.invokevirtual 50, 3) := by decide +kernel
theorem dJ7_rangeCheck_23922_39 : decode cJ7_rangeCheck_23922 39 = .ok (.invokevirtual 61, 3) := by decide +kernel
theorem dJ7_rangeCheck_23922_42 : decode cJ7_rangeCheck_23922 42 = .ok (.invokespecial 65, 3) := by decide +kernel
theorem dJ7_rangeCheck_23922_45 : decode cJ7_rangeCheck_23922 45 = .ok (.athrow, 1) := by decide +kernel
theorem dJ7_rangeCheck_23922_46 : decode cJ7_rangeCheck_23922 46 = .ok (.iload_n 1, 1) := by decide +kernel
theorem dJ7_rangeCheck_23922_47 : decode cJ7_rangeCheck_23922 47 = .ok (.ifCond .ge 12, 3) := by decide +kernel
theorem dJ7_rangeCheck_23922_50 : decode cJ7_rangeCheck_23922 50 = .ok (.new 68, 3) := by decide +kernel
theorem dJ7_rangeCheck_23922_53 : decode cJ7_rangeCheck_23922 53 = .ok (.dup, 1) := by decide +kernel
theorem dJ7_rangeCheck_23922_54 : decode cJ7_rangeCheck_23922 54 = .ok (.iload_n 1, 1) := by decide +kernel
theorem dJ7_rangeCheck_23922_55 : decode cJ7_rangeCheck_23922 55 = .ok (.invokespecial 70, 3) := by decide +kernel
theorem dJ7_rangeCheck_23922_58 : decode cJ7_rangeCheck_23922 58 = .ok (.athrow, 1) := by decide +kernel
theorem dJ7_rangeCheck_23922_59 : decode cJ7_rangeCheck_23922 59 = .ok (.iload_n 2, 1) := by decide +kernel
theorem dJ7_rangeCheck_23922_60 : decode cJ7_rangeCheck_23922 60 = .ok (.iload_n 0, 1) := by decide +kernel
theorem dJ7_rangeCheck_23922_61 : decode cJ7_rangeCheck_23922 61 = .ok (.if_icmp .le 12, 3) := by decide +kernel
theorem dJ7_rangeCheck_23922_64 : decode cJ7_rangeCheck_23922 64 = .ok (.new 68, 3) := by decide +kernel
theorem dJ7_rangeCheck_23922_67 : decode cJ7_rangeCheck_23922 67 = .ok (.dup, 1) := by decide +kernel
theorem dJ7_rangeCheck_23922_68 : decode cJ7_rangeCheck_23922 68 = .ok (.iload_n 2, 1) := by decide +kernel
theorem dJ7_rangeCheck_23922_69 : decode cJ7_rangeCheck_23922 69 = .ok (.invokespecial 70, 3) := by decide +kernel
theorem dJ7_rangeCheck_23922_72 : decode cJ7_rangeCheck_23922 72 = .ok (.athrow, 1) := by decide +kernel
theorem dJ7_rangeCheck_23922_73 : decode cJ7_rangeCheck_23922 73 = .ok (.return_, 1) := by decide +kernel
theorem dJ7_fill_031fb_0 : decode cJ7_fill_031fb 0 = .ok (.iconst 0, 1) := by decide +kernel
theorem dJ7_fill_031fb_1 : decode cJ7_fill_031fb 1 = .ok (.istore_n 2, 1) := by decide +kernel
theorem dJ7_fill_031fb_2 : decode cJ7_fill_031fb 2 = .ok (.aload_n 0, 1) := by decide +kernel
theorem dJ7_fill_031fb_3 : decode cJ7_fill_031fb 3 = .ok (.arraylength, 1) := by decide +kernel
theorem dJ7_fill_031fb_4 : decode cJ7_fill_031fb 4 = .ok (.istore_n 3, 1) := by decide +kernel
theorem dJ7_fill_031fb_5 : decode cJ7_fill_031fb 5 = .ok (.iload_n 2, 1) := by decide +kernel
theorem dJ7_fill_031fb_6 : decode cJ7_fill_031fb 6 = .ok (.iload_n 3, 1) := by decide +kernel
theorem dJ7_fill_031fb_7 : decode cJ7_fill_031fb 7 = .ok (.if_icmp .ge 13, 3) := by decide +kernel
theorem dJ7_fill_031fb_10 : decode cJ7_fill_031fb 10 = .ok (.aload_n 0, 1) := by decide +kernel
theorem dJ7_fill_031fb_11 : decode cJ7_fill_031fb 11 = .ok (.iload_n 2, 1) := by decide +kernel
theorem dJ7_fill_031fb_12 : decode cJ7_fill_031fb 12 = .ok (.iload_n 1, 1) := by decide +kernel
theorem dJ7_fill_031fb_13 : decode cJ7_fill_031fb 13 = .ok (.bastore, 1) := by decide +kernel
theorem dJ7_fill_031fb_14 : decode cJ7_fill_031fb 14 = .ok (.iinc 2 1, 3) := by decide +kernel
theorem dJ7_fill_031fb_17 : decode cJ7_fill_031fb 17 = .ok (.goto (-12), 3) := by decide +kernel
theorem dJ7_fill_031fb_20 : decode cJ7_fill_031fb 20 = .ok (.return_, 1) := by decide +kernel
theorem dJ7_copyOf_9075b_0 : decode cJ7_copyOf_9075b 0 = .ok (.iload_n 1, 1) := by decide +kernel
theorem dJ7_copyOf_9075b_1 : decode cJ7_copyOf_9075b 1 = .ok (.aload_n 0, 1) := by decide +kernel
theorem dJ7_copyOf_9075b_2 : decode cJ7_copyOf_9075b 2 = .ok (.arraylength, 1) := by decide +kernel
theorem dJ7_copyOf_9075b_3 : decode cJ7_copyOf_9075b 3 = .ok (.if_icmp .ne 11, 3) := by decide +kernel
theorem dJ7_copyOf_9075b_6 : decode cJ7_copyOf_9075b 6 = .ok (.aload_n 0, 1) := by decide +kernel
theorem dJ7_copyOf_9075b_7 : decode cJ7_copyOf_9075b 7 = .ok (.invokevirtual 310, 3) := by decide +kernel
theorem dJ7_copyOf_9075b_10 : decode cJ7_copyOf_9075b 10 = .ok (.checkcast 311, 3) := by decide +kernel
theorem dJ7_copyOf_9075b_13 : decode cJ7_copyOf_9075b 13 = .ok (.areturn, 1) := by decide +kernel
theorem dJ7_copyOf_9075b_14 : decode cJ7_copyOf_9075b 14 = .ok (.iload_n 1, 1) := by decide +kernel
theorem dJ7_copyOf_9075b_15 : decode cJ7_copyOf_9075b 15 = .ok (.newarray .byte, 2) := by decide +kernel
theorem dJ7_copyOf_9075b_17 : decode cJ7_copyOf_9075b 17 = .ok (.astore_n 2, 1) := by decide +kernel
theorem dJ7_copyOf_9075b_18 : decode cJ7_copyOf_9075b 18 = .ok (.aload_n 0, 1) := by decide +kernel
theorem dJ7_copyOf_9075b_19 : decode cJ7_copyOf_9075b 19 = .ok (.iconst 0, 1) := by decide +kernel
theorem dJ7_copyOf_9075b_20 : decode cJ7_copyOf_9075b 20 = .ok (.aload_n 2, 1) := by decide +kernel
theorem dJ7_copyOf_9075b_21 : decode cJ7_copyOf_9075b 21 = .ok (.iconst 0, 1) := by decide +kernel
theorem dJ7_copyOf_9075b_22 : decode cJ7_copyOf_9075b 22 = .ok (.aload_n 0, 1) := by decide +kernel
theorem dJ7_copyOf_9075b_23 : decode cJ7_copyOf_9075b 23 = .ok (.arraylength, 1) := by decide +kernel
theorem dJ7_copyOf_9075b_24 : decode cJ7_copyOf_9075b 24 = .ok (.iload_n 1, 1) := by decide +kernel
theorem dJ7_copyOf_9075b_25 : decode cJ7_copyOf_9075b 25 = .ok (.invokestatic 304, 3) := by decide +kernel
theorem dJ7_copyOf_9075b_28 : decode cJ7_copyOf_9075b 28 = .ok (.invokestatic 150, 3) := by decide +kernel
theorem dJ7_copyOf_9075b_31 : decode cJ7_copyOf_9075b 31 = .ok (.aload_n 2, 1) := by decide +kernel
theorem dJ7_copyOf_9075b_32 : decode cJ7_copyOf_9075b 32 = .ok (.areturn, 1) := by decide +kernel
theorem dJ7_copyOf_59c91_0 : decode cJ7_copyOf_59c91 0 = .ok (.iload_n 1, 1) := by decide +kernel
theorem dJ7_copyOf_59c91_1 : decode cJ7_copyOf_59c91 1 = .ok (.aload_n 0, 1) := by decide +kernel
theorem dJ7_copyOf_59c91_2 : decode cJ7_copyOf_59c91 2 = .ok (.arraylength, 1) := by decide +kernel
theorem dJ7_copyOf_59c91_3 : decode cJ7_copyOf_59c91 3 = .ok (.if_icmp .ne 11, 3) := by decide +kernel
theorem dJ7_copyOf_59c91_6 : decode cJ7_copyOf_59c91 6 = .ok (.aload_n 0, 1) := by decide +kernel
theorem dJ7_copyOf_59c91_7 : decode cJ7_copyOf_59c91 7 = .ok (.invokevirtual 316, 3) := by decide +kernel
theorem dJ7_copyOf_59c91_10 : decode cJ7_copyOf_59c91 10 = .ok (.checkcast 317, 3) := by decide +kernel
theorem dJ7_copyOf_59c91_13 : decode cJ7_copyOf_59c91 13 = .ok (.areturn, 1) := by decide +kernel
theorem dJ7_copyOf_59c91_14 : decode cJ7_copyOf_59c91 14 = .ok (.iload_n 1, 1) := by decide +kernel
theorem dJ7_copyOf_59c91_15 : decode cJ7_copyOf_59c91 15 = .ok (.newarray .int, 2) := by decide +kernel
theorem dJ7_copyOf_59c91_17 : decode cJ7_copyOf_59c91 17 = .ok (.astore_n 2, 1) := by decide +kernel
theorem dJ7_copyOf_59c91_18 : decode cJ7_copyOf_59c91 18 = .ok (.aload_n 0, 1) := by decide +kernel
theorem dJ7_copyOf_59c91_19 : decode cJ7_copyOf_59c91 19 = .ok (.iconst 0, 1) := by decide +kernel
theorem dJ7_copyOf_59c91_20 : decode cJ7_copyOf_59c91 20 = .ok (.aload_n 2, 1) := by decide +kernel
theorem dJ7_copyOf_59c91_21 : decode cJ7_copyOf_59c91 21 = .ok (.iconst 0, 1) := by decide +kernel
theorem dJ7_copyOf_59c91_22 : decode cJ7_copyOf_59c91 22 = .ok (.aload_n 0, 1) := by decide +kernel
theorem dJ7_copyOf_59c91_23 : decode cJ7_copyOf_59c91 23 = .ok (.arraylength, 1) := by decide +kernel
theorem dJ7_copyOf_59c91_24 : decode cJ7_copyOf_59c91 24 = .ok (.iload_n 1, 1) := by decide +kernel
theorem dJ7_copyOf_59c91_25 : decode cJ7_copyOf_59c91 25 = .ok (.invokestatic 304, 3) := by decide +kernel
theorem dJ7_copyOf_59c91_28 : decode cJ7_copyOf_59c91 28 = .ok (.invokestatic 150, 3) := by decide +kernel
theorem dJ7_copyOf_59c91_31 : decode cJ7_copyOf_59c91 31 = .ok (.aload_n 2, 1) := by decide +kernel
theorem dJ7_copyOf_59c91_32 : decode cJ7_copyOf_59c91 32 = .ok (.areturn, 1) := by decide +kernel
theorem dJ7_checkLength_df160_0 : decode cJ7_checkLength_df160 0 = .ok (.iload_n 1, 1) := by decide +kernel
theorem dJ7_checkLength_df160_1 : decode cJ7_checkLength_df160 1 = .ok (.iload_n 0, 1) := by decide +kernel
theorem dJ7_checkLength_df160_2 : decode cJ7_checkLength_df160 2 = .ok (.if_icmp .ge 35, 3) := by decide +kernel
theorem dJ7_checkLength_df160_5 : decode cJ7_checkLength_df160 5 = .ok (.new 43, 3) := by decide +kernel
theorem dJ7_checkLength_df160_8 : decode cJ7_checkLength_df160 8 = .ok (.dup, 1) := by decide +kernel
theorem dJ7_checkLength_df160_9 : decode cJ7_checkLength_df160 9 = .ok (.new 45, 3) := by decide +kernel
theorem dJ7_checkLength_df160_12 : decode cJ7_checkLength_df160 12 = .ok (.dup, 1) := by decide +kernel
theorem dJ7_checkLength_df160_13 : decode cJ7_checkLength_df160 13 = .ok (.invokespecial 47, 3) := by decide +kernel
theorem dJ7_checkLength_df160_16 : decode cJ7_checkLength_df160 16 = .ok (.iload_n 0, 1) := by decide +kernel
theorem dJ7_checkLength_df160_17 : decode cJ7_checkLength_df160 17 = .ok (.invokevirtual 54, 3) := by decide +kernel
theorem dJ7_checkLength_df160_20 : decode cJ7_checkLength_df160 20 = .ok (.ldc_w 337, 3) := by decide +kernel
theorem dJ7_checkLength_df160_23 : decode cJ7_checkLength_df160 23 = .ok (.invokevirtual 50, 3) := by decide +kernel
theorem dJ7_checkLength_df160_26 : decode cJ7_checkLength_df160 26 = .ok (.iload_n 1, 1) := by decide +kernel
theorem dJ7_checkLength_df160_27 : decode cJ7_checkLength_df160 27 = .ok (.invokevirtual 54, 3) := by decide +kernel
theorem dJ7_checkLength_df160_30 : decode cJ7_checkLength_df160 30 = .ok (.invokevirtual 61, 3) := by decide +kernel
theorem dJ7_checkLength_df160_33 : decode cJ7_checkLength_df160 33 = .ok (.invokespecial 65, 3) := by decide +kernel
theorem dJ7_checkLength_df160_36 : decode cJ7_checkLength_df160 36 = .ok (.athrow, 1) := by decide +kernel
theorem dJ7_checkLength_df160_37 : decode cJ7_checkLength_df160 37 = .ok (.return_, 1) := by decide +kernel
theorem dJ7_copyOfRange_39247_0 : decode cJ7_copyOfRange_39247 0 = .ok (.iload_n 1, 1) := by decide +kernel
theorem dJ7_copyOfRange_39247_1 : decode cJ7_copyOfRange_39247 1 = .ok (.ifCond .ne 9, 3) := by decide +kernel
theorem dJ7_copyOfRange_39247_4 : decode cJ7_copyOfRange_39247 4 = .ok (.iload_n 2, 1) := by decide +kernel
theorem dJ7_copyOfRange_39247_5 : decode cJ7_copyOfRange_39247 5 = .ok (.aload_n 0, 1) := by decide +kernel
theorem dJ7_copyOfRange_39247_6 : decode cJ7_copyOfRange_39247 6 = .ok (.arraylength, 1) := by decide +kernel
theorem dJ7_copyOfRange_39247_7 : decode cJ7_copyOfRange_39247 7 = .ok (.if_icmp .eq 10, 3) := by decide +kernel
theorem dJ7_copyOfRange_39247_10 : decode cJ7_copyOfRange_39247 10 = .ok (.aload_n 0, 1) := by decide +kernel
theorem dJ7_copyOfRange_39247_11 : decode cJ7_copyOfRange_39247 11 = .ok (.iload_n 1, 1) := by decide +kernel
theorem dJ7_copyOfRange_39247_12 : decode cJ7_copyOfRange_39247 12 = .ok (.iload_n 2, 1) := by decide +kernel
theorem dJ7_copyOfRange_39247_13 : decode cJ7_copyOfRange_39247 13 = .ok (.invokestatic 339, 3) := by decide +kernel
theorem dJ7_copyOfRange_39247_16 : decode cJ7_copyOfRange_39247 16 = .ok (.areturn, 1) := by decide +kernel
theorem dJ7_copyOfRange_39247_17 : decode cJ7_copyOfRange_39247 17 = .ok (.aload_n 0, 1) := by decide +kernel
theorem dJ7_copyOfRange_39247_18 : decode cJ7_copyOfRange_39247 18 = .ok (.invokevirtual 310, 3) := by decide +kernel
theorem dJ7_copyOfRange_39247_21 : decode cJ7_copyOfRange_39247 21 = .ok (.checkcast 311, 3) := by decide +kernel
theorem dJ7_copyOfRange_39247_24 : decode cJ7_copyOfRange_39247 24 = .ok (.areturn, 1) := by decide +kernel
theorem dJ7_copyOfRangeByte_39247_0 : decode cJ7_copyOfRangeByte_39247 0 = .ok (.iload_n 1, 1) := by decide +kernel
theorem dJ7_copyOfRangeByte_39247_1 : decode cJ7_copyOfRangeByte_39247 1 = .ok (.iload_n 2, 1) := by decide +kernel
theorem dJ7_copyOfRangeByte_39247_2 : decode cJ7_copyOfRangeByte_39247 2 = .ok (.invokestatic 343, 3) := by decide +kernel
theorem dJ7_copyOfRangeByte_39247_5 : decode cJ7_copyOfRangeByte_39247 5 = .ok (.iload_n 2, 1) := by decide +kernel
theorem dJ7_copyOfRangeByte_39247_6 : decode cJ7_copyOfRangeByte_39247 6 = .ok (.iload_n 1, 1) := by decide +kernel
theorem dJ7_copyOfRangeByte_39247_7 : decode cJ7_copyOfRangeByte_39247 7 = .ok (.isub, 1) := by decide +kernel
theorem dJ7_copyOfRangeByte_39247_8 : decode cJ7_copyOfRangeByte_39247 8 = .ok (.istore_n 3, 1) := by decide +kernel
theorem dJ7_copyOfRangeByte_39247_9 : decode cJ7_copyOfRangeByte_39247 9 = .ok (.iload_n 3, 1) := by decide +kernel
theorem dJ7_copyOfRangeByte_39247_10 : decode cJ7_copyOfRangeByte_39247 10 = .ok (.newarray .byte, 2) := by decide +kernel
theorem dJ7_copyOfRangeByte_39247_12 : decode cJ7_copyOfRangeByte_39247 12 = .ok (.astore 4, 2) := by decide +kernel
theorem dJ7_copyOfRangeByte_39247_14 : decode cJ7_copyOfRangeByte_39247 14 = .ok (.aload_n 0, 1) := by decide +kernel
theorem dJ7_copyOfRangeByte_39247_15 : decode cJ7_copyOfRangeByte_39247 15 = .ok (.iload_n 1, 1) := by decide +kernel
theorem dJ7_copyOfRangeByte_39247_16 : decode cJ7_copyOfRangeByte_39247 16 = .ok (.aload 4, 2) := by decide +kernel
theorem dJ7_copyOfRangeByte_39247_18 : decode cJ7_copyOfRangeByte_39247 18 = .ok (.iconst 0, 1) := by decide +kernel
theorem dJ7_copyOfRangeByte_39247_19 : decode cJ7_copyOfRangeByte_39247 19 = .ok (.aload_n 0, 1) := by decide +kernel
theorem dJ7_copyOfRangeByte_39247_20 : decode cJ7_copyOfRangeByte_39247 20 = .ok (.arraylength, 1) := by decide +kernel
theorem dJ7_copyOfRangeByte_39247_21 : decode cJ7_copyOfRangeByte_39247 21 = .ok (.iload_n 1, 1) := by decide +kernel
theorem dJ7_copyOfRangeByte_39247_22 : decode cJ7_copyOfRangeByte_39247 22 = .ok (.isub, 1) := by decide +kernel
theorem dJ7_copyOfRangeByte_39247_23 : decode cJ7_copyOfRangeByte_39247 23 = .ok (.iload_n 3, 1) := by decide +kernel
theorem dJ7_copyOfRangeByte_39247_24 : decode cJ7_copyOfRangeByte_39247 24 = .ok (.invokestatic 304, 3) := by decide +kernel
theorem dJ7_copyOfRangeByte_39247_27 : decode cJ7_copyOfRangeByte_39247 27 = .ok (.invokestatic 150, 3) := by decide +kernel
theorem dJ7_copyOfRangeByte_39247_30 : decode cJ7_copyOfRangeByte_39247 30 = .ok (.aload 4, 2) := by decide +kernel
theorem dJ7_copyOfRangeByte_39247_32 : decode cJ7_copyOfRangeByte_39247 32 = .ok (.areturn, 1) := by decide +kernel
theorem dJ9_floorDiv_7cf53_0 : decode cJ9_floorDiv_7cf53 0 = .ok (.iload_n 0, 1) := by decide +kernel
theorem dJ9_floorDiv_7cf53_1 : decode cJ9_floorDiv_7cf53 1 = .ok (.iload_n 1, 1) := by decide +kernel
theorem dJ9_floorDiv_7cf53_2 : decode cJ9_floorDiv_7cf53 2 = .ok (.idiv, 1) := by decide +kernel
theorem dJ9_floorDiv_7cf53_3 : decode cJ9_floorDiv_7cf53 3 = .ok (.istore_n 2, 1) := by decide +kernel
theorem dJ9_floorDiv_7cf53_4 : decode cJ9_floorDiv_7cf53 4 = .ok (.iload_n 0, 1) := by decide +kernel
theorem dJ9_floorDiv_7cf53_5 : decode cJ9_floorDiv_7cf53 5 = .ok (.iload_n 1, 1) := by decide +kernel
theorem dJ9_floorDiv_7cf53_6 : decode cJ9_floorDiv_7cf53 6 = .ok (.ixor, 1) := by decide +kernel
theorem dJ9_floorDiv_7cf53_7 : decode cJ9_floorDiv_7cf53 7 = .ok (.ifCond .ge 14, 3) := by decide +kernel
theorem dJ9_floorDiv_7cf53_10 : decode cJ9_floorDiv_7cf53 10 = .ok (.iload_n 2, 1) := by decide +kernel
theorem dJ9_floorDiv_7cf53_11 : decode cJ9_floorDiv_7cf53 11 = .ok (.iload_n 1, 1) := by decide +kernel
theorem dJ9_floorDiv_7cf53_12 : decode cJ9_floorDiv_7cf53 12 = .ok (.imul, 1) := by decide +kernel
theorem dJ9_floorDiv_7cf53_13 : decode cJ9_floorDiv_7cf53 13 = .ok (.iload_n 0, 1) := by decide +kernel
theorem dJ9_floorDiv_7cf53_14 : decode cJ9_floorDiv_7cf53 14 = .ok (.if_icmp .eq 7, 3) := by decide +kernel
theorem dJ9_floorDiv_7cf53_17 : decode cJ9_floorDiv_7cf53 17 = .ok (.iload_n 2, 1) := by decide +kernel
theorem dJ9_floorDiv_7cf53_18 : decode cJ9_floorDiv_7cf53 18 = .ok (.iconst 1, 1) := by decide +kernel
theorem dJ9_floorDiv_7cf53_19 : decode cJ9_floorDiv_7cf53 19 = .ok (.isub, 1) := by decide +kernel
theorem dJ9_floorDiv_7cf53_20 : decode cJ9_floorDiv_7cf53 20 = .ok (.ireturn, 1) := by decide +kernel
theorem dJ9_floorDiv_7cf53_21 : decode cJ9_floorDiv_7cf53 21 = .ok (.iload_n 2, 1) := by decide +kernel
theorem dJ9_floorDiv_7cf53_22 : decode cJ9_floorDiv_7cf53 22 = .ok (.ireturn, 1) := by decide +kernel
theorem dJ9_floorMod_7cf53_0 : decode cJ9_floorMod_7cf53 0 = .ok (.iload_n 0, 1) := by decide +kernel
theorem dJ9_floorMod_7cf53_1 : decode cJ9_floorMod_7cf53 1 = .ok (.iload_n 1, 1) := by decide +kernel
theorem dJ9_floorMod_7cf53_2 : decode cJ9_floorMod_7cf53 2 = .ok (.irem, 1) := by decide +kernel
theorem dJ9_floorMod_7cf53_3 : decode cJ9_floorMod_7cf53 3 = .ok (.istore_n 2, 1) := by decide +kernel
theorem dJ9_floorMod_7cf53_4 : decode cJ9_floorMod_7cf53 4 = .ok (.iload_n 0, 1) := by decide +kernel
theorem dJ9_floorMod_7cf53_5 : decode cJ9_floorMod_7cf53 5 = .ok (.iload_n 1, 1) := by decide +kernel
theorem dJ9_floorMod_7cf53_6 : decode cJ9_floorMod_7cf53 6 = .ok (.ixor, 1) := by decide +kernel
theorem dJ9_floorMod_7cf53_7 : decode cJ9_floorMod_7cf53 7 = .ok (.ifCond .ge 11, 3) := by decide +kernel
theorem dJ9_floorMod_7cf53_10 : decode cJ9_floorMod_7cf53 10 = .ok (.iload_n 2, 1) := by decide +kernel
theorem dJ9_floorMod_7cf53_11 : decode cJ9_floorMod_7cf53 11 = .ok (.ifCond .eq 7, 3) := by decide +kernel
theorem dJ9_floorMod_7cf53_14 : decode cJ9_floorMod_7cf53 14 = .ok (.iload_n 2, 1) := by decide +kernel
theorem dJ9_floorMod_7cf53_15 : decode cJ9_floorMod_7cf53 15 = .ok (.iload_n 1, 1) := by decide +kernel
theorem dJ9_floorMod_7cf53_16 : decode cJ9_floorMod_7cf53 16 = .ok (.iadd, 1) := by decide +kernel
theorem dJ9_floorMod_7cf53_17 : decode cJ9_floorMod_7cf53 17 = .ok (.ireturn, 1) := by decide +kernel
theorem dJ9_floorMod_7cf53_18 : decode cJ9_floorMod_7cf53 18 = .ok (.iload_n 2, 1) := by decide +kernel
theorem dJ9_floorMod_7cf53_19 : decode cJ9_floorMod_7cf53 19 = .ok (.ireturn, 1) := by decide +kernel
theorem dJ9_abs_0f7a4_0 : decode cJ9_abs_0f7a4 0 = .ok (.iload_n 0, 1) := by decide +kernel
theorem dJ9_abs_0f7a4_1 : decode cJ9_abs_0f7a4 1 = .ok (.ifCond .ge 8, 3) := by decide +kernel
theorem dJ9_abs_0f7a4_4 : decode cJ9_abs_0f7a4 4 = .ok (.iload_n 0, 1) := by decide +kernel
theorem dJ9_abs_0f7a4_5 : decode cJ9_abs_0f7a4 5 = .ok (.ineg, 1) := by decide +kernel
theorem dJ9_abs_0f7a4_6 : decode cJ9_abs_0f7a4 6 = .ok (.goto 4, 3) := by decide +kernel
theorem dJ9_abs_0f7a4_9 : decode cJ9_abs_0f7a4 9 = .ok (.iload_n 0, 1) := by decide +kernel
theorem dJ9_abs_0f7a4_10 : decode cJ9_abs_0f7a4 10 = .ok (.ireturn, 1) := by decide +kernel
theorem dJ9_max_7cf53_0 : decode cJ9_max_7cf53 0 = .ok (.iload_n 0, 1) := by decide +kernel
theorem dJ9_max_7cf53_1 : decode cJ9_max_7cf53 1 = .ok (.iload_n 1, 1) := by decide +kernel
theorem dJ9_max_7cf53_2 : decode cJ9_max_7cf53 2 = .ok (.if_icmp .lt 7, 3) := by decide +kernel
theorem dJ9_max_7cf53_5 : decode cJ9_max_7cf53 5 = .ok (.iload_n 0, 1) := by decide +kernel
theorem dJ9_max_7cf53_6 : decode cJ9_max_7cf53 6 = .ok (.goto 4, 3) := by decide +kernel
theorem dJ9_max_7cf53_9 : decode cJ9_max_7cf53 9 = .ok (.iload_n 1, 1) := by decide +kernel
theorem dJ9_max_7cf53_10 : decode cJ9_max_7cf53 10 = .ok (.ireturn, 1) := by decide +kernel
theorem dJ9_min_7cf53_0 : decode cJ9_min_7cf53 0 = .ok (.iload_n 0, 1) := by decide +kernel
theorem dJ9_min_7cf53_1 : decode cJ9_min_7cf53 1 = .ok (.iload_n 1, 1) := by decide +kernel
theorem dJ9_min_7cf53_2 : decode cJ9_min_7cf53 2 = .ok (.if_icmp .gt 7, 3) := by decide +kernel
theorem dJ9_min_7cf53_5 : decode cJ9_min_7cf53 5 = .ok (.iload_n 0, 1) := by decide +kernel
theorem dJ9_min_7cf53_6 : decode cJ9_min_7cf53 6 = .ok (.goto 4, 3) := by decide +kernel
theorem dJ9_min_7cf53_9 : decode cJ9_min_7cf53 9 = .ok (.iload_n 1, 1) := by decide +kernel
theorem dJ9_min_7cf53_10 : decode cJ9_min_7cf53 10 = .ok (.ireturn, 1) := by decide +kernel
theorem dJ9_min_f86c9_0 : decode cJ9_min_f86c9 0 = .ok (.lload_n 0, 1) := by decide +kernel
theorem dJ9_min_f86c9_1 : decode cJ9_min_f86c9 1 = .ok (.lload_n 2, 1) := by decide +kernel
theorem dJ9_min_f86c9_2 : decode cJ9_min_f86c9 2 = .ok (.lcmp, 1) := by decide +kernel
theorem dJ9_min_f86c9_3 : decode cJ9_min_f86c9 3 = .ok (.ifCond .gt 7, 3) := by decide +kernel
theorem dJ9_min_f86c9_6 : decode cJ9_min_f86c9 6 = .ok (.lload_n 0, 1) := by decide +kernel
theorem dJ9_min_f86c9_7 : decode cJ9_min_f86c9 7 = .ok (.goto 4, 3) := by decide +kernel
theorem dJ9_min_f86c9_10 : decode cJ9_min_f86c9 10 = .ok (.lload_n 2, 1) := by decide +kernel
theorem dJ9_min_f86c9_11 : decode cJ9_min_f86c9 11 = .ok (.lreturn, 1) := by decide +kernel
theorem dL_dayOf_0 : decode cL_dayOf 0 = .ok (.aload 4, 2) := by decide +kernel
theorem dL_dayOf_2 : decode cL_dayOf 2 = .ok (.iconst 0, 1) := by decide +kernel
theorem dL_dayOf_3 : decode cL_dayOf 3 = .ok (.aload_n 0, 1) := by decide +kernel
theorem dL_dayOf_4 : decode cL_dayOf 4 = .ok (.iload_n 1, 1) := by decide +kernel
theorem dL_dayOf_5 : decode cL_dayOf 5 = .ok (.iload_n 2, 1) := by decide +kernel
theorem dL_dayOf_6 : decode cL_dayOf 6 = .ok (.iload_n 3, 1) := by decide +kernel
theorem dL_dayOf_7 : decode cL_dayOf 7 = .ok (.invokevirtual 7, 3) := by decide +kernel
theorem dL_dayOf_10 : decode cL_dayOf 10 = .ok (.i2l, 1) := by decide +kernel
theorem dL_dayOf_11 : decode cL_dayOf 11 = .ok (.lastore, 1) := by decide +kernel
theorem dL_dayOf_12 : decode cL_dayOf 12 = .ok (.goto 7, 3) := by decide +kernel
theorem dL_dayOf_15 : decode cL_dayOf 15 = .ok (.astore 5, 2) := by decide +kernel
theorem dL_dayOf_17 : decode cL_dayOf 17 = .ok (.iconst 1, 1) := by decide +kernel
theorem dL_dayOf_18 : decode cL_dayOf 18 = .ok (.ireturn, 1) := by decide +kernel
theorem dL_dayOf_19 : decode cL_dayOf 19 = .ok (.iconst 0, 1) := by decide +kernel
theorem dL_dayOf_20 : decode cL_dayOf 20 = .ok (.ireturn, 1) := by decide +kernel
theorem dL_yearOf_0 : decode cL_yearOf 0 = .ok (.aload_n 2, 1) := by decide +kernel
theorem dL_yearOf_1 : decode cL_yearOf 1 = .ok (.iconst 0, 1) := by decide +kernel
theorem dL_yearOf_2 : decode cL_yearOf 2 = .ok (.aload_n 0, 1) := by decide +kernel
theorem dL_yearOf_3 : decode cL_yearOf 3 = .ok (.iload_n 1, 1) := by decide +kernel
theorem dL_yearOf_4 : decode cL_yearOf 4 = .ok (.invokevirtual 15, 3) := by decide +kernel
theorem dL_yearOf_7 : decode cL_yearOf 7 = .ok (.i2l, 1) := by decide +kernel
theorem dL_yearOf_8 : decode cL_yearOf 8 = .ok (.lastore, 1) := by decide +kernel
theorem dL_yearOf_9 : decode cL_yearOf 9 = .ok (.goto 6, 3) := by decide +kernel
theorem dL_yearOf_12 : decode cL_yearOf 12 = .ok (.astore_n 3, 1) := by decide +kernel
theorem dL_yearOf_13 : decode cL_yearOf 13 = .ok (.iconst 1, 1) := by decide +kernel
theorem dL_yearOf_14 : decode cL_yearOf 14 = .ok (.ireturn, 1) := by decide +kernel
theorem dL_yearOf_15 : decode cL_yearOf 15 = .ok (.iconst 0, 1) := by decide +kernel
theorem dL_yearOf_16 : decode cL_yearOf 16 = .ok (.ireturn, 1) := by decide +kernel
theorem dL_monthOf_0 : decode cL_monthOf 0 = .ok (.aload_n 2, 1) := by decide +kernel
theorem dL_monthOf_1 : decode cL_monthOf 1 = .ok (.iconst 0, 1) := by decide +kernel
theorem dL_monthOf_2 : decode cL_monthOf 2 = .ok (.aload_n 0, 1) := by decide +kernel
theorem dL_monthOf_3 : decode cL_monthOf 3 = .ok (.iload_n 1, 1) := by decide +kernel
theorem dL_monthOf_4 : decode cL_monthOf 4 = .ok (.invokevirtual 21, 3) := by decide +kernel
theorem dL_monthOf_7 : decode cL_monthOf 7 = .ok (.i2l, 1) := by decide +kernel
theorem dL_monthOf_8 : decode cL_monthOf 8 = .ok (.lastore, 1) := by decide +kernel
theorem dL_monthOf_9 : decode cL_monthOf 9 = .ok (.goto 6, 3) := by decide +kernel
theorem dL_monthOf_12 : decode cL_monthOf 12 = .ok (.astore_n 3, 1) := by decide +kernel
theorem dL_monthOf_13 : decode cL_monthOf 13 = .ok (.iconst 1, 1) := by decide +kernel
theorem dL_monthOf_14 : decode cL_monthOf 14 = .ok (.ireturn, 1) := by decide +kernel
theorem dL_monthOf_15 : decode cL_monthOf 15 = .ok (.iconst 0, 1) := by decide +kernel
theorem dL_monthOf_16 : decode cL_monthOf 16 = .ok (.ireturn, 1) := by decide +kernel
theorem dL_dayOfMonth_0 : decode cL_dayOfMonth 0 = .ok (.aload_n 2, 1) := by decide +kernel
theorem dL_dayOfMonth_1 : decode cL_dayOfMonth 1 = .ok (.iconst 0, 1) := by decide +kernel
theorem dL_dayOfMonth_2 : decode cL_dayOfMonth 2 = .ok (.aload_n 0, 1) := by decide +kernel
theorem dL_dayOfMonth_3 : decode cL_dayOfMonth 3 = .ok (.iload_n 1, 1) := by decide +kernel
theorem dL_dayOfMonth_4 : decode cL_dayOfMonth 4 = .ok (.invokevirtual 24, 3) := by decide +kernel
theorem dL_dayOfMonth_7 : decode cL_dayOfMonth 7 = .ok (.i2l, 1) := by decide +kernel
theorem dL_dayOfMonth_8 : decode cL_dayOfMonth 8 = .ok (.lastore, 1) := by decide +kernel
theorem dL_dayOfMonth_9 : decode cL_dayOfMonth 9 = .ok (.goto 6, 3) := by decide +kernel
theorem dL_dayOfMonth_12 : decode cL_dayOfMonth 12 = .ok (.astore_n 3, 1) := by decide +kernel
theorem dL_dayOfMonth_13 : decode cL_dayOfMonth 13 = .ok (.iconst 1, 1) := by decide +kernel
theorem dL_dayOfMonth_14 : decode cL_dayOfMonth 14 = .ok (.ireturn, 1) := by decide +kernel
theorem dL_dayOfMonth_15 : decode cL_dayOfMonth 15 = .ok (.iconst 0, 1) := by decide +kernel
theorem dL_dayOfMonth_16 : decode cL_dayOfMonth 16 = .ok (.ireturn, 1) := by decide +kernel
theorem dL_weekdayOf_0 : decode cL_weekdayOf 0 = .ok (.aload_n 2, 1) := by decide +kernel
theorem dL_weekdayOf_1 : decode cL_weekdayOf 1 = .ok (.iconst 0, 1) := by decide +kernel
theorem dL_weekdayOf_2 : decode cL_weekdayOf 2 = .ok (.aload_n 0, 1) := by decide +kernel
theorem dL_weekdayOf_3 : decode cL_weekdayOf 3 = .ok (.iload_n 1, 1) := by decide +kernel
theorem dL_weekdayOf_4 : decode cL_weekdayOf 4 = .ok (.invokevirtual 27, 3) := by decide +kernel
theorem dL_weekdayOf_7 : decode cL_weekdayOf 7 = .ok (.i2l, 1) := by decide +kernel
theorem dL_weekdayOf_8 : decode cL_weekdayOf 8 = .ok (.lastore, 1) := by decide +kernel
theorem dL_weekdayOf_9 : decode cL_weekdayOf 9 = .ok (.goto 6, 3) := by decide +kernel
theorem dL_weekdayOf_12 : decode cL_weekdayOf 12 = .ok (.astore_n 3, 1) := by decide +kernel
theorem dL_weekdayOf_13 : decode cL_weekdayOf 13 = .ok (.iconst 1, 1) := by decide +kernel
theorem dL_weekdayOf_14 : decode cL_weekdayOf 14 = .ok (.ireturn, 1) := by decide +kernel
theorem dL_weekdayOf_15 : decode cL_weekdayOf 15 = .ok (.iconst 0, 1) := by decide +kernel
theorem dL_weekdayOf_16 : decode cL_weekdayOf 16 = .ok (.ireturn, 1) := by decide +kernel
theorem dL_weekOf_0 : decode cL_weekOf 0 = .ok (.aload_n 2, 1) := by decide +kernel
theorem dL_weekOf_1 : decode cL_weekOf 1 = .ok (.iconst 0, 1) := by decide +kernel
theorem dL_weekOf_2 : decode cL_weekOf 2 = .ok (.aload_n 0, 1) := by decide +kernel
theorem dL_weekOf_3 : decode cL_weekOf 3 = .ok (.iload_n 1, 1) := by decide +kernel
theorem dL_weekOf_4 : decode cL_weekOf 4 = .ok (.invokevirtual 30, 3) := by decide +kernel
theorem dL_weekOf_7 : decode cL_weekOf 7 = .ok (.i2l, 1) := by decide +kernel
theorem dL_weekOf_8 : decode cL_weekOf 8 = .ok (.lastore, 1) := by decide +kernel
theorem dL_weekOf_9 : decode cL_weekOf 9 = .ok (.goto 6, 3) := by decide +kernel
theorem dL_weekOf_12 : decode cL_weekOf 12 = .ok (.astore_n 3, 1) := by decide +kernel
theorem dL_weekOf_13 : decode cL_weekOf 13 = .ok (.iconst 1, 1) := by decide +kernel
theorem dL_weekOf_14 : decode cL_weekOf 14 = .ok (.ireturn, 1) := by decide +kernel
theorem dL_weekOf_15 : decode cL_weekOf 15 = .ok (.iconst 0, 1) := by decide +kernel
theorem dL_weekOf_16 : decode cL_weekOf 16 = .ok (.ireturn, 1) := by decide +kernel
theorem dL_yearOfWeek_0 : decode cL_yearOfWeek 0 = .ok (.aload_n 2, 1) := by decide +kernel
theorem dL_yearOfWeek_1 : decode cL_yearOfWeek 1 = .ok (.iconst 0, 1) := by decide +kernel
theorem dL_yearOfWeek_2 : decode cL_yearOfWeek 2 = .ok (.aload_n 0, 1) := by decide +kernel
theorem dL_yearOfWeek_3 : decode cL_yearOfWeek 3 = .ok (.iload_n 1, 1) := by decide +kernel
theorem dL_yearOfWeek_4 : decode cL_yearOfWeek 4 = .ok (.invokevirtual 33, 3) := by decide +kernel
theorem dL_yearOfWeek_7 : decode cL_yearOfWeek 7 = .ok (.i2l, 1) := by decide +kernel
theorem dL_yearOfWeek_8 : decode cL_yearOfWeek 8 = .ok (.lastore, 1) := by decide +kernel
theorem dL_yearOfWeek_9 : decode cL_yearOfWeek 9 = .ok (.goto 6, 3) := by decide +kernel
theorem dL_yearOfWeek_12 : decode cL_yearOfWeek 12 = .ok (.astore_n 3, 1) := by decide +kernel
theorem dL_yearOfWeek_13 : decode cL_yearOfWeek 13 = .ok (.iconst 1, 1) := by decide +kernel
theorem dL_yearOfWeek_14 : decode cL_yearOfWeek 14 = .ok (.ireturn, 1) := by decide +kernel
theorem dL_yearOfWeek_15 : decode cL_yearOfWeek 15 = .ok (.iconst 0, 1) := by decide +kernel
theorem dL_yearOfWeek_16 : decode cL_yearOfWeek 16 = .ok (.ireturn, 1) := by decide +kernel
theorem dL_easterOf_0 : decode cL_easterOf 0 = .ok (.aload_n 2, 1) := by decide +kernel
theorem dL_easterOf_1 : decode cL_easterOf 1 = .ok (.iconst 0, 1) := by decide +kernel
theorem dL_easterOf_2 : decode cL_easterOf 2 = .ok (.aload_n 0, 1) := by decide +kernel
theorem dL_easterOf_3 : decode cL_easterOf 3 = .ok (.iload_n 1, 1) := by decide +kernel
theorem dL_easterOf_4 : decode cL_easterOf 4 = .ok (.invokevirtual 36, 3) := by decide +kernel
theorem dL_easterOf_7 : decode cL_easterOf 7 = .ok (.i2l, 1) := by decide +kernel
theorem dL_easterOf_8 : decode cL_easterOf 8 = .ok (.lastore, 1) := by decide +kernel
theorem dL_easterOf_9 : decode cL_easterOf 9 = .ok (.goto 6, 3) := by decide +kernel
theorem dL_easterOf_12 : decode cL_easterOf 12 = .ok (.astore_n 3, 1) := by decide +kernel
theorem dL_easterOf_13 : decode cL_easterOf 13 = .ok (.iconst 1, 1) := by decide +kernel
theorem dL_easterOf_14 : decode cL_easterOf 14 = .ok (.ireturn, 1) := by decide +kernel
theorem dL_easterOf_15 : decode cL_easterOf 15 = .ok (.iconst 0, 1) := by decide +kernel
theorem dL_easterOf_16 : decode cL_easterOf 16 = .ok (.ireturn, 1) := by decide +kernel
theorem dL_plusMonths_0 : decode cL_plusMonths 0 = .ok (.aload_n 3, 1) := by decide +kernel
theorem dL_plusMonths_1 : decode cL_plusMonths 1 = .ok (.iconst 0, 1) := by decide +kernel
theorem dL_plusMonths_2 : decode cL_plusMonths 2 = .ok (.aload_n 0, 1) := by decide +kernel
theorem dL_plusMonths_3 : decode cL_plusMonths 3 = .ok (.iload_n 1, 1) := by decide +kernel
theorem dL_plusMonths_4 : decode cL_plusMonths 4 = .ok (.iload_n 2, 1) := by decide +kernel
theorem dL_plusMonths_5 : decode cL_plusMonths 5 = .ok (.invokevirtual 39, 3) := by decide +kernel
theorem dL_plusMonths_8 : decode cL_plusMonths 8 = .ok (.i2l, 1) := by decide +kernel
theorem dL_plusMonths_9 : decode cL_plusMonths 9 = .ok (.lastore, 1) := by decide +kernel
theorem dL_plusMonths_10 : decode cL_plusMonths 10 = .ok (.goto 11, 3) := by decide +kernel
theorem dL_plusMonths_13 : decode cL_plusMonths 13 = .ok (.astore 4, 2) := by decide +kernel
theorem dL_plusMonths_15 : decode cL_plusMonths 15 = .ok (.iconst 1, 1) := by decide +kernel
theorem dL_plusMonths_16 : decode cL_plusMonths 16 = .ok (.ireturn, 1) := by decide +kernel
theorem dL_plusMonths_17 : decode cL_plusMonths 17 = .ok (.astore 4, 2) := by decide +kernel
theorem dL_plusMonths_19 : decode cL_plusMonths 19 = .ok (.iconst 2, 1) := by decide +kernel
theorem dL_plusMonths_20 : decode cL_plusMonths 20 = .ok (.ireturn, 1) := by decide +kernel
theorem dL_plusMonths_21 : decode cL_plusMonths 21 = .ok (.iconst 0, 1) := by decide +kernel
theorem dL_plusMonths_22 : decode cL_plusMonths 22 = .ok (.ireturn, 1) := by decide +kernel
theorem dL_addPattern_0 : decode cL_addPattern 0 = .ok (.aload 4, 2) := by decide +kernel
theorem dL_addPattern_2 : decode cL_addPattern 2 = .ok (.iconst 0, 1) := by decide +kernel
theorem dL_addPattern_3 : decode cL_addPattern 3 = .ok (.aload_n 0, 1) := by decide +kernel
theorem dL_addPattern_4 : decode cL_addPattern 4 = .ok (.iload_n 1, 1) := by decide +kernel
theorem dL_addPattern_5 : decode cL_addPattern 5 = .ok (.iload_n 2, 1) := by decide +kernel
theorem dL_addPattern_6 : decode cL_addPattern 6 = .ok (.iload_n 3, 1) := by decide +kernel
theorem dL_addPattern_7 : decode cL_addPattern 7 = .ok (.invokevirtual 43, 3) := by decide +kernel
theorem dL_addPattern_10 : decode cL_addPattern 10 = .ok (.i2l, 1) := by decide +kernel
theorem dL_addPattern_11 : decode cL_addPattern 11 = .ok (.lastore, 1) := by decide +kernel
theorem dL_addPattern_12 : decode cL_addPattern 12 = .ok (.goto 11, 3) := by decide +kernel
theorem dL_addPattern_15 : decode cL_addPattern 15 = .ok (.astore 5, 2) := by decide +kernel
theorem dL_addPattern_17 : decode cL_addPattern 17 = .ok (.iconst 1, 1) := by decide +kernel
theorem dL_addPattern_18 : decode cL_addPattern 18 = .ok (.ireturn, 1) := by decide +kernel
theorem dL_addPattern_19 : decode cL_addPattern 19 = .ok (.astore 5, 2) := by decide +kernel
theorem dL_addPattern_21 : decode cL_addPattern 21 = .ok (.iconst 2, 1) := by decide +kernel
theorem dL_addPattern_22 : decode cL_addPattern 22 = .ok (.ireturn, 1) := by decide +kernel
theorem dL_addPattern_23 : decode cL_addPattern 23 = .ok (.iconst 0, 1) := by decide +kernel
theorem dL_addPattern_24 : decode cL_addPattern 24 = .ok (.ireturn, 1) := by decide +kernel
theorem dL_daysTold_0 : decode cL_daysTold 0 = .ok (.aload_n 3, 1) := by decide +kernel
theorem dL_daysTold_1 : decode cL_daysTold 1 = .ok (.iconst 0, 1) := by decide +kernel
theorem dL_daysTold_2 : decode cL_daysTold 2 = .ok (.aload_n 0, 1) := by decide +kernel
theorem dL_daysTold_3 : decode cL_daysTold 3 = .ok (.iload_n 1, 1) := by decide +kernel
theorem dL_daysTold_4 : decode cL_daysTold 4 = .ok (.iload_n 2, 1) := by decide +kernel
theorem dL_daysTold_5 : decode cL_daysTold 5 = .ok (.invokevirtual 48, 3) := by decide +kernel
theorem dL_daysTold_8 : decode cL_daysTold 8 = .ok (.i2l, 1) := by decide +kernel
theorem dL_daysTold_9 : decode cL_daysTold 9 = .ok (.lastore, 1) := by decide +kernel
theorem dL_daysTold_10 : decode cL_daysTold 10 = .ok (.goto 11, 3) := by decide +kernel
theorem dL_daysTold_13 : decode cL_daysTold 13 = .ok (.astore 4, 2) := by decide +kernel
theorem dL_daysTold_15 : decode cL_daysTold 15 = .ok (.iconst 1, 1) := by decide +kernel
theorem dL_daysTold_16 : decode cL_daysTold 16 = .ok (.ireturn, 1) := by decide +kernel
theorem dL_daysTold_17 : decode cL_daysTold 17 = .ok (.astore 4, 2) := by decide +kernel
theorem dL_daysTold_19 : decode cL_daysTold 19 = .ok (.iconst 2, 1) := by decide +kernel
theorem dL_daysTold_20 : decode cL_daysTold 20 = .ok (.ireturn, 1) := by decide +kernel
theorem dL_daysTold_21 : decode cL_daysTold 21 = .ok (.iconst 0, 1) := by decide +kernel
theorem dL_daysTold_22 : decode cL_daysTold 22 = .ok (.ireturn, 1) := by decide +kernel
theorem dL_tells_0 : decode cL_tells 0 = .ok (.aload_n 3, 1) := by decide +kernel
theorem dL_tells_1 : decode cL_tells 1 = .ok (.iconst 0, 1) := by decide +kernel
theorem dL_tells_2 : decode cL_tells 2 = .ok (.aload_n 0, 1) := by decide +kernel
theorem dL_tells_3 : decode cL_tells 3 = .ok (.iload_n 1, 1) := by decide +kernel
theorem dL_tells_4 : decode cL_tells 4 = .ok (.iload_n 2, 1) := by decide +kernel
theorem dL_tells_5 : decode cL_tells 5 = .ok (.invokevirtual 51, 3) := by decide +kernel
theorem dL_tells_8 : decode cL_tells 8 = .ok (.ifCond .eq 7, 3) := by decide +kernel
theorem dL_tells_11 : decode cL_tells 11 = .ok (.lconst 1, 1) := by decide +kernel
theorem dL_tells_12 : decode cL_tells 12 = .ok (.goto 4, 3) := by decide +kernel
theorem dL_tells_15 : decode cL_tells 15 = .ok (.lconst 0, 1) := by decide +kernel
theorem dL_tells_16 : decode cL_tells 16 = .ok (.lastore, 1) := by decide +kernel
theorem dL_tells_17 : decode cL_tells 17 = .ok (.goto 7, 3) := by decide +kernel
theorem dL_tells_20 : decode cL_tells 20 = .ok (.astore 4, 2) := by decide +kernel
theorem dL_tells_22 : decode cL_tells 22 = .ok (.iconst 1, 1) := by decide +kernel
theorem dL_tells_23 : decode cL_tells 23 = .ok (.ireturn, 1) := by decide +kernel
theorem dL_tells_24 : decode cL_tells 24 = .ok (.iconst 0, 1) := by decide +kernel
theorem dL_tells_25 : decode cL_tells 25 = .ok (.ireturn, 1) := by decide +kernel
theorem dL_nextTold_0 : decode cL_nextTold 0 = .ok (.aload_n 3, 1) := by decide +kernel
theorem dL_nextTold_1 : decode cL_nextTold 1 = .ok (.iconst 0, 1) := by decide +kernel
theorem dL_nextTold_2 : decode cL_nextTold 2 = .ok (.aload_n 0, 1) := by decide +kernel
theorem dL_nextTold_3 : decode cL_nextTold 3 = .ok (.iload_n 1, 1) := by decide +kernel
theorem dL_nextTold_4 : decode cL_nextTold 4 = .ok (.iload_n 2, 1) := by decide +kernel
theorem dL_nextTold_5 : decode cL_nextTold 5 = .ok (.invokevirtual 55, 3) := by decide +kernel
theorem dL_nextTold_8 : decode cL_nextTold 8 = .ok (.i2l, 1) := by decide +kernel
theorem dL_nextTold_9 : decode cL_nextTold 9 = .ok (.lastore, 1) := by decide +kernel
theorem dL_nextTold_10 : decode cL_nextTold 10 = .ok (.goto 7, 3) := by decide +kernel
theorem dL_nextTold_13 : decode cL_nextTold 13 = .ok (.astore 4, 2) := by decide +kernel
theorem dL_nextTold_15 : decode cL_nextTold 15 = .ok (.iconst 1, 1) := by decide +kernel
theorem dL_nextTold_16 : decode cL_nextTold 16 = .ok (.ireturn, 1) := by decide +kernel
theorem dL_nextTold_17 : decode cL_nextTold 17 = .ok (.iconst 0, 1) := by decide +kernel
theorem dL_nextTold_18 : decode cL_nextTold 18 = .ok (.ireturn, 1) := by decide +kernel
theorem dL_addPlace_0 : decode cL_addPlace 0 = .ok (.aload_n 2, 1) := by decide +kernel
theorem dL_addPlace_1 : decode cL_addPlace 1 = .ok (.iconst 0, 1) := by decide +kernel
theorem dL_addPlace_2 : decode cL_addPlace 2 = .ok (.aload_n 0, 1) := by decide +kernel
theorem dL_addPlace_3 : decode cL_addPlace 3 = .ok (.iload_n 1, 1) := by decide +kernel
theorem dL_addPlace_4 : decode cL_addPlace 4 = .ok (.invokevirtual 58, 3) := by decide +kernel
theorem dL_addPlace_7 : decode cL_addPlace 7 = .ok (.i2l, 1) := by decide +kernel
theorem dL_addPlace_8 : decode cL_addPlace 8 = .ok (.lastore, 1) := by decide +kernel
theorem dL_addPlace_9 : decode cL_addPlace 9 = .ok (.goto 9, 3) := by decide +kernel
theorem dL_addPlace_12 : decode cL_addPlace 12 = .ok (.astore_n 3, 1) := by decide +kernel
theorem dL_addPlace_13 : decode cL_addPlace 13 = .ok (.iconst 1, 1) := by decide +kernel
theorem dL_addPlace_14 : decode cL_addPlace 14 = .ok (.ireturn, 1) := by decide +kernel
theorem dL_addPlace_15 : decode cL_addPlace 15 = .ok (.astore_n 3, 1) := by decide +kernel
theorem dL_addPlace_16 : decode cL_addPlace 16 = .ok (.iconst 2, 1) := by decide +kernel
theorem dL_addPlace_17 : decode cL_addPlace 17 = .ok (.ireturn, 1) := by decide +kernel
theorem dL_addPlace_18 : decode cL_addPlace 18 = .ok (.iconst 0, 1) := by decide +kernel
theorem dL_addPlace_19 : decode cL_addPlace 19 = .ok (.ireturn, 1) := by decide +kernel
theorem dL_addTurn_0 : decode cL_addTurn 0 = .ok (.aload 8, 2) := by decide +kernel
theorem dL_addTurn_2 : decode cL_addTurn 2 = .ok (.iconst 0, 1) := by decide +kernel
theorem dL_addTurn_3 : decode cL_addTurn 3 = .ok (.aload_n 0, 1) := by decide +kernel
theorem dL_addTurn_4 : decode cL_addTurn 4 = .ok (.iload_n 1, 1) := by decide +kernel
theorem dL_addTurn_5 : decode cL_addTurn 5 = .ok (.iload_n 2, 1) := by decide +kernel
theorem dL_addTurn_6 : decode cL_addTurn 6 = .ok (.iload_n 3, 1) := by decide +kernel
theorem dL_addTurn_7 : decode cL_addTurn 7 = .ok (.iload 4, 2) := by decide +kernel
theorem dL_addTurn_9 : decode cL_addTurn 9 = .ok (.iload 5, 2) := by decide +kernel
theorem dL_addTurn_11 : decode cL_addTurn 11 = .ok (.iload 6, 2) := by decide +kernel
theorem dL_addTurn_13 : decode cL_addTurn 13 = .ok (.iload 7, 2) := by decide +kernel
theorem dL_addTurn_15 : decode cL_addTurn 15 = .ok (.invokevirtual 61, 3) := by decide +kernel
theorem dL_addTurn_18 : decode cL_addTurn 18 = .ok (.i2l, 1) := by decide +kernel
theorem dL_addTurn_19 : decode cL_addTurn 19 = .ok (.lastore, 1) := by decide +kernel
theorem dL_addTurn_20 : decode cL_addTurn 20 = .ok (.goto 15, 3) := by decide +kernel
theorem dL_addTurn_23 : decode cL_addTurn 23 = .ok (.astore 9, 2) := by decide +kernel
theorem dL_addTurn_25 : decode cL_addTurn 25 = .ok (.iconst 1, 1) := by decide +kernel
theorem dL_addTurn_26 : decode cL_addTurn 26 = .ok (.ireturn, 1) := by decide +kernel
theorem dL_addTurn_27 : decode cL_addTurn 27 = .ok (.astore 9, 2) := by decide +kernel
theorem dL_addTurn_29 : decode cL_addTurn 29 = .ok (.iconst 2, 1) := by decide +kernel
theorem dL_addTurn_30 : decode cL_addTurn 30 = .ok (.ireturn, 1) := by decide +kernel
theorem dL_addTurn_31 : decode cL_addTurn 31 = .ok (.astore 9, 2) := by decide +kernel
theorem dL_addTurn_33 : decode cL_addTurn 33 = .ok (.iconst 3, 1) := by decide +kernel
theorem dL_addTurn_34 : decode cL_addTurn 34 = .ok (.ireturn, 1) := by decide +kernel
theorem dL_addTurn_35 : decode cL_addTurn 35 = .ok (.iconst 0, 1) := by decide +kernel
theorem dL_addTurn_36 : decode cL_addTurn 36 = .ok (.ireturn, 1) := by decide +kernel
theorem dL_savingAt_0 : decode cL_savingAt 0 = .ok (.aload_n 3, 1) := by decide +kernel
theorem dL_savingAt_1 : decode cL_savingAt 1 = .ok (.iconst 0, 1) := by decide +kernel
theorem dL_savingAt_2 : decode cL_savingAt 2 = .ok (.aload_n 0, 1) := by decide +kernel
theorem dL_savingAt_3 : decode cL_savingAt 3 = .ok (.iload_n 1, 1) := by decide +kernel
theorem dL_savingAt_4 : decode cL_savingAt 4 = .ok (.iload_n 2, 1) := by decide +kernel
theorem dL_savingAt_5 : decode cL_savingAt 5 = .ok (.invokevirtual 65, 3) := by decide +kernel
theorem dL_savingAt_8 : decode cL_savingAt 8 = .ok (.i2l, 1) := by decide +kernel
theorem dL_savingAt_9 : decode cL_savingAt 9 = .ok (.lastore, 1) := by decide +kernel
theorem dL_savingAt_10 : decode cL_savingAt 10 = .ok (.goto 7, 3) := by decide +kernel
theorem dL_savingAt_13 : decode cL_savingAt 13 = .ok (.astore 4, 2) := by decide +kernel
theorem dL_savingAt_15 : decode cL_savingAt 15 = .ok (.iconst 1, 1) := by decide +kernel
theorem dL_savingAt_16 : decode cL_savingAt 16 = .ok (.ireturn, 1) := by decide +kernel
theorem dL_savingAt_17 : decode cL_savingAt 17 = .ok (.iconst 0, 1) := by decide +kernel
theorem dL_savingAt_18 : decode cL_savingAt 18 = .ok (.ireturn, 1) := by decide +kernel
theorem dL_localAt_0 : decode cL_localAt 0 = .ok (.aload_n 3, 1) := by decide +kernel
theorem dL_localAt_1 : decode cL_localAt 1 = .ok (.iconst 0, 1) := by decide +kernel
theorem dL_localAt_2 : decode cL_localAt 2 = .ok (.aload_n 0, 1) := by decide +kernel
theorem dL_localAt_3 : decode cL_localAt 3 = .ok (.iload_n 1, 1) := by decide +kernel
theorem dL_localAt_4 : decode cL_localAt 4 = .ok (.iload_n 2, 1) := by decide +kernel
theorem dL_localAt_5 : decode cL_localAt 5 = .ok (.invokevirtual 68, 3) := by decide +kernel
theorem dL_localAt_8 : decode cL_localAt 8 = .ok (.i2l, 1) := by decide +kernel
theorem dL_localAt_9 : decode cL_localAt 9 = .ok (.lastore, 1) := by decide +kernel
theorem dL_localAt_10 : decode cL_localAt 10 = .ok (.goto 7, 3) := by decide +kernel
theorem dL_localAt_13 : decode cL_localAt 13 = .ok (.astore 4, 2) := by decide +kernel
theorem dL_localAt_15 : decode cL_localAt 15 = .ok (.iconst 1, 1) := by decide +kernel
theorem dL_localAt_16 : decode cL_localAt 16 = .ok (.ireturn, 1) := by decide +kernel
theorem dL_localAt_17 : decode cL_localAt 17 = .ok (.iconst 0, 1) := by decide +kernel
theorem dL_localAt_18 : decode cL_localAt 18 = .ok (.ireturn, 1) := by decide +kernel
theorem dL_nextChange_0 : decode cL_nextChange 0 = .ok (.aload_n 3, 1) := by decide +kernel
theorem dL_nextChange_1 : decode cL_nextChange 1 = .ok (.iconst 0, 1) := by decide +kernel
theorem dL_nextChange_2 : decode cL_nextChange 2 = .ok (.aload_n 0, 1) := by decide +kernel
theorem dL_nextChange_3 : decode cL_nextChange 3 = .ok (.iload_n 1, 1) := by decide +kernel
theorem dL_nextChange_4 : decode cL_nextChange 4 = .ok (.iload_n 2, 1) := by decide +kernel
theorem dL_nextChange_5 : decode cL_nextChange 5 = .ok (.invokevirtual 71, 3) := by decide +kernel
theorem dL_nextChange_8 : decode cL_nextChange 8 = .ok (.i2l, 1) := by decide +kernel
theorem dL_nextChange_9 : decode cL_nextChange 9 = .ok (.lastore, 1) := by decide +kernel
theorem dL_nextChange_10 : decode cL_nextChange 10 = .ok (.goto 7, 3) := by decide +kernel
theorem dL_nextChange_13 : decode cL_nextChange 13 = .ok (.astore 4, 2) := by decide +kernel
theorem dL_nextChange_15 : decode cL_nextChange 15 = .ok (.iconst 1, 1) := by decide +kernel
theorem dL_nextChange_16 : decode cL_nextChange 16 = .ok (.ireturn, 1) := by decide +kernel
theorem dL_nextChange_17 : decode cL_nextChange 17 = .ok (.iconst 0, 1) := by decide +kernel
theorem dL_nextChange_18 : decode cL_nextChange 18 = .ok (.ireturn, 1) := by decide +kernel
theorem dL_showsOften_0 : decode cL_showsOften 0 = .ok (.aload_n 3, 1) := by decide +kernel
theorem dL_showsOften_1 : decode cL_showsOften 1 = .ok (.iconst 0, 1) := by decide +kernel
theorem dL_showsOften_2 : decode cL_showsOften 2 = .ok (.aload_n 0, 1) := by decide +kernel
theorem dL_showsOften_3 : decode cL_showsOften 3 = .ok (.iload_n 1, 1) := by decide +kernel
theorem dL_showsOften_4 : decode cL_showsOften 4 = .ok (.iload_n 2, 1) := by decide +kernel
theorem dL_showsOften_5 : decode cL_showsOften 5 = .ok (.invokevirtual 74, 3) := by decide +kernel
theorem dL_showsOften_8 : decode cL_showsOften 8 = .ok (.i2l, 1) := by decide +kernel
theorem dL_showsOften_9 : decode cL_showsOften 9 = .ok (.lastore, 1) := by decide +kernel
theorem dL_showsOften_10 : decode cL_showsOften 10 = .ok (.goto 7, 3) := by decide +kernel
theorem dL_showsOften_13 : decode cL_showsOften 13 = .ok (.astore 4, 2) := by decide +kernel
theorem dL_showsOften_15 : decode cL_showsOften 15 = .ok (.iconst 1, 1) := by decide +kernel
theorem dL_showsOften_16 : decode cL_showsOften 16 = .ok (.ireturn, 1) := by decide +kernel
theorem dL_showsOften_17 : decode cL_showsOften 17 = .ok (.iconst 0, 1) := by decide +kernel
theorem dL_showsOften_18 : decode cL_showsOften 18 = .ok (.ireturn, 1) := by decide +kernel
theorem dL_momentOf_0 : decode cL_momentOf 0 = .ok (.aload_n 3, 1) := by decide +kernel
theorem dL_momentOf_1 : decode cL_momentOf 1 = .ok (.iconst 0, 1) := by decide +kernel
theorem dL_momentOf_2 : decode cL_momentOf 2 = .ok (.aload_n 0, 1) := by decide +kernel
theorem dL_momentOf_3 : decode cL_momentOf 3 = .ok (.iload_n 1, 1) := by decide +kernel
theorem dL_momentOf_4 : decode cL_momentOf 4 = .ok (.iload_n 2, 1) := by decide +kernel
theorem dL_momentOf_5 : decode cL_momentOf 5 = .ok (.invokevirtual 77, 3) := by decide +kernel
theorem dL_momentOf_8 : decode cL_momentOf 8 = .ok (.i2l, 1) := by decide +kernel
theorem dL_momentOf_9 : decode cL_momentOf 9 = .ok (.lastore, 1) := by decide +kernel
theorem dL_momentOf_10 : decode cL_momentOf 10 = .ok (.goto 7, 3) := by decide +kernel
theorem dL_momentOf_13 : decode cL_momentOf 13 = .ok (.astore 4, 2) := by decide +kernel
theorem dL_momentOf_15 : decode cL_momentOf 15 = .ok (.iconst 1, 1) := by decide +kernel
theorem dL_momentOf_16 : decode cL_momentOf 16 = .ok (.ireturn, 1) := by decide +kernel
theorem dL_momentOf_17 : decode cL_momentOf 17 = .ok (.iconst 0, 1) := by decide +kernel
theorem dL_momentOf_18 : decode cL_momentOf 18 = .ok (.ireturn, 1) := by decide +kernel
theorem dL_lastMomentOf_0 : decode cL_lastMomentOf 0 = .ok (.aload_n 3, 1) := by decide +kernel
theorem dL_lastMomentOf_1 : decode cL_lastMomentOf 1 = .ok (.iconst 0, 1) := by decide +kernel
theorem dL_lastMomentOf_2 : decode cL_lastMomentOf 2 = .ok (.aload_n 0, 1) := by decide +kernel
theorem dL_lastMomentOf_3 : decode cL_lastMomentOf 3 = .ok (.iload_n 1, 1) := by decide +kernel
theorem dL_lastMomentOf_4 : decode cL_lastMomentOf 4 = .ok (.iload_n 2, 1) := by decide +kernel
theorem dL_lastMomentOf_5 : decode cL_lastMomentOf 5 = .ok (.invokevirtual 80, 3) := by decide +kernel
theorem dL_lastMomentOf_8 : decode cL_lastMomentOf 8 = .ok (.i2l, 1) := by decide +kernel
theorem dL_lastMomentOf_9 : decode cL_lastMomentOf 9 = .ok (.lastore, 1) := by decide +kernel
theorem dL_lastMomentOf_10 : decode cL_lastMomentOf 10 = .ok (.goto 7, 3) := by decide +kernel
theorem dL_lastMomentOf_13 : decode cL_lastMomentOf 13 = .ok (.astore 4, 2) := by decide +kernel
theorem dL_lastMomentOf_15 : decode cL_lastMomentOf 15 = .ok (.iconst 1, 1) := by decide +kernel
theorem dL_lastMomentOf_16 : decode cL_lastMomentOf 16 = .ok (.ireturn, 1) := by decide +kernel
theorem dL_lastMomentOf_17 : decode cL_lastMomentOf 17 = .ok (.iconst 0, 1) := by decide +kernel
theorem dL_lastMomentOf_18 : decode cL_lastMomentOf 18 = .ok (.ireturn, 1) := by decide +kernel
theorem dL_ahead_0 : decode cL_ahead 0 = .ok (.aload 4, 2) := by decide +kernel
theorem dL_ahead_2 : decode cL_ahead 2 = .ok (.iconst 0, 1) := by decide +kernel
theorem dL_ahead_3 : decode cL_ahead 3 = .ok (.aload_n 0, 1) := by decide +kernel
theorem dL_ahead_4 : decode cL_ahead 4 = .ok (.iload_n 1, 1) := by decide +kernel
theorem dL_ahead_5 : decode cL_ahead 5 = .ok (.iload_n 2, 1) := by decide +kernel
theorem dL_ahead_6 : decode cL_ahead 6 = .ok (.iload_n 3, 1) := by decide +kernel
theorem dL_ahead_7 : decode cL_ahead 7 = .ok (.invokevirtual 83, 3) := by decide +kernel
theorem dL_ahead_10 : decode cL_ahead 10 = .ok (.i2l, 1) := by decide +kernel
theorem dL_ahead_11 : decode cL_ahead 11 = .ok (.lastore, 1) := by decide +kernel
theorem dL_ahead_12 : decode cL_ahead 12 = .ok (.goto 7, 3) := by decide +kernel
theorem dL_ahead_15 : decode cL_ahead 15 = .ok (.astore 5, 2) := by decide +kernel
theorem dL_ahead_17 : decode cL_ahead 17 = .ok (.iconst 1, 1) := by decide +kernel
theorem dL_ahead_18 : decode cL_ahead 18 = .ok (.ireturn, 1) := by decide +kernel
theorem dL_ahead_19 : decode cL_ahead 19 = .ok (.iconst 0, 1) := by decide +kernel
theorem dL_ahead_20 : decode cL_ahead 20 = .ok (.ireturn, 1) := by decide +kernel
theorem dL_addSeries_0 : decode cL_addSeries 0 = .ok (.aload 6, 2) := by decide +kernel
theorem dL_addSeries_2 : decode cL_addSeries 2 = .ok (.iconst 0, 1) := by decide +kernel
theorem dL_addSeries_3 : decode cL_addSeries 3 = .ok (.aload_n 0, 1) := by decide +kernel
theorem dL_addSeries_4 : decode cL_addSeries 4 = .ok (.iload_n 1, 1) := by decide +kernel
theorem dL_addSeries_5 : decode cL_addSeries 5 = .ok (.iload_n 2, 1) := by decide +kernel
theorem dL_addSeries_6 : decode cL_addSeries 6 = .ok (.iload_n 3, 1) := by decide +kernel
theorem dL_addSeries_7 : decode cL_addSeries 7 = .ok (.iload 4, 2) := by decide +kernel
theorem dL_addSeries_9 : decode cL_addSeries 9 = .ok (.iload 5, 2) := by decide +kernel
theorem dL_addSeries_11 : decode cL_addSeries 11 = .ok (.invokevirtual 86, 3) := by decide +kernel
theorem dL_addSeries_14 : decode cL_addSeries 14 = .ok (.i2l, 1) := by decide +kernel
theorem dL_addSeries_15 : decode cL_addSeries 15 = .ok (.lastore, 1) := by decide +kernel
theorem dL_addSeries_16 : decode cL_addSeries 16 = .ok (.goto 15, 3) := by decide +kernel
theorem dL_addSeries_19 : decode cL_addSeries 19 = .ok (.astore 7, 2) := by decide +kernel
theorem dL_addSeries_21 : decode cL_addSeries 21 = .ok (.iconst 1, 1) := by decide +kernel
theorem dL_addSeries_22 : decode cL_addSeries 22 = .ok (.ireturn, 1) := by decide +kernel
theorem dL_addSeries_23 : decode cL_addSeries 23 = .ok (.astore 7, 2) := by decide +kernel
theorem dL_addSeries_25 : decode cL_addSeries 25 = .ok (.iconst 2, 1) := by decide +kernel
theorem dL_addSeries_26 : decode cL_addSeries 26 = .ok (.ireturn, 1) := by decide +kernel
theorem dL_addSeries_27 : decode cL_addSeries 27 = .ok (.astore 7, 2) := by decide +kernel
theorem dL_addSeries_29 : decode cL_addSeries 29 = .ok (.iconst 3, 1) := by decide +kernel
theorem dL_addSeries_30 : decode cL_addSeries 30 = .ok (.ireturn, 1) := by decide +kernel
theorem dL_addSeries_31 : decode cL_addSeries 31 = .ok (.iconst 0, 1) := by decide +kernel
theorem dL_addSeries_32 : decode cL_addSeries 32 = .ok (.ireturn, 1) := by decide +kernel
theorem dL_usePattern_0 : decode cL_usePattern 0 = .ok (.aload_n 3, 1) := by decide +kernel
theorem dL_usePattern_1 : decode cL_usePattern 1 = .ok (.iconst 0, 1) := by decide +kernel
theorem dL_usePattern_2 : decode cL_usePattern 2 = .ok (.aload_n 0, 1) := by decide +kernel
theorem dL_usePattern_3 : decode cL_usePattern 3 = .ok (.iload_n 1, 1) := by decide +kernel
theorem dL_usePattern_4 : decode cL_usePattern 4 = .ok (.iload_n 2, 1) := by decide +kernel
theorem dL_usePattern_5 : decode cL_usePattern 5 = .ok (.invokevirtual 90, 3) := by decide +kernel
theorem dL_usePattern_8 : decode cL_usePattern 8 = .ok (.i2l, 1) := by decide +kernel
theorem dL_usePattern_9 : decode cL_usePattern 9 = .ok (.lastore, 1) := by decide +kernel
theorem dL_usePattern_10 : decode cL_usePattern 10 = .ok (.goto 11, 3) := by decide +kernel
theorem dL_usePattern_13 : decode cL_usePattern 13 = .ok (.astore 4, 2) := by decide +kernel
theorem dL_usePattern_15 : decode cL_usePattern 15 = .ok (.iconst 1, 1) := by decide +kernel
theorem dL_usePattern_16 : decode cL_usePattern 16 = .ok (.ireturn, 1) := by decide +kernel
theorem dL_usePattern_17 : decode cL_usePattern 17 = .ok (.astore 4, 2) := by decide +kernel
theorem dL_usePattern_19 : decode cL_usePattern 19 = .ok (.iconst 2, 1) := by decide +kernel
theorem dL_usePattern_20 : decode cL_usePattern 20 = .ok (.ireturn, 1) := by decide +kernel
theorem dL_usePattern_21 : decode cL_usePattern 21 = .ok (.iconst 0, 1) := by decide +kernel
theorem dL_usePattern_22 : decode cL_usePattern 22 = .ok (.ireturn, 1) := by decide +kernel
theorem dL_setChoice_0 : decode cL_setChoice 0 = .ok (.aload_n 3, 1) := by decide +kernel
theorem dL_setChoice_1 : decode cL_setChoice 1 = .ok (.iconst 0, 1) := by decide +kernel
theorem dL_setChoice_2 : decode cL_setChoice 2 = .ok (.aload_n 0, 1) := by decide +kernel
theorem dL_setChoice_3 : decode cL_setChoice 3 = .ok (.iload_n 1, 1) := by decide +kernel
theorem dL_setChoice_4 : decode cL_setChoice 4 = .ok (.iload_n 2, 1) := by decide +kernel
theorem dL_setChoice_5 : decode cL_setChoice 5 = .ok (.invokevirtual 93, 3) := by decide +kernel
theorem dL_setChoice_8 : decode cL_setChoice 8 = .ok (.i2l, 1) := by decide +kernel
theorem dL_setChoice_9 : decode cL_setChoice 9 = .ok (.lastore, 1) := by decide +kernel
theorem dL_setChoice_10 : decode cL_setChoice 10 = .ok (.goto 11, 3) := by decide +kernel
theorem dL_setChoice_13 : decode cL_setChoice 13 = .ok (.astore 4, 2) := by decide +kernel
theorem dL_setChoice_15 : decode cL_setChoice 15 = .ok (.iconst 1, 1) := by decide +kernel
theorem dL_setChoice_16 : decode cL_setChoice 16 = .ok (.ireturn, 1) := by decide +kernel
theorem dL_setChoice_17 : decode cL_setChoice 17 = .ok (.astore 4, 2) := by decide +kernel
theorem dL_setChoice_19 : decode cL_setChoice 19 = .ok (.iconst 2, 1) := by decide +kernel
theorem dL_setChoice_20 : decode cL_setChoice 20 = .ok (.ireturn, 1) := by decide +kernel
theorem dL_setChoice_21 : decode cL_setChoice 21 = .ok (.iconst 0, 1) := by decide +kernel
theorem dL_setChoice_22 : decode cL_setChoice 22 = .ok (.ireturn, 1) := by decide +kernel
theorem dL_setMost_0 : decode cL_setMost 0 = .ok (.aload_n 3, 1) := by decide +kernel
theorem dL_setMost_1 : decode cL_setMost 1 = .ok (.iconst 0, 1) := by decide +kernel
theorem dL_setMost_2 : decode cL_setMost 2 = .ok (.aload_n 0, 1) := by decide +kernel
theorem dL_setMost_3 : decode cL_setMost 3 = .ok (.iload_n 1, 1) := by decide +kernel
theorem dL_setMost_4 : decode cL_setMost 4 = .ok (.iload_n 2, 1) := by decide +kernel
theorem dL_setMost_5 : decode cL_setMost 5 = .ok (.invokevirtual 96, 3) := by decide +kernel
theorem dL_setMost_8 : decode cL_setMost 8 = .ok (.i2l, 1) := by decide +kernel
theorem dL_setMost_9 : decode cL_setMost 9 = .ok (.lastore, 1) := by decide +kernel
theorem dL_setMost_10 : decode cL_setMost 10 = .ok (.goto 11, 3) := by decide +kernel
theorem dL_setMost_13 : decode cL_setMost 13 = .ok (.astore 4, 2) := by decide +kernel
theorem dL_setMost_15 : decode cL_setMost 15 = .ok (.iconst 1, 1) := by decide +kernel
theorem dL_setMost_16 : decode cL_setMost 16 = .ok (.ireturn, 1) := by decide +kernel
theorem dL_setMost_17 : decode cL_setMost 17 = .ok (.astore 4, 2) := by decide +kernel
theorem dL_setMost_19 : decode cL_setMost 19 = .ok (.iconst 2, 1) := by decide +kernel
theorem dL_setMost_20 : decode cL_setMost 20 = .ok (.ireturn, 1) := by decide +kernel
theorem dL_setMost_21 : decode cL_setMost 21 = .ok (.iconst 0, 1) := by decide +kernel
theorem dL_setMost_22 : decode cL_setMost 22 = .ok (.ireturn, 1) := by decide +kernel
theorem dL_setLast_0 : decode cL_setLast 0 = .ok (.aload_n 3, 1) := by decide +kernel
theorem dL_setLast_1 : decode cL_setLast 1 = .ok (.iconst 0, 1) := by decide +kernel
theorem dL_setLast_2 : decode cL_setLast 2 = .ok (.aload_n 0, 1) := by decide +kernel
theorem dL_setLast_3 : decode cL_setLast 3 = .ok (.iload_n 1, 1) := by decide +kernel
theorem dL_setLast_4 : decode cL_setLast 4 = .ok (.iload_n 2, 1) := by decide +kernel
theorem dL_setLast_5 : decode cL_setLast 5 = .ok (.invokevirtual 99, 3) := by decide +kernel
theorem dL_setLast_8 : decode cL_setLast 8 = .ok (.i2l, 1) := by decide +kernel
theorem dL_setLast_9 : decode cL_setLast 9 = .ok (.lastore, 1) := by decide +kernel
theorem dL_setLast_10 : decode cL_setLast 10 = .ok (.goto 11, 3) := by decide +kernel
theorem dL_setLast_13 : decode cL_setLast 13 = .ok (.astore 4, 2) := by decide +kernel
theorem dL_setLast_15 : decode cL_setLast 15 = .ok (.iconst 1, 1) := by decide +kernel
theorem dL_setLast_16 : decode cL_setLast 16 = .ok (.ireturn, 1) := by decide +kernel
theorem dL_setLast_17 : decode cL_setLast 17 = .ok (.astore 4, 2) := by decide +kernel
theorem dL_setLast_19 : decode cL_setLast 19 = .ok (.iconst 2, 1) := by decide +kernel
theorem dL_setLast_20 : decode cL_setLast 20 = .ok (.ireturn, 1) := by decide +kernel
theorem dL_setLast_21 : decode cL_setLast 21 = .ok (.iconst 0, 1) := by decide +kernel
theorem dL_setLast_22 : decode cL_setLast 22 = .ok (.ireturn, 1) := by decide +kernel
theorem dL_except_0 : decode cL_except 0 = .ok (.aload_n 3, 1) := by decide +kernel
theorem dL_except_1 : decode cL_except 1 = .ok (.iconst 0, 1) := by decide +kernel
theorem dL_except_2 : decode cL_except 2 = .ok (.aload_n 0, 1) := by decide +kernel
theorem dL_except_3 : decode cL_except 3 = .ok (.iload_n 1, 1) := by decide +kernel
theorem dL_except_4 : decode cL_except 4 = .ok (.iload_n 2, 1) := by decide +kernel
theorem dL_except_5 : decode cL_except 5 = .ok (.invokevirtual 102, 3) := by decide +kernel
theorem dL_except_8 : decode cL_except 8 = .ok (.i2l, 1) := by decide +kernel
theorem dL_except_9 : decode cL_except 9 = .ok (.lastore, 1) := by decide +kernel
theorem dL_except_10 : decode cL_except 10 = .ok (.goto 11, 3) := by decide +kernel
theorem dL_except_13 : decode cL_except 13 = .ok (.astore 4, 2) := by decide +kernel
theorem dL_except_15 : decode cL_except 15 = .ok (.iconst 1, 1) := by decide +kernel
theorem dL_except_16 : decode cL_except 16 = .ok (.ireturn, 1) := by decide +kernel
theorem dL_except_17 : decode cL_except 17 = .ok (.astore 4, 2) := by decide +kernel
theorem dL_except_19 : decode cL_except 19 = .ok (.iconst 2, 1) := by decide +kernel
theorem dL_except_20 : decode cL_except 20 = .ok (.ireturn, 1) := by decide +kernel
theorem dL_except_21 : decode cL_except 21 = .ok (.iconst 0, 1) := by decide +kernel
theorem dL_except_22 : decode cL_except 22 = .ok (.ireturn, 1) := by decide +kernel
theorem dL_dates_0 : decode cL_dates 0 = .ok (.aload_n 2, 1) := by decide +kernel
theorem dL_dates_1 : decode cL_dates 1 = .ok (.iconst 0, 1) := by decide +kernel
theorem dL_dates_2 : decode cL_dates 2 = .ok (.aload_n 0, 1) := by decide +kernel
theorem dL_dates_3 : decode cL_dates 3 = .ok (.iload_n 1, 1) := by decide +kernel
theorem dL_dates_4 : decode cL_dates 4 = .ok (.invokevirtual 105, 3) := by decide +kernel
theorem dL_dates_7 : decode cL_dates 7 = .ok (.i2l, 1) := by decide +kernel
theorem dL_dates_8 : decode cL_dates 8 = .ok (.lastore, 1) := by decide +kernel
theorem dL_dates_9 : decode cL_dates 9 = .ok (.goto 6, 3) := by decide +kernel
theorem dL_dates_12 : decode cL_dates 12 = .ok (.astore_n 3, 1) := by decide +kernel
theorem dL_dates_13 : decode cL_dates 13 = .ok (.iconst 1, 1) := by decide +kernel
theorem dL_dates_14 : decode cL_dates 14 = .ok (.ireturn, 1) := by decide +kernel
theorem dL_dates_15 : decode cL_dates 15 = .ok (.iconst 0, 1) := by decide +kernel
theorem dL_dates_16 : decode cL_dates 16 = .ok (.ireturn, 1) := by decide +kernel
theorem dL_dateAt_0 : decode cL_dateAt 0 = .ok (.aload_n 3, 1) := by decide +kernel
theorem dL_dateAt_1 : decode cL_dateAt 1 = .ok (.iconst 0, 1) := by decide +kernel
theorem dL_dateAt_2 : decode cL_dateAt 2 = .ok (.aload_n 0, 1) := by decide +kernel
theorem dL_dateAt_3 : decode cL_dateAt 3 = .ok (.iload_n 1, 1) := by decide +kernel
theorem dL_dateAt_4 : decode cL_dateAt 4 = .ok (.iload_n 2, 1) := by decide +kernel
theorem dL_dateAt_5 : decode cL_dateAt 5 = .ok (.invokevirtual 108, 3) := by decide +kernel
theorem dL_dateAt_8 : decode cL_dateAt 8 = .ok (.i2l, 1) := by decide +kernel
theorem dL_dateAt_9 : decode cL_dateAt 9 = .ok (.lastore, 1) := by decide +kernel
theorem dL_dateAt_10 : decode cL_dateAt 10 = .ok (.goto 7, 3) := by decide +kernel
theorem dL_dateAt_13 : decode cL_dateAt 13 = .ok (.astore 4, 2) := by decide +kernel
theorem dL_dateAt_15 : decode cL_dateAt 15 = .ok (.iconst 1, 1) := by decide +kernel
theorem dL_dateAt_16 : decode cL_dateAt 16 = .ok (.ireturn, 1) := by decide +kernel
theorem dL_dateAt_17 : decode cL_dateAt 17 = .ok (.iconst 0, 1) := by decide +kernel
theorem dL_dateAt_18 : decode cL_dateAt 18 = .ok (.ireturn, 1) := by decide +kernel
theorem dL_dateFrom_0 : decode cL_dateFrom 0 = .ok (.aload_n 3, 1) := by decide +kernel
theorem dL_dateFrom_1 : decode cL_dateFrom 1 = .ok (.iconst 0, 1) := by decide +kernel
theorem dL_dateFrom_2 : decode cL_dateFrom 2 = .ok (.aload_n 0, 1) := by decide +kernel
theorem dL_dateFrom_3 : decode cL_dateFrom 3 = .ok (.iload_n 1, 1) := by decide +kernel
theorem dL_dateFrom_4 : decode cL_dateFrom 4 = .ok (.iload_n 2, 1) := by decide +kernel
theorem dL_dateFrom_5 : decode cL_dateFrom 5 = .ok (.invokevirtual 111, 3) := by decide +kernel
theorem dL_dateFrom_8 : decode cL_dateFrom 8 = .ok (.i2l, 1) := by decide +kernel
theorem dL_dateFrom_9 : decode cL_dateFrom 9 = .ok (.lastore, 1) := by decide +kernel
theorem dL_dateFrom_10 : decode cL_dateFrom 10 = .ok (.goto 7, 3) := by decide +kernel
theorem dL_dateFrom_13 : decode cL_dateFrom 13 = .ok (.astore 4, 2) := by decide +kernel
theorem dL_dateFrom_15 : decode cL_dateFrom 15 = .ok (.iconst 1, 1) := by decide +kernel
theorem dL_dateFrom_16 : decode cL_dateFrom 16 = .ok (.ireturn, 1) := by decide +kernel
theorem dL_dateFrom_17 : decode cL_dateFrom 17 = .ok (.iconst 0, 1) := by decide +kernel
theorem dL_dateFrom_18 : decode cL_dateFrom 18 = .ok (.ireturn, 1) := by decide +kernel
theorem dL_dateMoment_0 : decode cL_dateMoment 0 = .ok (.aload_n 3, 1) := by decide +kernel
theorem dL_dateMoment_1 : decode cL_dateMoment 1 = .ok (.iconst 0, 1) := by decide +kernel
theorem dL_dateMoment_2 : decode cL_dateMoment 2 = .ok (.aload_n 0, 1) := by decide +kernel
theorem dL_dateMoment_3 : decode cL_dateMoment 3 = .ok (.iload_n 1, 1) := by decide +kernel
theorem dL_dateMoment_4 : decode cL_dateMoment 4 = .ok (.iload_n 2, 1) := by decide +kernel
theorem dL_dateMoment_5 : decode cL_dateMoment 5 = .ok (.invokevirtual 114, 3) := by decide +kernel
theorem dL_dateMoment_8 : decode cL_dateMoment 8 = .ok (.i2l, 1) := by decide +kernel
theorem dL_dateMoment_9 : decode cL_dateMoment 9 = .ok (.lastore, 1) := by decide +kernel
theorem dL_dateMoment_10 : decode cL_dateMoment 10 = .ok (.goto 7, 3) := by decide +kernel
theorem dL_dateMoment_13 : decode cL_dateMoment 13 = .ok (.astore 4, 2) := by decide +kernel
theorem dL_dateMoment_15 : decode cL_dateMoment 15 = .ok (.iconst 1, 1) := by decide +kernel
theorem dL_dateMoment_16 : decode cL_dateMoment 16 = .ok (.ireturn, 1) := by decide +kernel
theorem dL_dateMoment_17 : decode cL_dateMoment 17 = .ok (.iconst 0, 1) := by decide +kernel
theorem dL_dateMoment_18 : decode cL_dateMoment 18 = .ok (.ireturn, 1) := by decide +kernel
theorem dL_common_0 : decode cL_common 0 = .ok (.aload_n 3, 1) := by decide +kernel
theorem dL_common_1 : decode cL_common 1 = .ok (.iconst 0, 1) := by decide +kernel
theorem dL_common_2 : decode cL_common 2 = .ok (.aload_n 0, 1) := by decide +kernel
theorem dL_common_3 : decode cL_common 3 = .ok (.iload_n 1, 1) := by decide +kernel
theorem dL_common_4 : decode cL_common 4 = .ok (.iload_n 2, 1) := by decide +kernel
theorem dL_common_5 : decode cL_common 5 = .ok (.invokevirtual 117, 3) := by decide +kernel
theorem dL_common_8 : decode cL_common 8 = .ok (.i2l, 1) := by decide +kernel
theorem dL_common_9 : decode cL_common 9 = .ok (.lastore, 1) := by decide +kernel
theorem dL_common_10 : decode cL_common 10 = .ok (.goto 7, 3) := by decide +kernel
theorem dL_common_13 : decode cL_common 13 = .ok (.astore 4, 2) := by decide +kernel
theorem dL_common_15 : decode cL_common 15 = .ok (.iconst 1, 1) := by decide +kernel
theorem dL_common_16 : decode cL_common 16 = .ok (.ireturn, 1) := by decide +kernel
theorem dL_common_17 : decode cL_common 17 = .ok (.iconst 0, 1) := by decide +kernel
theorem dL_common_18 : decode cL_common 18 = .ok (.ireturn, 1) := by decide +kernel
theorem dL_widestGap_0 : decode cL_widestGap 0 = .ok (.aload_n 2, 1) := by decide +kernel
theorem dL_widestGap_1 : decode cL_widestGap 1 = .ok (.iconst 0, 1) := by decide +kernel
theorem dL_widestGap_2 : decode cL_widestGap 2 = .ok (.aload_n 0, 1) := by decide +kernel
theorem dL_widestGap_3 : decode cL_widestGap 3 = .ok (.iload_n 1, 1) := by decide +kernel
theorem dL_widestGap_4 : decode cL_widestGap 4 = .ok (.invokevirtual 120, 3) := by decide +kernel
theorem dL_widestGap_7 : decode cL_widestGap 7 = .ok (.i2l, 1) := by decide +kernel
theorem dL_widestGap_8 : decode cL_widestGap 8 = .ok (.lastore, 1) := by decide +kernel
theorem dL_widestGap_9 : decode cL_widestGap 9 = .ok (.goto 6, 3) := by decide +kernel
theorem dL_widestGap_12 : decode cL_widestGap 12 = .ok (.astore_n 3, 1) := by decide +kernel
theorem dL_widestGap_13 : decode cL_widestGap 13 = .ok (.iconst 1, 1) := by decide +kernel
theorem dL_widestGap_14 : decode cL_widestGap 14 = .ok (.ireturn, 1) := by decide +kernel
theorem dL_widestGap_15 : decode cL_widestGap 15 = .ok (.iconst 0, 1) := by decide +kernel
theorem dL_widestGap_16 : decode cL_widestGap 16 = .ok (.ireturn, 1) := by decide +kernel
theorem dL_setWorkPlace_0 : decode cL_setWorkPlace 0 = .ok (.aload_n 2, 1) := by decide +kernel
theorem dL_setWorkPlace_1 : decode cL_setWorkPlace 1 = .ok (.iconst 0, 1) := by decide +kernel
theorem dL_setWorkPlace_2 : decode cL_setWorkPlace 2 = .ok (.aload_n 0, 1) := by decide +kernel
theorem dL_setWorkPlace_3 : decode cL_setWorkPlace 3 = .ok (.iload_n 1, 1) := by decide +kernel
theorem dL_setWorkPlace_4 : decode cL_setWorkPlace 4 = .ok (.invokevirtual 123, 3) := by decide +kernel
theorem dL_setWorkPlace_7 : decode cL_setWorkPlace 7 = .ok (.i2l, 1) := by decide +kernel
theorem dL_setWorkPlace_8 : decode cL_setWorkPlace 8 = .ok (.lastore, 1) := by decide +kernel
theorem dL_setWorkPlace_9 : decode cL_setWorkPlace 9 = .ok (.goto 6, 3) := by decide +kernel
theorem dL_setWorkPlace_12 : decode cL_setWorkPlace 12 = .ok (.astore_n 3, 1) := by decide +kernel
theorem dL_setWorkPlace_13 : decode cL_setWorkPlace 13 = .ok (.iconst 1, 1) := by decide +kernel
theorem dL_setWorkPlace_14 : decode cL_setWorkPlace 14 = .ok (.ireturn, 1) := by decide +kernel
theorem dL_setWorkPlace_15 : decode cL_setWorkPlace 15 = .ok (.iconst 0, 1) := by decide +kernel
theorem dL_setWorkPlace_16 : decode cL_setWorkPlace 16 = .ok (.ireturn, 1) := by decide +kernel
theorem dL_setWeek_0 : decode cL_setWeek 0 = .ok (.aload_n 2, 1) := by decide +kernel
theorem dL_setWeek_1 : decode cL_setWeek 1 = .ok (.iconst 0, 1) := by decide +kernel
theorem dL_setWeek_2 : decode cL_setWeek 2 = .ok (.aload_n 0, 1) := by decide +kernel
theorem dL_setWeek_3 : decode cL_setWeek 3 = .ok (.iload_n 1, 1) := by decide +kernel
theorem dL_setWeek_4 : decode cL_setWeek 4 = .ok (.invokevirtual 126, 3) := by decide +kernel
theorem dL_setWeek_7 : decode cL_setWeek 7 = .ok (.i2l, 1) := by decide +kernel
theorem dL_setWeek_8 : decode cL_setWeek 8 = .ok (.lastore, 1) := by decide +kernel
theorem dL_setWeek_9 : decode cL_setWeek 9 = .ok (.goto 6, 3) := by decide +kernel
theorem dL_setWeek_12 : decode cL_setWeek 12 = .ok (.astore_n 3, 1) := by decide +kernel
theorem dL_setWeek_13 : decode cL_setWeek 13 = .ok (.iconst 1, 1) := by decide +kernel
theorem dL_setWeek_14 : decode cL_setWeek 14 = .ok (.ireturn, 1) := by decide +kernel
theorem dL_setWeek_15 : decode cL_setWeek 15 = .ok (.iconst 0, 1) := by decide +kernel
theorem dL_setWeek_16 : decode cL_setWeek 16 = .ok (.ireturn, 1) := by decide +kernel
theorem dL_setHours_0 : decode cL_setHours 0 = .ok (.aload_n 3, 1) := by decide +kernel
theorem dL_setHours_1 : decode cL_setHours 1 = .ok (.iconst 0, 1) := by decide +kernel
theorem dL_setHours_2 : decode cL_setHours 2 = .ok (.aload_n 0, 1) := by decide +kernel
theorem dL_setHours_3 : decode cL_setHours 3 = .ok (.iload_n 1, 1) := by decide +kernel
theorem dL_setHours_4 : decode cL_setHours 4 = .ok (.iload_n 2, 1) := by decide +kernel
theorem dL_setHours_5 : decode cL_setHours 5 = .ok (.invokevirtual 129, 3) := by decide +kernel
theorem dL_setHours_8 : decode cL_setHours 8 = .ok (.i2l, 1) := by decide +kernel
theorem dL_setHours_9 : decode cL_setHours 9 = .ok (.lastore, 1) := by decide +kernel
theorem dL_setHours_10 : decode cL_setHours 10 = .ok (.goto 7, 3) := by decide +kernel
theorem dL_setHours_13 : decode cL_setHours 13 = .ok (.astore 4, 2) := by decide +kernel
theorem dL_setHours_15 : decode cL_setHours 15 = .ok (.iconst 1, 1) := by decide +kernel
theorem dL_setHours_16 : decode cL_setHours 16 = .ok (.ireturn, 1) := by decide +kernel
theorem dL_setHours_17 : decode cL_setHours 17 = .ok (.iconst 0, 1) := by decide +kernel
theorem dL_setHours_18 : decode cL_setHours 18 = .ok (.ireturn, 1) := by decide +kernel
theorem dL_addFeast_0 : decode cL_addFeast 0 = .ok (.aload 5, 2) := by decide +kernel
theorem dL_addFeast_2 : decode cL_addFeast 2 = .ok (.iconst 0, 1) := by decide +kernel
theorem dL_addFeast_3 : decode cL_addFeast 3 = .ok (.aload_n 0, 1) := by decide +kernel
theorem dL_addFeast_4 : decode cL_addFeast 4 = .ok (.iload_n 1, 1) := by decide +kernel
theorem dL_addFeast_5 : decode cL_addFeast 5 = .ok (.iload_n 2, 1) := by decide +kernel
theorem dL_addFeast_6 : decode cL_addFeast 6 = .ok (.iload_n 3, 1) := by decide +kernel
theorem dL_addFeast_7 : decode cL_addFeast 7 = .ok (.iload 4, 2) := by decide +kernel
theorem dL_addFeast_9 : decode cL_addFeast 9 = .ok (.invokevirtual 132, 3) := by decide +kernel
theorem dL_addFeast_12 : decode cL_addFeast 12 = .ok (.i2l, 1) := by decide +kernel
theorem dL_addFeast_13 : decode cL_addFeast 13 = .ok (.lastore, 1) := by decide +kernel
theorem dL_addFeast_14 : decode cL_addFeast 14 = .ok (.goto 15, 3) := by decide +kernel
theorem dL_addFeast_17 : decode cL_addFeast 17 = .ok (.astore 6, 2) := by decide +kernel
theorem dL_addFeast_19 : decode cL_addFeast 19 = .ok (.iconst 1, 1) := by decide +kernel
theorem dL_addFeast_20 : decode cL_addFeast 20 = .ok (.ireturn, 1) := by decide +kernel
theorem dL_addFeast_21 : decode cL_addFeast 21 = .ok (.astore 6, 2) := by decide +kernel
theorem dL_addFeast_23 : decode cL_addFeast 23 = .ok (.iconst 2, 1) := by decide +kernel
theorem dL_addFeast_24 : decode cL_addFeast 24 = .ok (.ireturn, 1) := by decide +kernel
theorem dL_addFeast_25 : decode cL_addFeast 25 = .ok (.astore 6, 2) := by decide +kernel
theorem dL_addFeast_27 : decode cL_addFeast 27 = .ok (.iconst 3, 1) := by decide +kernel
theorem dL_addFeast_28 : decode cL_addFeast 28 = .ok (.ireturn, 1) := by decide +kernel
theorem dL_addFeast_29 : decode cL_addFeast 29 = .ok (.iconst 0, 1) := by decide +kernel
theorem dL_addFeast_30 : decode cL_addFeast 30 = .ok (.ireturn, 1) := by decide +kernel
theorem dL_feastOn_0 : decode cL_feastOn 0 = .ok (.aload_n 2, 1) := by decide +kernel
theorem dL_feastOn_1 : decode cL_feastOn 1 = .ok (.iconst 0, 1) := by decide +kernel
theorem dL_feastOn_2 : decode cL_feastOn 2 = .ok (.aload_n 0, 1) := by decide +kernel
theorem dL_feastOn_3 : decode cL_feastOn 3 = .ok (.iload_n 1, 1) := by decide +kernel
theorem dL_feastOn_4 : decode cL_feastOn 4 = .ok (.invokevirtual 136, 3) := by decide +kernel
theorem dL_feastOn_7 : decode cL_feastOn 7 = .ok (.i2l, 1) := by decide +kernel
theorem dL_feastOn_8 : decode cL_feastOn 8 = .ok (.lastore, 1) := by decide +kernel
theorem dL_feastOn_9 : decode cL_feastOn 9 = .ok (.goto 6, 3) := by decide +kernel
theorem dL_feastOn_12 : decode cL_feastOn 12 = .ok (.astore_n 3, 1) := by decide +kernel
theorem dL_feastOn_13 : decode cL_feastOn 13 = .ok (.iconst 1, 1) := by decide +kernel
theorem dL_feastOn_14 : decode cL_feastOn 14 = .ok (.ireturn, 1) := by decide +kernel
theorem dL_feastOn_15 : decode cL_feastOn 15 = .ok (.iconst 0, 1) := by decide +kernel
theorem dL_feastOn_16 : decode cL_feastOn 16 = .ok (.ireturn, 1) := by decide +kernel
theorem dL_isWorking_0 : decode cL_isWorking 0 = .ok (.aload_n 2, 1) := by decide +kernel
theorem dL_isWorking_1 : decode cL_isWorking 1 = .ok (.iconst 0, 1) := by decide +kernel
theorem dL_isWorking_2 : decode cL_isWorking 2 = .ok (.aload_n 0, 1) := by decide +kernel
theorem dL_isWorking_3 : decode cL_isWorking 3 = .ok (.iload_n 1, 1) := by decide +kernel
theorem dL_isWorking_4 : decode cL_isWorking 4 = .ok (.invokevirtual 139, 3) := by decide +kernel
theorem dL_isWorking_7 : decode cL_isWorking 7 = .ok (.ifCond .eq 7, 3) := by decide +kernel
theorem dL_isWorking_10 : decode cL_isWorking 10 = .ok (.lconst 1, 1) := by decide +kernel
theorem dL_isWorking_11 : decode cL_isWorking 11 = .ok (.goto 4, 3) := by decide +kernel
theorem dL_isWorking_14 : decode cL_isWorking 14 = .ok (.lconst 0, 1) := by decide +kernel
theorem dL_isWorking_15 : decode cL_isWorking 15 = .ok (.lastore, 1) := by decide +kernel
theorem dL_isWorking_16 : decode cL_isWorking 16 = .ok (.goto 6, 3) := by decide +kernel
theorem dL_isWorking_19 : decode cL_isWorking 19 = .ok (.astore_n 3, 1) := by decide +kernel
theorem dL_isWorking_20 : decode cL_isWorking 20 = .ok (.iconst 1, 1) := by decide +kernel
theorem dL_isWorking_21 : decode cL_isWorking 21 = .ok (.ireturn, 1) := by decide +kernel
theorem dL_isWorking_22 : decode cL_isWorking 22 = .ok (.iconst 0, 1) := by decide +kernel
theorem dL_isWorking_23 : decode cL_isWorking 23 = .ok (.ireturn, 1) := by decide +kernel
theorem dL_workingDays_0 : decode cL_workingDays 0 = .ok (.aload_n 3, 1) := by decide +kernel
theorem dL_workingDays_1 : decode cL_workingDays 1 = .ok (.iconst 0, 1) := by decide +kernel
theorem dL_workingDays_2 : decode cL_workingDays 2 = .ok (.aload_n 0, 1) := by decide +kernel
theorem dL_workingDays_3 : decode cL_workingDays 3 = .ok (.iload_n 1, 1) := by decide +kernel
theorem dL_workingDays_4 : decode cL_workingDays 4 = .ok (.iload_n 2, 1) := by decide +kernel
theorem dL_workingDays_5 : decode cL_workingDays 5 = .ok (.invokevirtual 143, 3) := by decide +kernel
theorem dL_workingDays_8 : decode cL_workingDays 8 = .ok (.i2l, 1) := by decide +kernel
theorem dL_workingDays_9 : decode cL_workingDays 9 = .ok (.lastore, 1) := by decide +kernel
theorem dL_workingDays_10 : decode cL_workingDays 10 = .ok (.goto 11, 3) := by decide +kernel
theorem dL_workingDays_13 : decode cL_workingDays 13 = .ok (.astore 4, 2) := by decide +kernel
theorem dL_workingDays_15 : decode cL_workingDays 15 = .ok (.iconst 1, 1) := by decide +kernel
theorem dL_workingDays_16 : decode cL_workingDays 16 = .ok (.ireturn, 1) := by decide +kernel
theorem dL_workingDays_17 : decode cL_workingDays 17 = .ok (.astore 4, 2) := by decide +kernel
theorem dL_workingDays_19 : decode cL_workingDays 19 = .ok (.iconst 2, 1) := by decide +kernel
theorem dL_workingDays_20 : decode cL_workingDays 20 = .ok (.ireturn, 1) := by decide +kernel
theorem dL_workingDays_21 : decode cL_workingDays 21 = .ok (.iconst 0, 1) := by decide +kernel
theorem dL_workingDays_22 : decode cL_workingDays 22 = .ok (.ireturn, 1) := by decide +kernel
theorem dL_plusWorking_0 : decode cL_plusWorking 0 = .ok (.aload_n 3, 1) := by decide +kernel
theorem dL_plusWorking_1 : decode cL_plusWorking 1 = .ok (.iconst 0, 1) := by decide +kernel
theorem dL_plusWorking_2 : decode cL_plusWorking 2 = .ok (.aload_n 0, 1) := by decide +kernel
theorem dL_plusWorking_3 : decode cL_plusWorking 3 = .ok (.iload_n 1, 1) := by decide +kernel
theorem dL_plusWorking_4 : decode cL_plusWorking 4 = .ok (.iload_n 2, 1) := by decide +kernel
theorem dL_plusWorking_5 : decode cL_plusWorking 5 = .ok (.invokevirtual 146, 3) := by decide +kernel
theorem dL_plusWorking_8 : decode cL_plusWorking 8 = .ok (.i2l, 1) := by decide +kernel
theorem dL_plusWorking_9 : decode cL_plusWorking 9 = .ok (.lastore, 1) := by decide +kernel
theorem dL_plusWorking_10 : decode cL_plusWorking 10 = .ok (.goto 11, 3) := by decide +kernel
theorem dL_plusWorking_13 : decode cL_plusWorking 13 = .ok (.astore 4, 2) := by decide +kernel
theorem dL_plusWorking_15 : decode cL_plusWorking 15 = .ok (.iconst 1, 1) := by decide +kernel
theorem dL_plusWorking_16 : decode cL_plusWorking 16 = .ok (.ireturn, 1) := by decide +kernel
theorem dL_plusWorking_17 : decode cL_plusWorking 17 = .ok (.astore 4, 2) := by decide +kernel
theorem dL_plusWorking_19 : decode cL_plusWorking 19 = .ok (.iconst 2, 1) := by decide +kernel
theorem dL_plusWorking_20 : decode cL_plusWorking 20 = .ok (.ireturn, 1) := by decide +kernel
theorem dL_plusWorking_21 : decode cL_plusWorking 21 = .ok (.iconst 0, 1) := by decide +kernel
theorem dL_plusWorking_22 : decode cL_plusWorking 22 = .ok (.ireturn, 1) := by decide +kernel
theorem dL_isWorkingMinute_0 : decode cL_isWorkingMinute 0 = .ok (.aload_n 2, 1) := by decide +kernel
theorem dL_isWorkingMinute_1 : decode cL_isWorkingMinute 1 = .ok (.iconst 0, 1) := by decide +kernel
theorem dL_isWorkingMinute_2 : decode cL_isWorkingMinute 2 = .ok (.aload_n 0, 1) := by decide +kernel
theorem dL_isWorkingMinute_3 : decode cL_isWorkingMinute 3 = .ok (.iload_n 1, 1) := by decide +kernel
theorem dL_isWorkingMinute_4 : decode cL_isWorkingMinute 4 = .ok (.invokevirtual 149, 3) := by decide +kernel
theorem dL_isWorkingMinute_7 : decode cL_isWorkingMinute 7 = .ok (.ifCond .eq 7, 3) := by decide +kernel
theorem dL_isWorkingMinute_10 : decode cL_isWorkingMinute 10 = .ok (.lconst 1, 1) := by decide +kernel
theorem dL_isWorkingMinute_11 : decode cL_isWorkingMinute 11 = .ok (.goto 4, 3) := by decide +kernel
theorem dL_isWorkingMinute_14 : decode cL_isWorkingMinute 14 = .ok (.lconst 0, 1) := by decide +kernel
theorem dL_isWorkingMinute_15 : decode cL_isWorkingMinute 15 = .ok (.lastore, 1) := by decide +kernel
theorem dL_isWorkingMinute_16 : decode cL_isWorkingMinute 16 = .ok (.goto 6, 3) := by decide +kernel
theorem dL_isWorkingMinute_19 : decode cL_isWorkingMinute 19 = .ok (.astore_n 3, 1) := by decide +kernel
theorem dL_isWorkingMinute_20 : decode cL_isWorkingMinute 20 = .ok (.iconst 1, 1) := by decide +kernel
theorem dL_isWorkingMinute_21 : decode cL_isWorkingMinute 21 = .ok (.ireturn, 1) := by decide +kernel
theorem dL_isWorkingMinute_22 : decode cL_isWorkingMinute 22 = .ok (.iconst 0, 1) := by decide +kernel
theorem dL_isWorkingMinute_23 : decode cL_isWorkingMinute 23 = .ok (.ireturn, 1) := by decide +kernel
theorem dL_workWithin_0 : decode cL_workWithin 0 = .ok (.aload_n 3, 1) := by decide +kernel
theorem dL_workWithin_1 : decode cL_workWithin 1 = .ok (.iconst 0, 1) := by decide +kernel
theorem dL_workWithin_2 : decode cL_workWithin 2 = .ok (.aload_n 0, 1) := by decide +kernel
theorem dL_workWithin_3 : decode cL_workWithin 3 = .ok (.iload_n 1, 1) := by decide +kernel
theorem dL_workWithin_4 : decode cL_workWithin 4 = .ok (.iload_n 2, 1) := by decide +kernel
theorem dL_workWithin_5 : decode cL_workWithin 5 = .ok (.invokevirtual 152, 3) := by decide +kernel
theorem dL_workWithin_8 : decode cL_workWithin 8 = .ok (.i2l, 1) := by decide +kernel
theorem dL_workWithin_9 : decode cL_workWithin 9 = .ok (.lastore, 1) := by decide +kernel
theorem dL_workWithin_10 : decode cL_workWithin 10 = .ok (.goto 11, 3) := by decide +kernel
theorem dL_workWithin_13 : decode cL_workWithin 13 = .ok (.astore 4, 2) := by decide +kernel
theorem dL_workWithin_15 : decode cL_workWithin 15 = .ok (.iconst 1, 1) := by decide +kernel
theorem dL_workWithin_16 : decode cL_workWithin 16 = .ok (.ireturn, 1) := by decide +kernel
theorem dL_workWithin_17 : decode cL_workWithin 17 = .ok (.astore 4, 2) := by decide +kernel
theorem dL_workWithin_19 : decode cL_workWithin 19 = .ok (.iconst 2, 1) := by decide +kernel
theorem dL_workWithin_20 : decode cL_workWithin 20 = .ok (.ireturn, 1) := by decide +kernel
theorem dL_workWithin_21 : decode cL_workWithin 21 = .ok (.iconst 0, 1) := by decide +kernel
theorem dL_workWithin_22 : decode cL_workWithin 22 = .ok (.ireturn, 1) := by decide +kernel
theorem dL_doneAt_0 : decode cL_doneAt 0 = .ok (.aload_n 3, 1) := by decide +kernel
theorem dL_doneAt_1 : decode cL_doneAt 1 = .ok (.iconst 0, 1) := by decide +kernel
theorem dL_doneAt_2 : decode cL_doneAt 2 = .ok (.aload_n 0, 1) := by decide +kernel
theorem dL_doneAt_3 : decode cL_doneAt 3 = .ok (.iload_n 1, 1) := by decide +kernel
theorem dL_doneAt_4 : decode cL_doneAt 4 = .ok (.iload_n 2, 1) := by decide +kernel
theorem dL_doneAt_5 : decode cL_doneAt 5 = .ok (.invokevirtual 155, 3) := by decide +kernel
theorem dL_doneAt_8 : decode cL_doneAt 8 = .ok (.i2l, 1) := by decide +kernel
theorem dL_doneAt_9 : decode cL_doneAt 9 = .ok (.lastore, 1) := by decide +kernel
theorem dL_doneAt_10 : decode cL_doneAt 10 = .ok (.goto 11, 3) := by decide +kernel
theorem dL_doneAt_13 : decode cL_doneAt 13 = .ok (.astore 4, 2) := by decide +kernel
theorem dL_doneAt_15 : decode cL_doneAt 15 = .ok (.iconst 1, 1) := by decide +kernel
theorem dL_doneAt_16 : decode cL_doneAt 16 = .ok (.ireturn, 1) := by decide +kernel
theorem dL_doneAt_17 : decode cL_doneAt 17 = .ok (.astore 4, 2) := by decide +kernel
theorem dL_doneAt_19 : decode cL_doneAt 19 = .ok (.iconst 2, 1) := by decide +kernel
theorem dL_doneAt_20 : decode cL_doneAt 20 = .ok (.ireturn, 1) := by decide +kernel
theorem dL_doneAt_21 : decode cL_doneAt 21 = .ok (.iconst 0, 1) := by decide +kernel
theorem dL_doneAt_22 : decode cL_doneAt 22 = .ok (.ireturn, 1) := by decide +kernel
theorem dL_meanGap_0 : decode cL_meanGap 0 = .ok (.aload_n 2, 1) := by decide +kernel
theorem dL_meanGap_1 : decode cL_meanGap 1 = .ok (.iconst 0, 1) := by decide +kernel
theorem dL_meanGap_2 : decode cL_meanGap 2 = .ok (.aload_n 0, 1) := by decide +kernel
theorem dL_meanGap_3 : decode cL_meanGap 3 = .ok (.iload_n 1, 1) := by decide +kernel
theorem dL_meanGap_4 : decode cL_meanGap 4 = .ok (.invokevirtual 158, 3) := by decide +kernel
theorem dL_meanGap_7 : decode cL_meanGap 7 = .ok (.dastore, 1) := by decide +kernel
theorem dL_meanGap_8 : decode cL_meanGap 8 = .ok (.goto 6, 3) := by decide +kernel
theorem dL_meanGap_11 : decode cL_meanGap 11 = .ok (.astore_n 3, 1) := by decide +kernel
theorem dL_meanGap_12 : decode cL_meanGap 12 = .ok (.iconst 1, 1) := by decide +kernel
theorem dL_meanGap_13 : decode cL_meanGap 13 = .ok (.ireturn, 1) := by decide +kernel
theorem dL_meanGap_14 : decode cL_meanGap 14 = .ok (.iconst 0, 1) := by decide +kernel
theorem dL_meanGap_15 : decode cL_meanGap 15 = .ok (.ireturn, 1) := by decide +kernel
theorem dL_law_0 : decode cL_law 0 = .ok (.new 8, 3) := by decide +kernel
theorem dL_law_3 : decode cL_law 3 = .ok (.dup, 1) := by decide +kernel
theorem dL_law_4 : decode cL_law 4 = .ok (.invokespecial 162, 3) := by decide +kernel
theorem dL_law_7 : decode cL_law 7 = .ok (.astore_n 1, 1) := by decide +kernel
theorem dL_law_8 : decode cL_law 8 = .ok (.new 163, 3) := by decide +kernel
theorem dL_law_11 : decode cL_law 11 = .ok (.dup, 1) := by decide +kernel
theorem dL_law_12 : decode cL_law 12 = .ok (.invokespecial 165, 3) := by decide +kernel
theorem dL_law_15 : decode cL_law 15 = .ok (.astore_n 2, 1) := by decide +kernel
theorem dL_law_16 : decode cL_law 16 = .ok (.iconst 1, 1) := by decide +kernel
theorem dL_law_17 : decode cL_law 17 = .ok (.newarray .long, 2) := by decide +kernel
theorem dL_law_19 : decode cL_law 19 = .ok (.astore_n 3, 1) := by decide +kernel
theorem dL_law_20 : decode cL_law 20 = .ok (.iconst 1, 1) := by decide +kernel
theorem dL_law_21 : decode cL_law 21 = .ok (.newarray .double, 2) := by decide +kernel
theorem dL_law_23 : decode cL_law 23 = .ok (.astore 4, 2) := by decide +kernel
theorem dL_law_25 : decode cL_law 25 = .ok (.iconst 0, 1) := by decide +kernel
theorem dL_law_26 : decode cL_law 26 = .ok (.istore 5, 2) := by decide +kernel
theorem dL_law_28 : decode cL_law 28 = .ok (.iload 5, 2) := by decide +kernel
theorem dL_law_30 : decode cL_law 30 = .ok (.aload_n 0, 1) := by decide +kernel
theorem dL_law_31 : decode cL_law 31 = .ok (.arraylength, 1) := by decide +kernel
theorem dL_law_32 : decode cL_law 32 = .ok (.bipush 8, 2) := by decide +kernel
theorem dL_law_34 : decode cL_law 34 = .ok (.isub, 1) := by decide +kernel
theorem dL_law_35 : decode cL_law 35 = .ok (.if_icmp .gt 3371, 3) := by decide +kernel
theorem dL_law_38 : decode cL_law 38 = .ok (.aload_n 0, 1) := by decide +kernel
theorem dL_law_39 : decode cL_law 39 = .ok (.iload 5, 2) := by decide +kernel
theorem dL_law_41 : decode cL_law 41 = .ok (.iaload, 1) := by decide +kernel
theorem dL_law_42 : decode cL_law 42 = .ok (.bipush 63, 2) := by decide +kernel
theorem dL_law_44 : decode cL_law 44 = .ok (.iand, 1) := by decide +kernel
theorem dL_law_45 : decode cL_law 45 = .ok (.tableswitch 3355 0 46 #[203, 283, 339, 395, 451, 507, 563, 619, 675, 743, 823, 891, 966, 1034, 1090, 1222, 1290, 1358, 1426, 1494, 1562, 1630, 1710, 1814, 1882, 1950, 2018, 2086, 2154, 2210, 2278, 2346, 2414, 2482, 2538, 2594, 2650, 2718, 2810, 2866, 2929, 2997, 3065, 3128, 3196, 3264, 3341], 203) := by decide +kernel
theorem dL_law_248 : decode cL_law 248 = .ok (.aload_n 1, 1) := by decide +kernel
theorem dL_law_249 : decode cL_law 249 = .ok (.aload_n 0, 1) := by decide +kernel
theorem dL_law_250 : decode cL_law 250 = .ok (.iload 5, 2) := by decide +kernel
theorem dL_law_252 : decode cL_law 252 = .ok (.iconst 1, 1) := by decide +kernel
theorem dL_law_253 : decode cL_law 253 = .ok (.iadd, 1) := by decide +kernel
theorem dL_law_254 : decode cL_law 254 = .ok (.iaload, 1) := by decide +kernel
theorem dL_law_255 : decode cL_law 255 = .ok (.aload_n 0, 1) := by decide +kernel
theorem dL_law_256 : decode cL_law 256 = .ok (.iload 5, 2) := by decide +kernel
theorem dL_law_258 : decode cL_law 258 = .ok (.iconst 2, 1) := by decide +kernel
theorem dL_law_259 : decode cL_law 259 = .ok (.iadd, 1) := by decide +kernel
theorem dL_law_260 : decode cL_law 260 = .ok (.iaload, 1) := by decide +kernel
theorem dL_law_261 : decode cL_law 261 = .ok (.aload_n 0, 1) := by decide +kernel
theorem dL_law_262 : decode cL_law 262 = .ok (.iload 5, 2) := by decide +kernel
theorem dL_law_264 : decode cL_law 264 = .ok (.iconst 3, 1) := by decide +kernel
theorem dL_law_265 : decode cL_law 265 = .ok (.iadd, 1) := by decide +kernel
theorem dL_law_266 : decode cL_law 266 = .ok (.iaload, 1) := by decide +kernel
theorem dL_law_267 : decode cL_law 267 = .ok (.aload_n 3, 1) := by decide +kernel
theorem dL_law_268 : decode cL_law 268 = .ok (.invokestatic 166, 3) := by decide +kernel
theorem dL_law_271 : decode cL_law 271 = .ok (.istore 6, 2) := by decide +kernel
theorem dL_law_273 : decode cL_law 273 = .ok (.aload_n 2, 1) := by decide +kernel
theorem dL_law_274 : decode cL_law 274 = .ok (.aload_n 0, 1) := by decide +kernel
theorem dL_law_275 : decode cL_law 275 = .ok (.iload 5, 2) := by decide +kernel
theorem dL_law_277 : decode cL_law 277 = .ok (.iconst 1, 1) := by decide +kernel
theorem dL_law_278 : decode cL_law 278 = .ok (.iadd, 1) := by decide +kernel
theorem dL_law_279 : decode cL_law 279 = .ok (.iaload, 1) := by decide +kernel
theorem dL_law_280 : decode cL_law 280 = .ok (.aload_n 0, 1) := by decide +kernel
theorem dL_law_281 : decode cL_law 281 = .ok (.iload 5, 2) := by decide +kernel
theorem dL_law_283 : decode cL_law 283 = .ok (.iconst 2, 1) := by decide +kernel
theorem dL_law_284 : decode cL_law 284 = .ok (.iadd, 1) := by decide +kernel
theorem dL_law_285 : decode cL_law 285 = .ok (.iaload, 1) := by decide +kernel
theorem dL_law_286 : decode cL_law 286 = .ok (.aload_n 0, 1) := by decide +kernel
theorem dL_law_287 : decode cL_law 287 = .ok (.iload 5, 2) := by decide +kernel
theorem dL_law_289 : decode cL_law 289 = .ok (.iconst 3, 1) := by decide +kernel
theorem dL_law_290 : decode cL_law 290 = .ok (.iadd, 1) := by decide +kernel
theorem dL_law_291 : decode cL_law 291 = .ok (.iaload, 1) := by decide +kernel
theorem dL_law_292 : decode cL_law 292 = .ok (.invokevirtual 171, 3) := by decide +kernel
theorem dL_law_295 : decode cL_law 295 = .ok (.istore 7, 2) := by decide +kernel
theorem dL_law_297 : decode cL_law 297 = .ok (.aload_n 2, 1) := by decide +kernel
theorem dL_law_298 : decode cL_law 298 = .ok (.invokevirtual 172, 3) := by decide +kernel
theorem dL_law_301 : decode cL_law 301 = .ok (.iload 6, 2) := by decide +kernel
theorem dL_law_303 : decode cL_law 303 = .ok (.if_icmp .eq 5, 3) := by decide +kernel
theorem dL_law_306 : decode cL_law 306 = .ok (.iconst 0, 1) := by decide +kernel
theorem dL_law_307 : decode cL_law 307 = .ok (.ireturn, 1) := by decide +kernel
theorem dL_law_308 : decode cL_law 308 = .ok (.iload 6, 2) := by decide +kernel
theorem dL_law_310 : decode cL_law 310 = .ok (.ifCond .ne 15, 3) := by decide +kernel
theorem dL_law_313 : decode cL_law 313 = .ok (.aload_n 3, 1) := by decide +kernel
theorem dL_law_314 : decode cL_law 314 = .ok (.iconst 0, 1) := by decide +kernel
theorem dL_law_315 : decode cL_law 315 = .ok (.laload, 1) := by decide +kernel
theorem dL_law_316 : decode cL_law 316 = .ok (.iload 7, 2) := by decide +kernel
theorem dL_law_318 : decode cL_law 318 = .ok (.i2l, 1) := by decide +kernel
theorem dL_law_319 : decode cL_law 319 = .ok (.lcmp, 1) := by decide +kernel
theorem dL_law_320 : decode cL_law 320 = .ok (.ifCond .eq 5, 3) := by decide +kernel
theorem dL_law_323 : decode cL_law 323 = .ok (.iconst 0, 1) := by decide +kernel
theorem dL_law_324 : decode cL_law 324 = .ok (.ireturn, 1) := by decide +kernel
theorem dL_law_325 : decode cL_law 325 = .ok (.goto 3075, 3) := by decide +kernel
theorem dL_law_328 : decode cL_law 328 = .ok (.aload_n 1, 1) := by decide +kernel
theorem dL_law_329 : decode cL_law 329 = .ok (.aload_n 0, 1) := by decide +kernel
theorem dL_law_330 : decode cL_law 330 = .ok (.iload 5, 2) := by decide +kernel
theorem dL_law_332 : decode cL_law 332 = .ok (.iconst 1, 1) := by decide +kernel
theorem dL_law_333 : decode cL_law 333 = .ok (.iadd, 1) := by decide +kernel
theorem dL_law_334 : decode cL_law 334 = .ok (.iaload, 1) := by decide +kernel
theorem dL_law_335 : decode cL_law 335 = .ok (.aload_n 3, 1) := by decide +kernel
theorem dL_law_336 : decode cL_law 336 = .ok (.invokestatic 176, 3) := by decide +kernel
theorem dL_law_339 : decode cL_law 339 = .ok (.istore 6, 2) := by decide +kernel
theorem dL_law_341 : decode cL_law 341 = .ok (.aload_n 2, 1) := by decide +kernel
theorem dL_law_342 : decode cL_law 342 = .ok (.aload_n 0, 1) := by decide +kernel
theorem dL_law_343 : decode cL_law 343 = .ok (.iload 5, 2) := by decide +kernel
theorem dL_law_345 : decode cL_law 345 = .ok (.iconst 1, 1) := by decide +kernel
theorem dL_law_346 : decode cL_law 346 = .ok (.iadd, 1) := by decide +kernel
theorem dL_law_347 : decode cL_law 347 = .ok (.iaload, 1) := by decide +kernel
theorem dL_law_348 : decode cL_law 348 = .ok (.invokevirtual 179, 3) := by decide +kernel
theorem dL_law_351 : decode cL_law 351 = .ok (.istore 7, 2) := by decide +kernel
theorem dL_law_353 : decode cL_law 353 = .ok (.aload_n 2, 1) := by decide +kernel
theorem dL_law_354 : decode cL_law 354 = .ok (.invokevirtual 172, 3) := by decide +kernel
theorem dL_law_357 : decode cL_law 357 = .ok (.iload 6, 2) := by decide +kernel
theorem dL_law_359 : decode cL_law 359 = .ok (.if_icmp .eq 5, 3) := by decide +kernel
theorem dL_law_362 : decode cL_law 362 = .ok (.iconst 0, 1) := by decide +kernel
theorem dL_law_363 : decode cL_law 363 = .ok (.ireturn, 1) := by decide +kernel
theorem dL_law_364 : decode cL_law 364 = .ok (.iload 6, 2) := by decide +kernel
theorem dL_law_366 : decode cL_law 366 = .ok (.ifCond .ne 15, 3) := by decide +kernel
theorem dL_law_369 : decode cL_law 369 = .ok (.aload_n 3, 1) := by decide +kernel
theorem dL_law_370 : decode cL_law 370 = .ok (.iconst 0, 1) := by decide +kernel
theorem dL_law_371 : decode cL_law 371 = .ok (.laload, 1) := by decide +kernel
theorem dL_law_372 : decode cL_law 372 = .ok (.iload 7, 2) := by decide +kernel
theorem dL_law_374 : decode cL_law 374 = .ok (.i2l, 1) := by decide +kernel
theorem dL_law_375 : decode cL_law 375 = .ok (.lcmp, 1) := by decide +kernel
theorem dL_law_376 : decode cL_law 376 = .ok (.ifCond .eq 5, 3) := by decide +kernel
theorem dL_law_379 : decode cL_law 379 = .ok (.iconst 0, 1) := by decide +kernel
theorem dL_law_380 : decode cL_law 380 = .ok (.ireturn, 1) := by decide +kernel
theorem dL_law_381 : decode cL_law 381 = .ok (.goto 3019, 3) := by decide +kernel
theorem dL_law_384 : decode cL_law 384 = .ok (.aload_n 1, 1) := by decide +kernel
theorem dL_law_385 : decode cL_law 385 = .ok (.aload_n 0, 1) := by decide +kernel
theorem dL_law_386 : decode cL_law 386 = .ok (.iload 5, 2) := by decide +kernel
theorem dL_law_388 : decode cL_law 388 = .ok (.iconst 1, 1) := by decide +kernel
theorem dL_law_389 : decode cL_law 389 = .ok (.iadd, 1) := by decide +kernel
theorem dL_law_390 : decode cL_law 390 = .ok (.iaload, 1) := by decide +kernel
theorem dL_law_391 : decode cL_law 391 = .ok (.aload_n 3, 1) := by decide +kernel
theorem dL_law_392 : decode cL_law 392 = .ok (.invokestatic 180, 3) := by decide +kernel
theorem dL_law_395 : decode cL_law 395 = .ok (.istore 6, 2) := by decide +kernel
theorem dL_law_397 : decode cL_law 397 = .ok (.aload_n 2, 1) := by decide +kernel
theorem dL_law_398 : decode cL_law 398 = .ok (.aload_n 0, 1) := by decide +kernel
theorem dL_law_399 : decode cL_law 399 = .ok (.iload 5, 2) := by decide +kernel
theorem dL_law_401 : decode cL_law 401 = .ok (.iconst 1, 1) := by decide +kernel
theorem dL_law_402 : decode cL_law 402 = .ok (.iadd, 1) := by decide +kernel
theorem dL_law_403 : decode cL_law 403 = .ok (.iaload, 1) := by decide +kernel
theorem dL_law_404 : decode cL_law 404 = .ok (.invokevirtual 182, 3) := by decide +kernel
theorem dL_law_407 : decode cL_law 407 = .ok (.istore 7, 2) := by decide +kernel
theorem dL_law_409 : decode cL_law 409 = .ok (.aload_n 2, 1) := by decide +kernel
theorem dL_law_410 : decode cL_law 410 = .ok (.invokevirtual 172, 3) := by decide +kernel
theorem dL_law_413 : decode cL_law 413 = .ok (.iload 6, 2) := by decide +kernel
theorem dL_law_415 : decode cL_law 415 = .ok (.if_icmp .eq 5, 3) := by decide +kernel
theorem dL_law_418 : decode cL_law 418 = .ok (.iconst 0, 1) := by decide +kernel
theorem dL_law_419 : decode cL_law 419 = .ok (.ireturn, 1) := by decide +kernel
theorem dL_law_420 : decode cL_law 420 = .ok (.iload 6, 2) := by decide +kernel
theorem dL_law_422 : decode cL_law 422 = .ok (.ifCond .ne 15, 3) := by decide +kernel
theorem dL_law_425 : decode cL_law 425 = .ok (.aload_n 3, 1) := by decide +kernel
theorem dL_law_426 : decode cL_law 426 = .ok (.iconst 0, 1) := by decide +kernel
theorem dL_law_427 : decode cL_law 427 = .ok (.laload, 1) := by decide +kernel
theorem dL_law_428 : decode cL_law 428 = .ok (.iload 7, 2) := by decide +kernel
theorem dL_law_430 : decode cL_law 430 = .ok (.i2l, 1) := by decide +kernel
theorem dL_law_431 : decode cL_law 431 = .ok (.lcmp, 1) := by decide +kernel
theorem dL_law_432 : decode cL_law 432 = .ok (.ifCond .eq 5, 3) := by decide +kernel
theorem dL_law_435 : decode cL_law 435 = .ok (.iconst 0, 1) := by decide +kernel
theorem dL_law_436 : decode cL_law 436 = .ok (.ireturn, 1) := by decide +kernel
theorem dL_law_437 : decode cL_law 437 = .ok (.goto 2963, 3) := by decide +kernel
theorem dL_law_440 : decode cL_law 440 = .ok (.aload_n 1, 1) := by decide +kernel
theorem dL_law_441 : decode cL_law 441 = .ok (.aload_n 0, 1) := by decide +kernel
theorem dL_law_442 : decode cL_law 442 = .ok (.iload 5, 2) := by decide +kernel
theorem dL_law_444 : decode cL_law 444 = .ok (.iconst 1, 1) := by decide +kernel
theorem dL_law_445 : decode cL_law 445 = .ok (.iadd, 1) := by decide +kernel
theorem dL_law_446 : decode cL_law 446 = .ok (.iaload, 1) := by decide +kernel
theorem dL_law_447 : decode cL_law 447 = .ok (.aload_n 3, 1) := by decide +kernel
theorem dL_law_448 : decode cL_law 448 = .ok (.invokestatic 183, 3) := by decide +kernel
theorem dL_law_451 : decode cL_law 451 = .ok (.istore 6, 2) := by decide +kernel
theorem dL_law_453 : decode cL_law 453 = .ok (.aload_n 2, 1) := by decide +kernel
theorem dL_law_454 : decode cL_law 454 = .ok (.aload_n 0, 1) := by decide +kernel
theorem dL_law_455 : decode cL_law 455 = .ok (.iload 5, 2) := by decide +kernel
theorem dL_law_457 : decode cL_law 457 = .ok (.iconst 1, 1) := by decide +kernel
theorem dL_law_458 : decode cL_law 458 = .ok (.iadd, 1) := by decide +kernel
theorem dL_law_459 : decode cL_law 459 = .ok (.iaload, 1) := by decide +kernel
theorem dL_law_460 : decode cL_law 460 = .ok (.invokevirtual 185, 3) := by decide +kernel
theorem dL_law_463 : decode cL_law 463 = .ok (.istore 7, 2) := by decide +kernel
theorem dL_law_465 : decode cL_law 465 = .ok (.aload_n 2, 1) := by decide +kernel
theorem dL_law_466 : decode cL_law 466 = .ok (.invokevirtual 172, 3) := by decide +kernel
theorem dL_law_469 : decode cL_law 469 = .ok (.iload 6, 2) := by decide +kernel
theorem dL_law_471 : decode cL_law 471 = .ok (.if_icmp .eq 5, 3) := by decide +kernel
theorem dL_law_474 : decode cL_law 474 = .ok (.iconst 0, 1) := by decide +kernel
theorem dL_law_475 : decode cL_law 475 = .ok (.ireturn, 1) := by decide +kernel
theorem dL_law_476 : decode cL_law 476 = .ok (.iload 6, 2) := by decide +kernel
theorem dL_law_478 : decode cL_law 478 = .ok (.ifCond .ne 15, 3) := by decide +kernel
theorem dL_law_481 : decode cL_law 481 = .ok (.aload_n 3, 1) := by decide +kernel
theorem dL_law_482 : decode cL_law 482 = .ok (.iconst 0, 1) := by decide +kernel
theorem dL_law_483 : decode cL_law 483 = .ok (.laload, 1) := by decide +kernel
theorem dL_law_484 : decode cL_law 484 = .ok (.iload 7, 2) := by decide +kernel
theorem dL_law_486 : decode cL_law 486 = .ok (.i2l, 1) := by decide +kernel
theorem dL_law_487 : decode cL_law 487 = .ok (.lcmp, 1) := by decide +kernel
theorem dL_law_488 : decode cL_law 488 = .ok (.ifCond .eq 5, 3) := by decide +kernel
theorem dL_law_491 : decode cL_law 491 = .ok (.iconst 0, 1) := by decide +kernel
theorem dL_law_492 : decode cL_law 492 = .ok (.ireturn, 1) := by decide +kernel
theorem dL_law_493 : decode cL_law 493 = .ok (.goto 2907, 3) := by decide +kernel
theorem dL_law_496 : decode cL_law 496 = .ok (.aload_n 1, 1) := by decide +kernel
theorem dL_law_497 : decode cL_law 497 = .ok (.aload_n 0, 1) := by decide +kernel
theorem dL_law_498 : decode cL_law 498 = .ok (.iload 5, 2) := by decide +kernel
theorem dL_law_500 : decode cL_law 500 = .ok (.iconst 1, 1) := by decide +kernel
theorem dL_law_501 : decode cL_law 501 = .ok (.iadd, 1) := by decide +kernel
theorem dL_law_502 : decode cL_law 502 = .ok (.iaload, 1) := by decide +kernel
theorem dL_law_503 : decode cL_law 503 = .ok (.aload_n 3, 1) := by decide +kernel
theorem dL_law_504 : decode cL_law 504 = .ok (.invokestatic 186, 3) := by decide +kernel
theorem dL_law_507 : decode cL_law 507 = .ok (.istore 6, 2) := by decide +kernel
theorem dL_law_509 : decode cL_law 509 = .ok (.aload_n 2, 1) := by decide +kernel
theorem dL_law_510 : decode cL_law 510 = .ok (.aload_n 0, 1) := by decide +kernel
theorem dL_law_511 : decode cL_law 511 = .ok (.iload 5, 2) := by decide +kernel
theorem dL_law_513 : decode cL_law 513 = .ok (.iconst 1, 1) := by decide +kernel
theorem dL_law_514 : decode cL_law 514 = .ok (.iadd, 1) := by decide +kernel
theorem dL_law_515 : decode cL_law 515 = .ok (.iaload, 1) := by decide +kernel
theorem dL_law_516 : decode cL_law 516 = .ok (.invokevirtual 188, 3) := by decide +kernel
theorem dL_law_519 : decode cL_law 519 = .ok (.istore 7, 2) := by decide +kernel
theorem dL_law_521 : decode cL_law 521 = .ok (.aload_n 2, 1) := by decide +kernel
theorem dL_law_522 : decode cL_law 522 = .ok (.invokevirtual 172, 3) := by decide +kernel
theorem dL_law_525 : decode cL_law 525 = .ok (.iload 6, 2) := by decide +kernel
theorem dL_law_527 : decode cL_law 527 = .ok (.if_icmp .eq 5, 3) := by decide +kernel
theorem dL_law_530 : decode cL_law 530 = .ok (.iconst 0, 1) := by decide +kernel
theorem dL_law_531 : decode cL_law 531 = .ok (.ireturn, 1) := by decide +kernel
theorem dL_law_532 : decode cL_law 532 = .ok (.iload 6, 2) := by decide +kernel
theorem dL_law_534 : decode cL_law 534 = .ok (.ifCond .ne 15, 3) := by decide +kernel
theorem dL_law_537 : decode cL_law 537 = .ok (.aload_n 3, 1) := by decide +kernel
theorem dL_law_538 : decode cL_law 538 = .ok (.iconst 0, 1) := by decide +kernel
theorem dL_law_539 : decode cL_law 539 = .ok (.laload, 1) := by decide +kernel
theorem dL_law_540 : decode cL_law 540 = .ok (.iload 7, 2) := by decide +kernel
theorem dL_law_542 : decode cL_law 542 = .ok (.i2l, 1) := by decide +kernel
theorem dL_law_543 : decode cL_law 543 = .ok (.lcmp, 1) := by decide +kernel
theorem dL_law_544 : decode cL_law 544 = .ok (.ifCond .eq 5, 3) := by decide +kernel
theorem dL_law_547 : decode cL_law 547 = .ok (.iconst 0, 1) := by decide +kernel
theorem dL_law_548 : decode cL_law 548 = .ok (.ireturn, 1) := by decide +kernel
theorem dL_law_549 : decode cL_law 549 = .ok (.goto 2851, 3) := by decide +kernel
theorem dL_law_552 : decode cL_law 552 = .ok (.aload_n 1, 1) := by decide +kernel
theorem dL_law_553 : decode cL_law 553 = .ok (.aload_n 0, 1) := by decide +kernel
theorem dL_law_554 : decode cL_law 554 = .ok (.iload 5, 2) := by decide +kernel
theorem dL_law_556 : decode cL_law 556 = .ok (.iconst 1, 1) := by decide +kernel
theorem dL_law_557 : decode cL_law 557 = .ok (.iadd, 1) := by decide +kernel
theorem dL_law_558 : decode cL_law 558 = .ok (.iaload, 1) := by decide +kernel
theorem dL_law_559 : decode cL_law 559 = .ok (.aload_n 3, 1) := by decide +kernel
theorem dL_law_560 : decode cL_law 560 = .ok (.invokestatic 189, 3) := by decide +kernel
theorem dL_law_563 : decode cL_law 563 = .ok (.istore 6, 2) := by decide +kernel
theorem dL_law_565 : decode cL_law 565 = .ok (.aload_n 2, 1) := by decide +kernel
theorem dL_law_566 : decode cL_law 566 = .ok (.aload_n 0, 1) := by decide +kernel
theorem dL_law_567 : decode cL_law 567 = .ok (.iload 5, 2) := by decide +kernel
theorem dL_law_569 : decode cL_law 569 = .ok (.iconst 1, 1) := by decide +kernel
theorem dL_law_570 : decode cL_law 570 = .ok (.iadd, 1) := by decide +kernel
theorem dL_law_571 : decode cL_law 571 = .ok (.iaload, 1) := by decide +kernel
theorem dL_law_572 : decode cL_law 572 = .ok (.invokevirtual 191, 3) := by decide +kernel
theorem dL_law_575 : decode cL_law 575 = .ok (.istore 7, 2) := by decide +kernel
theorem dL_law_577 : decode cL_law 577 = .ok (.aload_n 2, 1) := by decide +kernel
theorem dL_law_578 : decode cL_law 578 = .ok (.invokevirtual 172, 3) := by decide +kernel
theorem dL_law_581 : decode cL_law 581 = .ok (.iload 6, 2) := by decide +kernel
theorem dL_law_583 : decode cL_law 583 = .ok (.if_icmp .eq 5, 3) := by decide +kernel
theorem dL_law_586 : decode cL_law 586 = .ok (.iconst 0, 1) := by decide +kernel
theorem dL_law_587 : decode cL_law 587 = .ok (.ireturn, 1) := by decide +kernel
theorem dL_law_588 : decode cL_law 588 = .ok (.iload 6, 2) := by decide +kernel
theorem dL_law_590 : decode cL_law 590 = .ok (.ifCond .ne 15, 3) := by decide +kernel
theorem dL_law_593 : decode cL_law 593 = .ok (.aload_n 3, 1) := by decide +kernel
theorem dL_law_594 : decode cL_law 594 = .ok (.iconst 0, 1) := by decide +kernel
theorem dL_law_595 : decode cL_law 595 = .ok (.laload, 1) := by decide +kernel
theorem dL_law_596 : decode cL_law 596 = .ok (.iload 7, 2) := by decide +kernel
theorem dL_law_598 : decode cL_law 598 = .ok (.i2l, 1) := by decide +kernel
theorem dL_law_599 : decode cL_law 599 = .ok (.lcmp, 1) := by decide +kernel
theorem dL_law_600 : decode cL_law 600 = .ok (.ifCond .eq 5, 3) := by decide +kernel
theorem dL_law_603 : decode cL_law 603 = .ok (.iconst 0, 1) := by decide +kernel
theorem dL_law_604 : decode cL_law 604 = .ok (.ireturn, 1) := by decide +kernel
theorem dL_law_605 : decode cL_law 605 = .ok (.goto 2795, 3) := by decide +kernel
theorem dL_law_608 : decode cL_law 608 = .ok (.aload_n 1, 1) := by decide +kernel
theorem dL_law_609 : decode cL_law 609 = .ok (.aload_n 0, 1) := by decide +kernel
theorem dL_law_610 : decode cL_law 610 = .ok (.iload 5, 2) := by decide +kernel
theorem dL_law_612 : decode cL_law 612 = .ok (.iconst 1, 1) := by decide +kernel
theorem dL_law_613 : decode cL_law 613 = .ok (.iadd, 1) := by decide +kernel
theorem dL_law_614 : decode cL_law 614 = .ok (.iaload, 1) := by decide +kernel
theorem dL_law_615 : decode cL_law 615 = .ok (.aload_n 3, 1) := by decide +kernel
theorem dL_law_616 : decode cL_law 616 = .ok (.invokestatic 192, 3) := by decide +kernel
theorem dL_law_619 : decode cL_law 619 = .ok (.istore 6, 2) := by decide +kernel
theorem dL_law_621 : decode cL_law 621 = .ok (.aload_n 2, 1) := by decide +kernel
theorem dL_law_622 : decode cL_law 622 = .ok (.aload_n 0, 1) := by decide +kernel
theorem dL_law_623 : decode cL_law 623 = .ok (.iload 5, 2) := by decide +kernel
theorem dL_law_625 : decode cL_law 625 = .ok (.iconst 1, 1) := by decide +kernel
theorem dL_law_626 : decode cL_law 626 = .ok (.iadd, 1) := by decide +kernel
theorem dL_law_627 : decode cL_law 627 = .ok (.iaload, 1) := by decide +kernel
theorem dL_law_628 : decode cL_law 628 = .ok (.invokevirtual 194, 3) := by decide +kernel
theorem dL_law_631 : decode cL_law 631 = .ok (.istore 7, 2) := by decide +kernel
theorem dL_law_633 : decode cL_law 633 = .ok (.aload_n 2, 1) := by decide +kernel
theorem dL_law_634 : decode cL_law 634 = .ok (.invokevirtual 172, 3) := by decide +kernel
theorem dL_law_637 : decode cL_law 637 = .ok (.iload 6, 2) := by decide +kernel
theorem dL_law_639 : decode cL_law 639 = .ok (.if_icmp .eq 5, 3) := by decide +kernel
theorem dL_law_642 : decode cL_law 642 = .ok (.iconst 0, 1) := by decide +kernel
theorem dL_law_643 : decode cL_law 643 = .ok (.ireturn, 1) := by decide +kernel
theorem dL_law_644 : decode cL_law 644 = .ok (.iload 6, 2) := by decide +kernel
theorem dL_law_646 : decode cL_law 646 = .ok (.ifCond .ne 15, 3) := by decide +kernel
theorem dL_law_649 : decode cL_law 649 = .ok (.aload_n 3, 1) := by decide +kernel
theorem dL_law_650 : decode cL_law 650 = .ok (.iconst 0, 1) := by decide +kernel
theorem dL_law_651 : decode cL_law 651 = .ok (.laload, 1) := by decide +kernel
theorem dL_law_652 : decode cL_law 652 = .ok (.iload 7, 2) := by decide +kernel
theorem dL_law_654 : decode cL_law 654 = .ok (.i2l, 1) := by decide +kernel
theorem dL_law_655 : decode cL_law 655 = .ok (.lcmp, 1) := by decide +kernel
theorem dL_law_656 : decode cL_law 656 = .ok (.ifCond .eq 5, 3) := by decide +kernel
theorem dL_law_659 : decode cL_law 659 = .ok (.iconst 0, 1) := by decide +kernel
theorem dL_law_660 : decode cL_law 660 = .ok (.ireturn, 1) := by decide +kernel
theorem dL_law_661 : decode cL_law 661 = .ok (.goto 2739, 3) := by decide +kernel
theorem dL_law_664 : decode cL_law 664 = .ok (.aload_n 1, 1) := by decide +kernel
theorem dL_law_665 : decode cL_law 665 = .ok (.aload_n 0, 1) := by decide +kernel
theorem dL_law_666 : decode cL_law 666 = .ok (.iload 5, 2) := by decide +kernel
theorem dL_law_668 : decode cL_law 668 = .ok (.iconst 1, 1) := by decide +kernel
theorem dL_law_669 : decode cL_law 669 = .ok (.iadd, 1) := by decide +kernel
theorem dL_law_670 : decode cL_law 670 = .ok (.iaload, 1) := by decide +kernel
theorem dL_law_671 : decode cL_law 671 = .ok (.aload_n 3, 1) := by decide +kernel
theorem dL_law_672 : decode cL_law 672 = .ok (.invokestatic 195, 3) := by decide +kernel
theorem dL_law_675 : decode cL_law 675 = .ok (.istore 6, 2) := by decide +kernel
theorem dL_law_677 : decode cL_law 677 = .ok (.aload_n 2, 1) := by decide +kernel
theorem dL_law_678 : decode cL_law 678 = .ok (.aload_n 0, 1) := by decide +kernel
theorem dL_law_679 : decode cL_law 679 = .ok (.iload 5, 2) := by decide +kernel
theorem dL_law_681 : decode cL_law 681 = .ok (.iconst 1, 1) := by decide +kernel
theorem dL_law_682 : decode cL_law 682 = .ok (.iadd, 1) := by decide +kernel
theorem dL_law_683 : decode cL_law 683 = .ok (.iaload, 1) := by decide +kernel
theorem dL_law_684 : decode cL_law 684 = .ok (.invokevirtual 197, 3) := by decide +kernel
theorem dL_law_687 : decode cL_law 687 = .ok (.istore 7, 2) := by decide +kernel
theorem dL_law_689 : decode cL_law 689 = .ok (.aload_n 2, 1) := by decide +kernel
theorem dL_law_690 : decode cL_law 690 = .ok (.invokevirtual 172, 3) := by decide +kernel
theorem dL_law_693 : decode cL_law 693 = .ok (.iload 6, 2) := by decide +kernel
theorem dL_law_695 : decode cL_law 695 = .ok (.if_icmp .eq 5, 3) := by decide +kernel
theorem dL_law_698 : decode cL_law 698 = .ok (.iconst 0, 1) := by decide +kernel
theorem dL_law_699 : decode cL_law 699 = .ok (.ireturn, 1) := by decide +kernel
theorem dL_law_700 : decode cL_law 700 = .ok (.iload 6, 2) := by decide +kernel
theorem dL_law_702 : decode cL_law 702 = .ok (.ifCond .ne 15, 3) := by decide +kernel
theorem dL_law_705 : decode cL_law 705 = .ok (.aload_n 3, 1) := by decide +kernel
theorem dL_law_706 : decode cL_law 706 = .ok (.iconst 0, 1) := by decide +kernel
theorem dL_law_707 : decode cL_law 707 = .ok (.laload, 1) := by decide +kernel
theorem dL_law_708 : decode cL_law 708 = .ok (.iload 7, 2) := by decide +kernel
theorem dL_law_710 : decode cL_law 710 = .ok (.i2l, 1) := by decide +kernel
theorem dL_law_711 : decode cL_law 711 = .ok (.lcmp, 1) := by decide +kernel
theorem dL_law_712 : decode cL_law 712 = .ok (.ifCond .eq 5, 3) := by decide +kernel
theorem dL_law_715 : decode cL_law 715 = .ok (.iconst 0, 1) := by decide +kernel
theorem dL_law_716 : decode cL_law 716 = .ok (.ireturn, 1) := by decide +kernel
theorem dL_law_717 : decode cL_law 717 = .ok (.goto 2683, 3) := by decide +kernel
theorem dL_law_720 : decode cL_law 720 = .ok (.aload_n 1, 1) := by decide +kernel
theorem dL_law_721 : decode cL_law 721 = .ok (.aload_n 0, 1) := by decide +kernel
theorem dL_law_722 : decode cL_law 722 = .ok (.iload 5, 2) := by decide +kernel
theorem dL_law_724 : decode cL_law 724 = .ok (.iconst 1, 1) := by decide +kernel
theorem dL_law_725 : decode cL_law 725 = .ok (.iadd, 1) := by decide +kernel
theorem dL_law_726 : decode cL_law 726 = .ok (.iaload, 1) := by decide +kernel
theorem dL_law_727 : decode cL_law 727 = .ok (.aload_n 0, 1) := by decide +kernel
theorem dL_law_728 : decode cL_law 728 = .ok (.iload 5, 2) := by decide +kernel
theorem dL_law_730 : decode cL_law 730 = .ok (.iconst 2, 1) := by decide +kernel
theorem dL_law_731 : decode cL_law 731 = .ok (.iadd, 1) := by decide +kernel
theorem dL_law_732 : decode cL_law 732 = .ok (.iaload, 1) := by decide +kernel
theorem dL_law_733 : decode cL_law 733 = .ok (.aload_n 3, 1) := by decide +kernel
theorem dL_law_734 : decode cL_law 734 = .ok (.invokestatic 198, 3) := by decide +kernel
theorem dL_law_737 : decode cL_law 737 = .ok (.istore 6, 2) := by decide +kernel
theorem dL_law_739 : decode cL_law 739 = .ok (.aload_n 2, 1) := by decide +kernel
theorem dL_law_740 : decode cL_law 740 = .ok (.aload_n 0, 1) := by decide +kernel
theorem dL_law_741 : decode cL_law 741 = .ok (.iload 5, 2) := by decide +kernel
theorem dL_law_743 : decode cL_law 743 = .ok (.iconst 1, 1) := by decide +kernel
theorem dL_law_744 : decode cL_law 744 = .ok (.iadd, 1) := by decide +kernel
theorem dL_law_745 : decode cL_law 745 = .ok (.iaload, 1) := by decide +kernel
theorem dL_law_746 : decode cL_law 746 = .ok (.aload_n 0, 1) := by decide +kernel
theorem dL_law_747 : decode cL_law 747 = .ok (.iload 5, 2) := by decide +kernel
theorem dL_law_749 : decode cL_law 749 = .ok (.iconst 2, 1) := by decide +kernel
theorem dL_law_750 : decode cL_law 750 = .ok (.iadd, 1) := by decide +kernel
theorem dL_law_751 : decode cL_law 751 = .ok (.iaload, 1) := by decide +kernel
theorem dL_law_752 : decode cL_law 752 = .ok (.invokevirtual 201, 3) := by decide +kernel
theorem dL_law_755 : decode cL_law 755 = .ok (.istore 7, 2) := by decide +kernel
theorem dL_law_757 : decode cL_law 757 = .ok (.aload_n 2, 1) := by decide +kernel
theorem dL_law_758 : decode cL_law 758 = .ok (.invokevirtual 172, 3) := by decide +kernel
theorem dL_law_761 : decode cL_law 761 = .ok (.iload 6, 2) := by decide +kernel
theorem dL_law_763 : decode cL_law 763 = .ok (.if_icmp .eq 5, 3) := by decide +kernel
theorem dL_law_766 : decode cL_law 766 = .ok (.iconst 0, 1) := by decide +kernel
theorem dL_law_767 : decode cL_law 767 = .ok (.ireturn, 1) := by decide +kernel
theorem dL_law_768 : decode cL_law 768 = .ok (.iload 6, 2) := by decide +kernel
theorem dL_law_770 : decode cL_law 770 = .ok (.ifCond .ne 15, 3) := by decide +kernel
theorem dL_law_773 : decode cL_law 773 = .ok (.aload_n 3, 1) := by decide +kernel
theorem dL_law_774 : decode cL_law 774 = .ok (.iconst 0, 1) := by decide +kernel
theorem dL_law_775 : decode cL_law 775 = .ok (.laload, 1) := by decide +kernel
theorem dL_law_776 : decode cL_law 776 = .ok (.iload 7, 2) := by decide +kernel
theorem dL_law_778 : decode cL_law 778 = .ok (.i2l, 1) := by decide +kernel
theorem dL_law_779 : decode cL_law 779 = .ok (.lcmp, 1) := by decide +kernel
theorem dL_law_780 : decode cL_law 780 = .ok (.ifCond .eq 5, 3) := by decide +kernel
theorem dL_law_783 : decode cL_law 783 = .ok (.iconst 0, 1) := by decide +kernel
theorem dL_law_784 : decode cL_law 784 = .ok (.ireturn, 1) := by decide +kernel
theorem dL_law_785 : decode cL_law 785 = .ok (.goto 2615, 3) := by decide +kernel
theorem dL_law_788 : decode cL_law 788 = .ok (.aload_n 1, 1) := by decide +kernel
theorem dL_law_789 : decode cL_law 789 = .ok (.aload_n 0, 1) := by decide +kernel
theorem dL_law_790 : decode cL_law 790 = .ok (.iload 5, 2) := by decide +kernel
theorem dL_law_792 : decode cL_law 792 = .ok (.iconst 1, 1) := by decide +kernel
theorem dL_law_793 : decode cL_law 793 = .ok (.iadd, 1) := by decide +kernel
theorem dL_law_794 : decode cL_law 794 = .ok (.iaload, 1) := by decide +kernel
theorem dL_law_795 : decode cL_law 795 = .ok (.aload_n 0, 1) := by decide +kernel
theorem dL_law_796 : decode cL_law 796 = .ok (.iload 5, 2) := by decide +kernel
theorem dL_law_798 : decode cL_law 798 = .ok (.iconst 2, 1) := by decide +kernel
theorem dL_law_799 : decode cL_law 799 = .ok (.iadd, 1) := by decide +kernel
theorem dL_law_800 : decode cL_law 800 = .ok (.iaload, 1) := by decide +kernel
theorem dL_law_801 : decode cL_law 801 = .ok (.aload_n 0, 1) := by decide +kernel
theorem dL_law_802 : decode cL_law 802 = .ok (.iload 5, 2) := by decide +kernel
theorem dL_law_804 : decode cL_law 804 = .ok (.iconst 3, 1) := by decide +kernel
theorem dL_law_805 : decode cL_law 805 = .ok (.iadd, 1) := by decide +kernel
theorem dL_law_806 : decode cL_law 806 = .ok (.iaload, 1) := by decide +kernel
theorem dL_law_807 : decode cL_law 807 = .ok (.aload_n 3, 1) := by decide +kernel
theorem dL_law_808 : decode cL_law 808 = .ok (.invokestatic 202, 3) := by decide +kernel
theorem dL_law_811 : decode cL_law 811 = .ok (.istore 6, 2) := by decide +kernel
theorem dL_law_813 : decode cL_law 813 = .ok (.aload_n 2, 1) := by decide +kernel
theorem dL_law_814 : decode cL_law 814 = .ok (.aload_n 0, 1) := by decide +kernel
theorem dL_law_815 : decode cL_law 815 = .ok (.iload 5, 2) := by decide +kernel
theorem dL_law_817 : decode cL_law 817 = .ok (.iconst 1, 1) := by decide +kernel
theorem dL_law_818 : decode cL_law 818 = .ok (.iadd, 1) := by decide +kernel
theorem dL_law_819 : decode cL_law 819 = .ok (.iaload, 1) := by decide +kernel
theorem dL_law_820 : decode cL_law 820 = .ok (.aload_n 0, 1) := by decide +kernel
theorem dL_law_821 : decode cL_law 821 = .ok (.iload 5, 2) := by decide +kernel
theorem dL_law_823 : decode cL_law 823 = .ok (.iconst 2, 1) := by decide +kernel
theorem dL_law_824 : decode cL_law 824 = .ok (.iadd, 1) := by decide +kernel
theorem dL_law_825 : decode cL_law 825 = .ok (.iaload, 1) := by decide +kernel
theorem dL_law_826 : decode cL_law 826 = .ok (.aload_n 0, 1) := by decide +kernel
theorem dL_law_827 : decode cL_law 827 = .ok (.iload 5, 2) := by decide +kernel
theorem dL_law_829 : decode cL_law 829 = .ok (.iconst 3, 1) := by decide +kernel
theorem dL_law_830 : decode cL_law 830 = .ok (.iadd, 1) := by decide +kernel
theorem dL_law_831 : decode cL_law 831 = .ok (.iaload, 1) := by decide +kernel
theorem dL_law_832 : decode cL_law 832 = .ok (.invokevirtual 204, 3) := by decide +kernel
theorem dL_law_835 : decode cL_law 835 = .ok (.istore 7, 2) := by decide +kernel
theorem dL_law_837 : decode cL_law 837 = .ok (.aload_n 2, 1) := by decide +kernel
theorem dL_law_838 : decode cL_law 838 = .ok (.invokevirtual 172, 3) := by decide +kernel
theorem dL_law_841 : decode cL_law 841 = .ok (.iload 6, 2) := by decide +kernel
theorem dL_law_843 : decode cL_law 843 = .ok (.if_icmp .eq 5, 3) := by decide +kernel
theorem dL_law_846 : decode cL_law 846 = .ok (.iconst 0, 1) := by decide +kernel
theorem dL_law_847 : decode cL_law 847 = .ok (.ireturn, 1) := by decide +kernel
theorem dL_law_848 : decode cL_law 848 = .ok (.iload 6, 2) := by decide +kernel
theorem dL_law_850 : decode cL_law 850 = .ok (.ifCond .ne 15, 3) := by decide +kernel
theorem dL_law_853 : decode cL_law 853 = .ok (.aload_n 3, 1) := by decide +kernel
theorem dL_law_854 : decode cL_law 854 = .ok (.iconst 0, 1) := by decide +kernel
theorem dL_law_855 : decode cL_law 855 = .ok (.laload, 1) := by decide +kernel
theorem dL_law_856 : decode cL_law 856 = .ok (.iload 7, 2) := by decide +kernel
theorem dL_law_858 : decode cL_law 858 = .ok (.i2l, 1) := by decide +kernel
theorem dL_law_859 : decode cL_law 859 = .ok (.lcmp, 1) := by decide +kernel
theorem dL_law_860 : decode cL_law 860 = .ok (.ifCond .eq 5, 3) := by decide +kernel
theorem dL_law_863 : decode cL_law 863 = .ok (.iconst 0, 1) := by decide +kernel
theorem dL_law_864 : decode cL_law 864 = .ok (.ireturn, 1) := by decide +kernel
theorem dL_law_865 : decode cL_law 865 = .ok (.goto 2535, 3) := by decide +kernel
theorem dL_law_868 : decode cL_law 868 = .ok (.aload_n 1, 1) := by decide +kernel
theorem dL_law_869 : decode cL_law 869 = .ok (.aload_n 0, 1) := by decide +kernel
theorem dL_law_870 : decode cL_law 870 = .ok (.iload 5, 2) := by decide +kernel
theorem dL_law_872 : decode cL_law 872 = .ok (.iconst 1, 1) := by decide +kernel
theorem dL_law_873 : decode cL_law 873 = .ok (.iadd, 1) := by decide +kernel
theorem dL_law_874 : decode cL_law 874 = .ok (.iaload, 1) := by decide +kernel
theorem dL_law_875 : decode cL_law 875 = .ok (.aload_n 0, 1) := by decide +kernel
theorem dL_law_876 : decode cL_law 876 = .ok (.iload 5, 2) := by decide +kernel
theorem dL_law_878 : decode cL_law 878 = .ok (.iconst 2, 1) := by decide +kernel
theorem dL_law_879 : decode cL_law 879 = .ok (.iadd, 1) := by decide +kernel
theorem dL_law_880 : decode cL_law 880 = .ok (.iaload, 1) := by decide +kernel
theorem dL_law_881 : decode cL_law 881 = .ok (.aload_n 3, 1) := by decide +kernel
theorem dL_law_882 : decode cL_law 882 = .ok (.invokestatic 205, 3) := by decide +kernel
theorem dL_law_885 : decode cL_law 885 = .ok (.istore 6, 2) := by decide +kernel
theorem dL_law_887 : decode cL_law 887 = .ok (.aload_n 2, 1) := by decide +kernel
theorem dL_law_888 : decode cL_law 888 = .ok (.aload_n 0, 1) := by decide +kernel
theorem dL_law_889 : decode cL_law 889 = .ok (.iload 5, 2) := by decide +kernel
theorem dL_law_891 : decode cL_law 891 = .ok (.iconst 1, 1) := by decide +kernel
theorem dL_law_892 : decode cL_law 892 = .ok (.iadd, 1) := by decide +kernel
theorem dL_law_893 : decode cL_law 893 = .ok (.iaload, 1) := by decide +kernel
theorem dL_law_894 : decode cL_law 894 = .ok (.aload_n 0, 1) := by decide +kernel
theorem dL_law_895 : decode cL_law 895 = .ok (.iload 5, 2) := by decide +kernel
theorem dL_law_897 : decode cL_law 897 = .ok (.iconst 2, 1) := by decide +kernel
theorem dL_law_898 : decode cL_law 898 = .ok (.iadd, 1) := by decide +kernel
theorem dL_law_899 : decode cL_law 899 = .ok (.iaload, 1) := by decide +kernel
theorem dL_law_900 : decode cL_law 900 = .ok (.invokevirtual 207, 3) := by decide +kernel
theorem dL_law_903 : decode cL_law 903 = .ok (.istore 7, 2) := by decide +kernel
theorem dL_law_905 : decode cL_law 905 = .ok (.aload_n 2, 1) := by decide +kernel
theorem dL_law_906 : decode cL_law 906 = .ok (.invokevirtual 172, 3) := by decide +kernel
theorem dL_law_909 : decode cL_law 909 = .ok (.iload 6, 2) := by decide +kernel
theorem dL_law_911 : decode cL_law 911 = .ok (.if_icmp .eq 5, 3) := by decide +kernel
theorem dL_law_914 : decode cL_law 914 = .ok (.iconst 0, 1) := by decide +kernel
theorem dL_law_915 : decode cL_law 915 = .ok (.ireturn, 1) := by decide +kernel
theorem dL_law_916 : decode cL_law 916 = .ok (.iload 6, 2) := by decide +kernel
theorem dL_law_918 : decode cL_law 918 = .ok (.ifCond .ne 15, 3) := by decide +kernel
theorem dL_law_921 : decode cL_law 921 = .ok (.aload_n 3, 1) := by decide +kernel
theorem dL_law_922 : decode cL_law 922 = .ok (.iconst 0, 1) := by decide +kernel
theorem dL_law_923 : decode cL_law 923 = .ok (.laload, 1) := by decide +kernel
theorem dL_law_924 : decode cL_law 924 = .ok (.iload 7, 2) := by decide +kernel
theorem dL_law_926 : decode cL_law 926 = .ok (.i2l, 1) := by decide +kernel
theorem dL_law_927 : decode cL_law 927 = .ok (.lcmp, 1) := by decide +kernel
theorem dL_law_928 : decode cL_law 928 = .ok (.ifCond .eq 5, 3) := by decide +kernel
theorem dL_law_931 : decode cL_law 931 = .ok (.iconst 0, 1) := by decide +kernel
theorem dL_law_932 : decode cL_law 932 = .ok (.ireturn, 1) := by decide +kernel
theorem dL_law_933 : decode cL_law 933 = .ok (.goto 2467, 3) := by decide +kernel
theorem dL_law_936 : decode cL_law 936 = .ok (.aload_n 1, 1) := by decide +kernel
theorem dL_law_937 : decode cL_law 937 = .ok (.aload_n 0, 1) := by decide +kernel
theorem dL_law_938 : decode cL_law 938 = .ok (.iload 5, 2) := by decide +kernel
theorem dL_law_940 : decode cL_law 940 = .ok (.iconst 1, 1) := by decide +kernel
theorem dL_law_941 : decode cL_law 941 = .ok (.iadd, 1) := by decide +kernel
theorem dL_law_942 : decode cL_law 942 = .ok (.iaload, 1) := by decide +kernel
theorem dL_law_943 : decode cL_law 943 = .ok (.aload_n 0, 1) := by decide +kernel
theorem dL_law_944 : decode cL_law 944 = .ok (.iload 5, 2) := by decide +kernel
theorem dL_law_946 : decode cL_law 946 = .ok (.iconst 2, 1) := by decide +kernel
theorem dL_law_947 : decode cL_law 947 = .ok (.iadd, 1) := by decide +kernel
theorem dL_law_948 : decode cL_law 948 = .ok (.iaload, 1) := by decide +kernel
theorem dL_law_949 : decode cL_law 949 = .ok (.aload_n 3, 1) := by decide +kernel
theorem dL_law_950 : decode cL_law 950 = .ok (.invokestatic 208, 3) := by decide +kernel
theorem dL_law_953 : decode cL_law 953 = .ok (.istore 6, 2) := by decide +kernel
theorem dL_law_955 : decode cL_law 955 = .ok (.aload_n 2, 1) := by decide +kernel
theorem dL_law_956 : decode cL_law 956 = .ok (.aload_n 0, 1) := by decide +kernel
theorem dL_law_957 : decode cL_law 957 = .ok (.iload 5, 2) := by decide +kernel
theorem dL_law_959 : decode cL_law 959 = .ok (.iconst 1, 1) := by decide +kernel
theorem dL_law_960 : decode cL_law 960 = .ok (.iadd, 1) := by decide +kernel
theorem dL_law_961 : decode cL_law 961 = .ok (.iaload, 1) := by decide +kernel
theorem dL_law_962 : decode cL_law 962 = .ok (.aload_n 0, 1) := by decide +kernel
theorem dL_law_963 : decode cL_law 963 = .ok (.iload 5, 2) := by decide +kernel
theorem dL_law_965 : decode cL_law 965 = .ok (.iconst 2, 1) := by decide +kernel
theorem dL_law_966 : decode cL_law 966 = .ok (.iadd, 1) := by decide +kernel
theorem dL_law_967 : decode cL_law 967 = .ok (.iaload, 1) := by decide +kernel
theorem dL_law_968 : decode cL_law 968 = .ok (.invokevirtual 210, 3) := by decide +kernel
theorem dL_law_971 : decode cL_law 971 = .ok (.istore 7, 2) := by decide +kernel
theorem dL_law_973 : decode cL_law 973 = .ok (.aload_n 2, 1) := by decide +kernel
theorem dL_law_974 : decode cL_law 974 = .ok (.invokevirtual 172, 3) := by decide +kernel
theorem dL_law_977 : decode cL_law 977 = .ok (.iload 6, 2) := by decide +kernel
theorem dL_law_979 : decode cL_law 979 = .ok (.if_icmp .eq 5, 3) := by decide +kernel
theorem dL_law_982 : decode cL_law 982 = .ok (.iconst 0, 1) := by decide +kernel
theorem dL_law_983 : decode cL_law 983 = .ok (.ireturn, 1) := by decide +kernel
theorem dL_law_984 : decode cL_law 984 = .ok (.iload 6, 2) := by decide +kernel
theorem dL_law_986 : decode cL_law 986 = .ok (.ifCond .ne 22, 3) := by decide +kernel
theorem dL_law_989 : decode cL_law 989 = .ok (.aload_n 3, 1) := by decide +kernel
theorem dL_law_990 : decode cL_law 990 = .ok (.iconst 0, 1) := by decide +kernel
theorem dL_law_991 : decode cL_law 991 = .ok (.laload, 1) := by decide +kernel
theorem dL_law_992 : decode cL_law 992 = .ok (.iload 7, 2) := by decide +kernel
theorem dL_law_994 : decode cL_law 994 = .ok (.ifCond .eq 7, 3) := by decide +kernel
theorem dL_law_997 : decode cL_law 997 = .ok (.lconst 1, 1) := by decide +kernel
theorem dL_law_998 : decode cL_law 998 = .ok (.goto 4, 3) := by decide +kernel
theorem dL_law_1001 : decode cL_law 1001 = .ok (.lconst 0, 1) := by decide +kernel
theorem dL_law_1002 : decode cL_law 1002 = .ok (.lcmp, 1) := by decide +kernel
theorem dL_law_1003 : decode cL_law 1003 = .ok (.ifCond .eq 5, 3) := by decide +kernel
theorem dL_law_1006 : decode cL_law 1006 = .ok (.iconst 0, 1) := by decide +kernel
theorem dL_law_1007 : decode cL_law 1007 = .ok (.ireturn, 1) := by decide +kernel
theorem dL_law_1008 : decode cL_law 1008 = .ok (.goto 2392, 3) := by decide +kernel
theorem dL_law_1011 : decode cL_law 1011 = .ok (.aload_n 1, 1) := by decide +kernel
theorem dL_law_1012 : decode cL_law 1012 = .ok (.aload_n 0, 1) := by decide +kernel
theorem dL_law_1013 : decode cL_law 1013 = .ok (.iload 5, 2) := by decide +kernel
theorem dL_law_1015 : decode cL_law 1015 = .ok (.iconst 1, 1) := by decide +kernel
theorem dL_law_1016 : decode cL_law 1016 = .ok (.iadd, 1) := by decide +kernel
theorem dL_law_1017 : decode cL_law 1017 = .ok (.iaload, 1) := by decide +kernel
theorem dL_law_1018 : decode cL_law 1018 = .ok (.aload_n 0, 1) := by decide +kernel
theorem dL_law_1019 : decode cL_law 1019 = .ok (.iload 5, 2) := by decide +kernel
theorem dL_law_1021 : decode cL_law 1021 = .ok (.iconst 2, 1) := by decide +kernel
theorem dL_law_1022 : decode cL_law 1022 = .ok (.iadd, 1) := by decide +kernel
theorem dL_law_1023 : decode cL_law 1023 = .ok (.iaload, 1) := by decide +kernel
theorem dL_law_1024 : decode cL_law 1024 = .ok (.aload_n 3, 1) := by decide +kernel
theorem dL_law_1025 : decode cL_law 1025 = .ok (.invokestatic 211, 3) := by decide +kernel
theorem dL_law_1028 : decode cL_law 1028 = .ok (.istore 6, 2) := by decide +kernel
theorem dL_law_1030 : decode cL_law 1030 = .ok (.aload_n 2, 1) := by decide +kernel
theorem dL_law_1031 : decode cL_law 1031 = .ok (.aload_n 0, 1) := by decide +kernel
theorem dL_law_1032 : decode cL_law 1032 = .ok (.iload 5, 2) := by decide +kernel
theorem dL_law_1034 : decode cL_law 1034 = .ok (.iconst 1, 1) := by decide +kernel
theorem dL_law_1035 : decode cL_law 1035 = .ok (.iadd, 1) := by decide +kernel
theorem dL_law_1036 : decode cL_law 1036 = .ok (.iaload, 1) := by decide +kernel
theorem dL_law_1037 : decode cL_law 1037 = .ok (.aload_n 0, 1) := by decide +kernel
theorem dL_law_1038 : decode cL_law 1038 = .ok (.iload 5, 2) := by decide +kernel
theorem dL_law_1040 : decode cL_law 1040 = .ok (.iconst 2, 1) := by decide +kernel
theorem dL_law_1041 : decode cL_law 1041 = .ok (.iadd, 1) := by decide +kernel
theorem dL_law_1042 : decode cL_law 1042 = .ok (.iaload, 1) := by decide +kernel
theorem dL_law_1043 : decode cL_law 1043 = .ok (.invokevirtual 213, 3) := by decide +kernel
theorem dL_law_1046 : decode cL_law 1046 = .ok (.istore 7, 2) := by decide +kernel
theorem dL_law_1048 : decode cL_law 1048 = .ok (.aload_n 2, 1) := by decide +kernel
theorem dL_law_1049 : decode cL_law 1049 = .ok (.invokevirtual 172, 3) := by decide +kernel
theorem dL_law_1052 : decode cL_law 1052 = .ok (.iload 6, 2) := by decide +kernel
theorem dL_law_1054 : decode cL_law 1054 = .ok (.if_icmp .eq 5, 3) := by decide +kernel
theorem dL_law_1057 : decode cL_law 1057 = .ok (.iconst 0, 1) := by decide +kernel
theorem dL_law_1058 : decode cL_law 1058 = .ok (.ireturn, 1) := by decide +kernel
theorem dL_law_1059 : decode cL_law 1059 = .ok (.iload 6, 2) := by decide +kernel
theorem dL_law_1061 : decode cL_law 1061 = .ok (.ifCond .ne 15, 3) := by decide +kernel
theorem dL_law_1064 : decode cL_law 1064 = .ok (.aload_n 3, 1) := by decide +kernel
theorem dL_law_1065 : decode cL_law 1065 = .ok (.iconst 0, 1) := by decide +kernel
theorem dL_law_1066 : decode cL_law 1066 = .ok (.laload, 1) := by decide +kernel
theorem dL_law_1067 : decode cL_law 1067 = .ok (.iload 7, 2) := by decide +kernel
theorem dL_law_1069 : decode cL_law 1069 = .ok (.i2l, 1) := by decide +kernel
theorem dL_law_1070 : decode cL_law 1070 = .ok (.lcmp, 1) := by decide +kernel
theorem dL_law_1071 : decode cL_law 1071 = .ok (.ifCond .eq 5, 3) := by decide +kernel
theorem dL_law_1074 : decode cL_law 1074 = .ok (.iconst 0, 1) := by decide +kernel
theorem dL_law_1075 : decode cL_law 1075 = .ok (.ireturn, 1) := by decide +kernel
theorem dL_law_1076 : decode cL_law 1076 = .ok (.goto 2324, 3) := by decide +kernel
theorem dL_law_1079 : decode cL_law 1079 = .ok (.aload_n 1, 1) := by decide +kernel
theorem dL_law_1080 : decode cL_law 1080 = .ok (.aload_n 0, 1) := by decide +kernel
theorem dL_law_1081 : decode cL_law 1081 = .ok (.iload 5, 2) := by decide +kernel
theorem dL_law_1083 : decode cL_law 1083 = .ok (.iconst 1, 1) := by decide +kernel
theorem dL_law_1084 : decode cL_law 1084 = .ok (.iadd, 1) := by decide +kernel
theorem dL_law_1085 : decode cL_law 1085 = .ok (.iaload, 1) := by decide +kernel
theorem dL_law_1086 : decode cL_law 1086 = .ok (.aload_n 3, 1) := by decide +kernel
theorem dL_law_1087 : decode cL_law 1087 = .ok (.invokestatic 214, 3) := by decide +kernel
theorem dL_law_1090 : decode cL_law 1090 = .ok (.istore 6, 2) := by decide +kernel
theorem dL_law_1092 : decode cL_law 1092 = .ok (.aload_n 2, 1) := by decide +kernel
theorem dL_law_1093 : decode cL_law 1093 = .ok (.aload_n 0, 1) := by decide +kernel
theorem dL_law_1094 : decode cL_law 1094 = .ok (.iload 5, 2) := by decide +kernel
theorem dL_law_1096 : decode cL_law 1096 = .ok (.iconst 1, 1) := by decide +kernel
theorem dL_law_1097 : decode cL_law 1097 = .ok (.iadd, 1) := by decide +kernel
theorem dL_law_1098 : decode cL_law 1098 = .ok (.iaload, 1) := by decide +kernel
theorem dL_law_1099 : decode cL_law 1099 = .ok (.invokevirtual 216, 3) := by decide +kernel
theorem dL_law_1102 : decode cL_law 1102 = .ok (.istore 7, 2) := by decide +kernel
theorem dL_law_1104 : decode cL_law 1104 = .ok (.aload_n 2, 1) := by decide +kernel
theorem dL_law_1105 : decode cL_law 1105 = .ok (.invokevirtual 172, 3) := by decide +kernel
theorem dL_law_1108 : decode cL_law 1108 = .ok (.iload 6, 2) := by decide +kernel
theorem dL_law_1110 : decode cL_law 1110 = .ok (.if_icmp .eq 5, 3) := by decide +kernel
theorem dL_law_1113 : decode cL_law 1113 = .ok (.iconst 0, 1) := by decide +kernel
theorem dL_law_1114 : decode cL_law 1114 = .ok (.ireturn, 1) := by decide +kernel
theorem dL_law_1115 : decode cL_law 1115 = .ok (.iload 6, 2) := by decide +kernel
theorem dL_law_1117 : decode cL_law 1117 = .ok (.ifCond .ne 15, 3) := by decide +kernel
theorem dL_law_1120 : decode cL_law 1120 = .ok (.aload_n 3, 1) := by decide +kernel
theorem dL_law_1121 : decode cL_law 1121 = .ok (.iconst 0, 1) := by decide +kernel
theorem dL_law_1122 : decode cL_law 1122 = .ok (.laload, 1) := by decide +kernel
theorem dL_law_1123 : decode cL_law 1123 = .ok (.iload 7, 2) := by decide +kernel
theorem dL_law_1125 : decode cL_law 1125 = .ok (.i2l, 1) := by decide +kernel
theorem dL_law_1126 : decode cL_law 1126 = .ok (.lcmp, 1) := by decide +kernel
theorem dL_law_1127 : decode cL_law 1127 = .ok (.ifCond .eq 5, 3) := by decide +kernel
theorem dL_law_1130 : decode cL_law 1130 = .ok (.iconst 0, 1) := by decide +kernel
theorem dL_law_1131 : decode cL_law 1131 = .ok (.ireturn, 1) := by decide +kernel
theorem dL_law_1132 : decode cL_law 1132 = .ok (.goto 2268, 3) := by decide +kernel
theorem dL_law_1135 : decode cL_law 1135 = .ok (.aload_n 1, 1) := by decide +kernel
theorem dL_law_1136 : decode cL_law 1136 = .ok (.aload_n 0, 1) := by decide +kernel
theorem dL_law_1137 : decode cL_law 1137 = .ok (.iload 5, 2) := by decide +kernel
theorem dL_law_1139 : decode cL_law 1139 = .ok (.iconst 1, 1) := by decide +kernel
theorem dL_law_1140 : decode cL_law 1140 = .ok (.iadd, 1) := by decide +kernel
theorem dL_law_1141 : decode cL_law 1141 = .ok (.iaload, 1) := by decide +kernel
theorem dL_law_1142 : decode cL_law 1142 = .ok (.aload_n 0, 1) := by decide +kernel
theorem dL_law_1143 : decode cL_law 1143 = .ok (.iload 5, 2) := by decide +kernel
theorem dL_law_1145 : decode cL_law 1145 = .ok (.iconst 2, 1) := by decide +kernel
theorem dL_law_1146 : decode cL_law 1146 = .ok (.iadd, 1) := by decide +kernel
theorem dL_law_1147 : decode cL_law 1147 = .ok (.iaload, 1) := by decide +kernel
theorem dL_law_1148 : decode cL_law 1148 = .ok (.aload_n 0, 1) := by decide +kernel
theorem dL_law_1149 : decode cL_law 1149 = .ok (.iload 5, 2) := by decide +kernel
theorem dL_law_1151 : decode cL_law 1151 = .ok (.iconst 3, 1) := by decide +kernel
theorem dL_law_1152 : decode cL_law 1152 = .ok (.iadd, 1) := by decide +kernel
theorem dL_law_1153 : decode cL_law 1153 = .ok (.iaload, 1) := by decide +kernel
theorem dL_law_1154 : decode cL_law 1154 = .ok (.aload_n 0, 1) := by decide +kernel
theorem dL_law_1155 : decode cL_law 1155 = .ok (.iload 5, 2) := by decide +kernel
theorem dL_law_1157 : decode cL_law 1157 = .ok (.iconst 4, 1) := by decide +kernel
theorem dL_law_1158 : decode cL_law 1158 = .ok (.iadd, 1) := by decide +kernel
theorem dL_law_1159 : decode cL_law 1159 = .ok (.iaload, 1) := by decide +kernel
theorem dL_law_1160 : decode cL_law 1160 = .ok (.aload_n 0, 1) := by decide +kernel
theorem dL_law_1161 : decode cL_law 1161 = .ok (.iload 5, 2) := by decide +kernel
theorem dL_law_1163 : decode cL_law 1163 = .ok (.iconst 5, 1) := by decide +kernel
theorem dL_law_1164 : decode cL_law 1164 = .ok (.iadd, 1) := by decide +kernel
theorem dL_law_1165 : decode cL_law 1165 = .ok (.iaload, 1) := by decide +kernel
theorem dL_law_1166 : decode cL_law 1166 = .ok (.aload_n 0, 1) := by decide +kernel
theorem dL_law_1167 : decode cL_law 1167 = .ok (.iload 5, 2) := by decide +kernel
theorem dL_law_1169 : decode cL_law 1169 = .ok (.bipush 6, 2) := by decide +kernel
theorem dL_law_1171 : decode cL_law 1171 = .ok (.iadd, 1) := by decide +kernel
theorem dL_law_1172 : decode cL_law 1172 = .ok (.iaload, 1) := by decide +kernel
theorem dL_law_1173 : decode cL_law 1173 = .ok (.aload_n 0, 1) := by decide +kernel
theorem dL_law_1174 : decode cL_law 1174 = .ok (.iload 5, 2) := by decide +kernel
theorem dL_law_1176 : decode cL_law 1176 = .ok (.bipush 7, 2) := by decide +kernel
theorem dL_law_1178 : decode cL_law 1178 = .ok (.iadd, 1) := by decide +kernel
theorem dL_law_1179 : decode cL_law 1179 = .ok (.iaload, 1) := by decide +kernel
theorem dL_law_1180 : decode cL_law 1180 = .ok (.aload_n 3, 1) := by decide +kernel
theorem dL_law_1181 : decode cL_law 1181 = .ok (.invokestatic 217, 3) := by decide +kernel
theorem dL_law_1184 : decode cL_law 1184 = .ok (.istore 6, 2) := by decide +kernel
theorem dL_law_1186 : decode cL_law 1186 = .ok (.aload_n 2, 1) := by decide +kernel
theorem dL_law_1187 : decode cL_law 1187 = .ok (.aload_n 0, 1) := by decide +kernel
theorem dL_law_1188 : decode cL_law 1188 = .ok (.iload 5, 2) := by decide +kernel
theorem dL_law_1190 : decode cL_law 1190 = .ok (.iconst 1, 1) := by decide +kernel
theorem dL_law_1191 : decode cL_law 1191 = .ok (.iadd, 1) := by decide +kernel
theorem dL_law_1192 : decode cL_law 1192 = .ok (.iaload, 1) := by decide +kernel
theorem dL_law_1193 : decode cL_law 1193 = .ok (.aload_n 0, 1) := by decide +kernel
theorem dL_law_1194 : decode cL_law 1194 = .ok (.iload 5, 2) := by decide +kernel
theorem dL_law_1196 : decode cL_law 1196 = .ok (.iconst 2, 1) := by decide +kernel
theorem dL_law_1197 : decode cL_law 1197 = .ok (.iadd, 1) := by decide +kernel
theorem dL_law_1198 : decode cL_law 1198 = .ok (.iaload, 1) := by decide +kernel
theorem dL_law_1199 : decode cL_law 1199 = .ok (.aload_n 0, 1) := by decide +kernel
theorem dL_law_1200 : decode cL_law 1200 = .ok (.iload 5, 2) := by decide +kernel
theorem dL_law_1202 : decode cL_law 1202 = .ok (.iconst 3, 1) := by decide +kernel
theorem dL_law_1203 : decode cL_law 1203 = .ok (.iadd, 1) := by decide +kernel
theorem dL_law_1204 : decode cL_law 1204 = .ok (.iaload, 1) := by decide +kernel
theorem dL_law_1205 : decode cL_law 1205 = .ok (.aload_n 0, 1) := by decide +kernel
theorem dL_law_1206 : decode cL_law 1206 = .ok (.iload 5, 2) := by decide +kernel
theorem dL_law_1208 : decode cL_law 1208 = .ok (.iconst 4, 1) := by decide +kernel
theorem dL_law_1209 : decode cL_law 1209 = .ok (.iadd, 1) := by decide +kernel
theorem dL_law_1210 : decode cL_law 1210 = .ok (.iaload, 1) := by decide +kernel
theorem dL_law_1211 : decode cL_law 1211 = .ok (.aload_n 0, 1) := by decide +kernel
theorem dL_law_1212 : decode cL_law 1212 = .ok (.iload 5, 2) := by decide +kernel
theorem dL_law_1214 : decode cL_law 1214 = .ok (.iconst 5, 1) := by decide +kernel
theorem dL_law_1215 : decode cL_law 1215 = .ok (.iadd, 1) := by decide +kernel
theorem dL_law_1216 : decode cL_law 1216 = .ok (.iaload, 1) := by decide +kernel
theorem dL_law_1217 : decode cL_law 1217 = .ok (.aload_n 0, 1) := by decide +kernel
theorem dL_law_1218 : decode cL_law 1218 = .ok (.iload 5, 2) := by decide +kernel
theorem dL_law_1220 : decode cL_law 1220 = .ok (.bipush 6, 2) := by decide +kernel
theorem dL_law_1222 : decode cL_law 1222 = .ok (.iadd, 1) := by decide +kernel
theorem dL_law_1223 : decode cL_law 1223 = .ok (.iaload, 1) := by decide +kernel
theorem dL_law_1224 : decode cL_law 1224 = .ok (.aload_n 0, 1) := by decide +kernel
theorem dL_law_1225 : decode cL_law 1225 = .ok (.iload 5, 2) := by decide +kernel
theorem dL_law_1227 : decode cL_law 1227 = .ok (.bipush 7, 2) := by decide +kernel
theorem dL_law_1229 : decode cL_law 1229 = .ok (.iadd, 1) := by decide +kernel
theorem dL_law_1230 : decode cL_law 1230 = .ok (.iaload, 1) := by decide +kernel
theorem dL_law_1231 : decode cL_law 1231 = .ok (.invokevirtual 220, 3) := by decide +kernel
theorem dL_law_1234 : decode cL_law 1234 = .ok (.istore 7, 2) := by decide +kernel
theorem dL_law_1236 : decode cL_law 1236 = .ok (.aload_n 2, 1) := by decide +kernel
theorem dL_law_1237 : decode cL_law 1237 = .ok (.invokevirtual 172, 3) := by decide +kernel
theorem dL_law_1240 : decode cL_law 1240 = .ok (.iload 6, 2) := by decide +kernel
theorem dL_law_1242 : decode cL_law 1242 = .ok (.if_icmp .eq 5, 3) := by decide +kernel
theorem dL_law_1245 : decode cL_law 1245 = .ok (.iconst 0, 1) := by decide +kernel
theorem dL_law_1246 : decode cL_law 1246 = .ok (.ireturn, 1) := by decide +kernel
theorem dL_law_1247 : decode cL_law 1247 = .ok (.iload 6, 2) := by decide +kernel
theorem dL_law_1249 : decode cL_law 1249 = .ok (.ifCond .ne 15, 3) := by decide +kernel
theorem dL_law_1252 : decode cL_law 1252 = .ok (.aload_n 3, 1) := by decide +kernel
theorem dL_law_1253 : decode cL_law 1253 = .ok (.iconst 0, 1) := by decide +kernel
theorem dL_law_1254 : decode cL_law 1254 = .ok (.laload, 1) := by decide +kernel
theorem dL_law_1255 : decode cL_law 1255 = .ok (.iload 7, 2) := by decide +kernel
theorem dL_law_1257 : decode cL_law 1257 = .ok (.i2l, 1) := by decide +kernel
theorem dL_law_1258 : decode cL_law 1258 = .ok (.lcmp, 1) := by decide +kernel
theorem dL_law_1259 : decode cL_law 1259 = .ok (.ifCond .eq 5, 3) := by decide +kernel
theorem dL_law_1262 : decode cL_law 1262 = .ok (.iconst 0, 1) := by decide +kernel
theorem dL_law_1263 : decode cL_law 1263 = .ok (.ireturn, 1) := by decide +kernel
theorem dL_law_1264 : decode cL_law 1264 = .ok (.goto 2136, 3) := by decide +kernel
theorem dL_law_1267 : decode cL_law 1267 = .ok (.aload_n 1, 1) := by decide +kernel
theorem dL_law_1268 : decode cL_law 1268 = .ok (.aload_n 0, 1) := by decide +kernel
theorem dL_law_1269 : decode cL_law 1269 = .ok (.iload 5, 2) := by decide +kernel
theorem dL_law_1271 : decode cL_law 1271 = .ok (.iconst 1, 1) := by decide +kernel
theorem dL_law_1272 : decode cL_law 1272 = .ok (.iadd, 1) := by decide +kernel
theorem dL_law_1273 : decode cL_law 1273 = .ok (.iaload, 1) := by decide +kernel
theorem dL_law_1274 : decode cL_law 1274 = .ok (.aload_n 0, 1) := by decide +kernel
theorem dL_law_1275 : decode cL_law 1275 = .ok (.iload 5, 2) := by decide +kernel
theorem dL_law_1277 : decode cL_law 1277 = .ok (.iconst 2, 1) := by decide +kernel
theorem dL_law_1278 : decode cL_law 1278 = .ok (.iadd, 1) := by decide +kernel
theorem dL_law_1279 : decode cL_law 1279 = .ok (.iaload, 1) := by decide +kernel
theorem dL_law_1280 : decode cL_law 1280 = .ok (.aload_n 3, 1) := by decide +kernel
theorem dL_law_1281 : decode cL_law 1281 = .ok (.invokestatic 221, 3) := by decide +kernel
theorem dL_law_1284 : decode cL_law 1284 = .ok (.istore 6, 2) := by decide +kernel
theorem dL_law_1286 : decode cL_law 1286 = .ok (.aload_n 2, 1) := by decide +kernel
theorem dL_law_1287 : decode cL_law 1287 = .ok (.aload_n 0, 1) := by decide +kernel
theorem dL_law_1288 : decode cL_law 1288 = .ok (.iload 5, 2) := by decide +kernel
theorem dL_law_1290 : decode cL_law 1290 = .ok (.iconst 1, 1) := by decide +kernel
theorem dL_law_1291 : decode cL_law 1291 = .ok (.iadd, 1) := by decide +kernel
theorem dL_law_1292 : decode cL_law 1292 = .ok (.iaload, 1) := by decide +kernel
theorem dL_law_1293 : decode cL_law 1293 = .ok (.aload_n 0, 1) := by decide +kernel
theorem dL_law_1294 : decode cL_law 1294 = .ok (.iload 5, 2) := by decide +kernel
theorem dL_law_1296 : decode cL_law 1296 = .ok (.iconst 2, 1) := by decide +kernel
theorem dL_law_1297 : decode cL_law 1297 = .ok (.iadd, 1) := by decide +kernel
theorem dL_law_1298 : decode cL_law 1298 = .ok (.iaload, 1) := by decide +kernel
theorem dL_law_1299 : decode cL_law 1299 = .ok (.invokevirtual 223, 3) := by decide +kernel
theorem dL_law_1302 : decode cL_law 1302 = .ok (.istore 7, 2) := by decide +kernel
theorem dL_law_1304 : decode cL_law 1304 = .ok (.aload_n 2, 1) := by decide +kernel
theorem dL_law_1305 : decode cL_law 1305 = .ok (.invokevirtual 172, 3) := by decide +kernel
theorem dL_law_1308 : decode cL_law 1308 = .ok (.iload 6, 2) := by decide +kernel
theorem dL_law_1310 : decode cL_law 1310 = .ok (.if_icmp .eq 5, 3) := by decide +kernel
theorem dL_law_1313 : decode cL_law 1313 = .ok (.iconst 0, 1) := by decide +kernel
theorem dL_law_1314 : decode cL_law 1314 = .ok (.ireturn, 1) := by decide +kernel
theorem dL_law_1315 : decode cL_law 1315 = .ok (.iload 6, 2) := by decide +kernel
theorem dL_law_1317 : decode cL_law 1317 = .ok (.ifCond .ne 15, 3) := by decide +kernel
theorem dL_law_1320 : decode cL_law 1320 = .ok (.aload_n 3, 1) := by decide +kernel
theorem dL_law_1321 : decode cL_law 1321 = .ok (.iconst 0, 1) := by decide +kernel
theorem dL_law_1322 : decode cL_law 1322 = .ok (.laload, 1) := by decide +kernel
theorem dL_law_1323 : decode cL_law 1323 = .ok (.iload 7, 2) := by decide +kernel
theorem dL_law_1325 : decode cL_law 1325 = .ok (.i2l, 1) := by decide +kernel
theorem dL_law_1326 : decode cL_law 1326 = .ok (.lcmp, 1) := by decide +kernel
theorem dL_law_1327 : decode cL_law 1327 = .ok (.ifCond .eq 5, 3) := by decide +kernel
theorem dL_law_1330 : decode cL_law 1330 = .ok (.iconst 0, 1) := by decide +kernel
theorem dL_law_1331 : decode cL_law 1331 = .ok (.ireturn, 1) := by decide +kernel
theorem dL_law_1332 : decode cL_law 1332 = .ok (.goto 2068, 3) := by decide +kernel
theorem dL_law_1335 : decode cL_law 1335 = .ok (.aload_n 1, 1) := by decide +kernel
theorem dL_law_1336 : decode cL_law 1336 = .ok (.aload_n 0, 1) := by decide +kernel
theorem dL_law_1337 : decode cL_law 1337 = .ok (.iload 5, 2) := by decide +kernel
theorem dL_law_1339 : decode cL_law 1339 = .ok (.iconst 1, 1) := by decide +kernel
theorem dL_law_1340 : decode cL_law 1340 = .ok (.iadd, 1) := by decide +kernel
theorem dL_law_1341 : decode cL_law 1341 = .ok (.iaload, 1) := by decide +kernel
theorem dL_law_1342 : decode cL_law 1342 = .ok (.aload_n 0, 1) := by decide +kernel
theorem dL_law_1343 : decode cL_law 1343 = .ok (.iload 5, 2) := by decide +kernel
theorem dL_law_1345 : decode cL_law 1345 = .ok (.iconst 2, 1) := by decide +kernel
theorem dL_law_1346 : decode cL_law 1346 = .ok (.iadd, 1) := by decide +kernel
theorem dL_law_1347 : decode cL_law 1347 = .ok (.iaload, 1) := by decide +kernel
theorem dL_law_1348 : decode cL_law 1348 = .ok (.aload_n 3, 1) := by decide +kernel
theorem dL_law_1349 : decode cL_law 1349 = .ok (.invokestatic 224, 3) := by decide +kernel
theorem dL_law_1352 : decode cL_law 1352 = .ok (.istore 6, 2) := by decide +kernel
theorem dL_law_1354 : decode cL_law 1354 = .ok (.aload_n 2, 1) := by decide +kernel
theorem dL_law_1355 : decode cL_law 1355 = .ok (.aload_n 0, 1) := by decide +kernel
theorem dL_law_1356 : decode cL_law 1356 = .ok (.iload 5, 2) := by decide +kernel
theorem dL_law_1358 : decode cL_law 1358 = .ok (.iconst 1, 1) := by decide +kernel
theorem dL_law_1359 : decode cL_law 1359 = .ok (.iadd, 1) := by decide +kernel
theorem dL_law_1360 : decode cL_law 1360 = .ok (.iaload, 1) := by decide +kernel
theorem dL_law_1361 : decode cL_law 1361 = .ok (.aload_n 0, 1) := by decide +kernel
theorem dL_law_1362 : decode cL_law 1362 = .ok (.iload 5, 2) := by decide +kernel
theorem dL_law_1364 : decode cL_law 1364 = .ok (.iconst 2, 1) := by decide +kernel
theorem dL_law_1365 : decode cL_law 1365 = .ok (.iadd, 1) := by decide +kernel
theorem dL_law_1366 : decode cL_law 1366 = .ok (.iaload, 1) := by decide +kernel
theorem dL_law_1367 : decode cL_law 1367 = .ok (.invokevirtual 226, 3) := by decide +kernel
theorem dL_law_1370 : decode cL_law 1370 = .ok (.istore 7, 2) := by decide +kernel
theorem dL_law_1372 : decode cL_law 1372 = .ok (.aload_n 2, 1) := by decide +kernel
theorem dL_law_1373 : decode cL_law 1373 = .ok (.invokevirtual 172, 3) := by decide +kernel
theorem dL_law_1376 : decode cL_law 1376 = .ok (.iload 6, 2) := by decide +kernel
theorem dL_law_1378 : decode cL_law 1378 = .ok (.if_icmp .eq 5, 3) := by decide +kernel
theorem dL_law_1381 : decode cL_law 1381 = .ok (.iconst 0, 1) := by decide +kernel
theorem dL_law_1382 : decode cL_law 1382 = .ok (.ireturn, 1) := by decide +kernel
theorem dL_law_1383 : decode cL_law 1383 = .ok (.iload 6, 2) := by decide +kernel
theorem dL_law_1385 : decode cL_law 1385 = .ok (.ifCond .ne 15, 3) := by decide +kernel
theorem dL_law_1388 : decode cL_law 1388 = .ok (.aload_n 3, 1) := by decide +kernel
theorem dL_law_1389 : decode cL_law 1389 = .ok (.iconst 0, 1) := by decide +kernel
theorem dL_law_1390 : decode cL_law 1390 = .ok (.laload, 1) := by decide +kernel
theorem dL_law_1391 : decode cL_law 1391 = .ok (.iload 7, 2) := by decide +kernel
theorem dL_law_1393 : decode cL_law 1393 = .ok (.i2l, 1) := by decide +kernel
theorem dL_law_1394 : decode cL_law 1394 = .ok (.lcmp, 1) := by decide +kernel
theorem dL_law_1395 : decode cL_law 1395 = .ok (.ifCond .eq 5, 3) := by decide +kernel
theorem dL_law_1398 : decode cL_law 1398 = .ok (.iconst 0, 1) := by decide +kernel
theorem dL_law_1399 : decode cL_law 1399 = .ok (.ireturn, 1) := by decide +kernel
theorem dL_law_1400 : decode cL_law 1400 = .ok (.goto 2000, 3) := by decide +kernel
theorem dL_law_1403 : decode cL_law 1403 = .ok (.aload_n 1, 1) := by decide +kernel
theorem dL_law_1404 : decode cL_law 1404 = .ok (.aload_n 0, 1) := by decide +kernel
theorem dL_law_1405 : decode cL_law 1405 = .ok (.iload 5, 2) := by decide +kernel
theorem dL_law_1407 : decode cL_law 1407 = .ok (.iconst 1, 1) := by decide +kernel
theorem dL_law_1408 : decode cL_law 1408 = .ok (.iadd, 1) := by decide +kernel
theorem dL_law_1409 : decode cL_law 1409 = .ok (.iaload, 1) := by decide +kernel
theorem dL_law_1410 : decode cL_law 1410 = .ok (.aload_n 0, 1) := by decide +kernel
theorem dL_law_1411 : decode cL_law 1411 = .ok (.iload 5, 2) := by decide +kernel
theorem dL_law_1413 : decode cL_law 1413 = .ok (.iconst 2, 1) := by decide +kernel
theorem dL_law_1414 : decode cL_law 1414 = .ok (.iadd, 1) := by decide +kernel
theorem dL_law_1415 : decode cL_law 1415 = .ok (.iaload, 1) := by decide +kernel
theorem dL_law_1416 : decode cL_law 1416 = .ok (.aload_n 3, 1) := by decide +kernel
theorem dL_law_1417 : decode cL_law 1417 = .ok (.invokestatic 227, 3) := by decide +kernel
theorem dL_law_1420 : decode cL_law 1420 = .ok (.istore 6, 2) := by decide +kernel
theorem dL_law_1422 : decode cL_law 1422 = .ok (.aload_n 2, 1) := by decide +kernel
theorem dL_law_1423 : decode cL_law 1423 = .ok (.aload_n 0, 1) := by decide +kernel
theorem dL_law_1424 : decode cL_law 1424 = .ok (.iload 5, 2) := by decide +kernel
theorem dL_law_1426 : decode cL_law 1426 = .ok (.iconst 1, 1) := by decide +kernel
theorem dL_law_1427 : decode cL_law 1427 = .ok (.iadd, 1) := by decide +kernel
theorem dL_law_1428 : decode cL_law 1428 = .ok (.iaload, 1) := by decide +kernel
theorem dL_law_1429 : decode cL_law 1429 = .ok (.aload_n 0, 1) := by decide +kernel
theorem dL_law_1430 : decode cL_law 1430 = .ok (.iload 5, 2) := by decide +kernel
theorem dL_law_1432 : decode cL_law 1432 = .ok (.iconst 2, 1) := by decide +kernel
theorem dL_law_1433 : decode cL_law 1433 = .ok (.iadd, 1) := by decide +kernel
theorem dL_law_1434 : decode cL_law 1434 = .ok (.iaload, 1) := by decide +kernel
theorem dL_law_1435 : decode cL_law 1435 = .ok (.invokevirtual 229, 3) := by decide +kernel
theorem dL_law_1438 : decode cL_law 1438 = .ok (.istore 7, 2) := by decide +kernel
theorem dL_law_1440 : decode cL_law 1440 = .ok (.aload_n 2, 1) := by decide +kernel
theorem dL_law_1441 : decode cL_law 1441 = .ok (.invokevirtual 172, 3) := by decide +kernel
theorem dL_law_1444 : decode cL_law 1444 = .ok (.iload 6, 2) := by decide +kernel
theorem dL_law_1446 : decode cL_law 1446 = .ok (.if_icmp .eq 5, 3) := by decide +kernel
theorem dL_law_1449 : decode cL_law 1449 = .ok (.iconst 0, 1) := by decide +kernel
theorem dL_law_1450 : decode cL_law 1450 = .ok (.ireturn, 1) := by decide +kernel
theorem dL_law_1451 : decode cL_law 1451 = .ok (.iload 6, 2) := by decide +kernel
theorem dL_law_1453 : decode cL_law 1453 = .ok (.ifCond .ne 15, 3) := by decide +kernel
theorem dL_law_1456 : decode cL_law 1456 = .ok (.aload_n 3, 1) := by decide +kernel
theorem dL_law_1457 : decode cL_law 1457 = .ok (.iconst 0, 1) := by decide +kernel
theorem dL_law_1458 : decode cL_law 1458 = .ok (.laload, 1) := by decide +kernel
theorem dL_law_1459 : decode cL_law 1459 = .ok (.iload 7, 2) := by decide +kernel
theorem dL_law_1461 : decode cL_law 1461 = .ok (.i2l, 1) := by decide +kernel
theorem dL_law_1462 : decode cL_law 1462 = .ok (.lcmp, 1) := by decide +kernel
theorem dL_law_1463 : decode cL_law 1463 = .ok (.ifCond .eq 5, 3) := by decide +kernel
theorem dL_law_1466 : decode cL_law 1466 = .ok (.iconst 0, 1) := by decide +kernel
theorem dL_law_1467 : decode cL_law 1467 = .ok (.ireturn, 1) := by decide +kernel
theorem dL_law_1468 : decode cL_law 1468 = .ok (.goto 1932, 3) := by decide +kernel
theorem dL_law_1471 : decode cL_law 1471 = .ok (.aload_n 1, 1) := by decide +kernel
theorem dL_law_1472 : decode cL_law 1472 = .ok (.aload_n 0, 1) := by decide +kernel
theorem dL_law_1473 : decode cL_law 1473 = .ok (.iload 5, 2) := by decide +kernel
theorem dL_law_1475 : decode cL_law 1475 = .ok (.iconst 1, 1) := by decide +kernel
theorem dL_law_1476 : decode cL_law 1476 = .ok (.iadd, 1) := by decide +kernel
theorem dL_law_1477 : decode cL_law 1477 = .ok (.iaload, 1) := by decide +kernel
theorem dL_law_1478 : decode cL_law 1478 = .ok (.aload_n 0, 1) := by decide +kernel
theorem dL_law_1479 : decode cL_law 1479 = .ok (.iload 5, 2) := by decide +kernel
theorem dL_law_1481 : decode cL_law 1481 = .ok (.iconst 2, 1) := by decide +kernel
theorem dL_law_1482 : decode cL_law 1482 = .ok (.iadd, 1) := by decide +kernel
theorem dL_law_1483 : decode cL_law 1483 = .ok (.iaload, 1) := by decide +kernel
theorem dL_law_1484 : decode cL_law 1484 = .ok (.aload_n 3, 1) := by decide +kernel
theorem dL_law_1485 : decode cL_law 1485 = .ok (.invokestatic 230, 3) := by decide +kernel
theorem dL_law_1488 : decode cL_law 1488 = .ok (.istore 6, 2) := by decide +kernel
theorem dL_law_1490 : decode cL_law 1490 = .ok (.aload_n 2, 1) := by decide +kernel
theorem dL_law_1491 : decode cL_law 1491 = .ok (.aload_n 0, 1) := by decide +kernel
theorem dL_law_1492 : decode cL_law 1492 = .ok (.iload 5, 2) := by decide +kernel
theorem dL_law_1494 : decode cL_law 1494 = .ok (.iconst 1, 1) := by decide +kernel
theorem dL_law_1495 : decode cL_law 1495 = .ok (.iadd, 1) := by decide +kernel
theorem dL_law_1496 : decode cL_law 1496 = .ok (.iaload, 1) := by decide +kernel
theorem dL_law_1497 : decode cL_law 1497 = .ok (.aload_n 0, 1) := by decide +kernel
theorem dL_law_1498 : decode cL_law 1498 = .ok (.iload 5, 2) := by decide +kernel
theorem dL_law_1500 : decode cL_law 1500 = .ok (.iconst 2, 1) := by decide +kernel
theorem dL_law_1501 : decode cL_law 1501 = .ok (.iadd, 1) := by decide +kernel
theorem dL_law_1502 : decode cL_law 1502 = .ok (.iaload, 1) := by decide +kernel
theorem dL_law_1503 : decode cL_law 1503 = .ok (.invokevirtual 232, 3) := by decide +kernel
theorem dL_law_1506 : decode cL_law 1506 = .ok (.istore 7, 2) := by decide +kernel
theorem dL_law_1508 : decode cL_law 1508 = .ok (.aload_n 2, 1) := by decide +kernel
theorem dL_law_1509 : decode cL_law 1509 = .ok (.invokevirtual 172, 3) := by decide +kernel
theorem dL_law_1512 : decode cL_law 1512 = .ok (.iload 6, 2) := by decide +kernel
theorem dL_law_1514 : decode cL_law 1514 = .ok (.if_icmp .eq 5, 3) := by decide +kernel
theorem dL_law_1517 : decode cL_law 1517 = .ok (.iconst 0, 1) := by decide +kernel
theorem dL_law_1518 : decode cL_law 1518 = .ok (.ireturn, 1) := by decide +kernel
theorem dL_law_1519 : decode cL_law 1519 = .ok (.iload 6, 2) := by decide +kernel
theorem dL_law_1521 : decode cL_law 1521 = .ok (.ifCond .ne 15, 3) := by decide +kernel
theorem dL_law_1524 : decode cL_law 1524 = .ok (.aload_n 3, 1) := by decide +kernel
theorem dL_law_1525 : decode cL_law 1525 = .ok (.iconst 0, 1) := by decide +kernel
theorem dL_law_1526 : decode cL_law 1526 = .ok (.laload, 1) := by decide +kernel
theorem dL_law_1527 : decode cL_law 1527 = .ok (.iload 7, 2) := by decide +kernel
theorem dL_law_1529 : decode cL_law 1529 = .ok (.i2l, 1) := by decide +kernel
theorem dL_law_1530 : decode cL_law 1530 = .ok (.lcmp, 1) := by decide +kernel
theorem dL_law_1531 : decode cL_law 1531 = .ok (.ifCond .eq 5, 3) := by decide +kernel
theorem dL_law_1534 : decode cL_law 1534 = .ok (.iconst 0, 1) := by decide +kernel
theorem dL_law_1535 : decode cL_law 1535 = .ok (.ireturn, 1) := by decide +kernel
theorem dL_law_1536 : decode cL_law 1536 = .ok (.goto 1864, 3) := by decide +kernel
theorem dL_law_1539 : decode cL_law 1539 = .ok (.aload_n 1, 1) := by decide +kernel
theorem dL_law_1540 : decode cL_law 1540 = .ok (.aload_n 0, 1) := by decide +kernel
theorem dL_law_1541 : decode cL_law 1541 = .ok (.iload 5, 2) := by decide +kernel
theorem dL_law_1543 : decode cL_law 1543 = .ok (.iconst 1, 1) := by decide +kernel
theorem dL_law_1544 : decode cL_law 1544 = .ok (.iadd, 1) := by decide +kernel
theorem dL_law_1545 : decode cL_law 1545 = .ok (.iaload, 1) := by decide +kernel
theorem dL_law_1546 : decode cL_law 1546 = .ok (.aload_n 0, 1) := by decide +kernel
theorem dL_law_1547 : decode cL_law 1547 = .ok (.iload 5, 2) := by decide +kernel
theorem dL_law_1549 : decode cL_law 1549 = .ok (.iconst 2, 1) := by decide +kernel
theorem dL_law_1550 : decode cL_law 1550 = .ok (.iadd, 1) := by decide +kernel
theorem dL_law_1551 : decode cL_law 1551 = .ok (.iaload, 1) := by decide +kernel
theorem dL_law_1552 : decode cL_law 1552 = .ok (.aload_n 3, 1) := by decide +kernel
theorem dL_law_1553 : decode cL_law 1553 = .ok (.invokestatic 233, 3) := by decide +kernel
theorem dL_law_1556 : decode cL_law 1556 = .ok (.istore 6, 2) := by decide +kernel
theorem dL_law_1558 : decode cL_law 1558 = .ok (.aload_n 2, 1) := by decide +kernel
theorem dL_law_1559 : decode cL_law 1559 = .ok (.aload_n 0, 1) := by decide +kernel
theorem dL_law_1560 : decode cL_law 1560 = .ok (.iload 5, 2) := by decide +kernel
theorem dL_law_1562 : decode cL_law 1562 = .ok (.iconst 1, 1) := by decide +kernel
theorem dL_law_1563 : decode cL_law 1563 = .ok (.iadd, 1) := by decide +kernel
theorem dL_law_1564 : decode cL_law 1564 = .ok (.iaload, 1) := by decide +kernel
theorem dL_law_1565 : decode cL_law 1565 = .ok (.aload_n 0, 1) := by decide +kernel
theorem dL_law_1566 : decode cL_law 1566 = .ok (.iload 5, 2) := by decide +kernel
theorem dL_law_1568 : decode cL_law 1568 = .ok (.iconst 2, 1) := by decide +kernel
theorem dL_law_1569 : decode cL_law 1569 = .ok (.iadd, 1) := by decide +kernel
theorem dL_law_1570 : decode cL_law 1570 = .ok (.iaload, 1) := by decide +kernel
theorem dL_law_1571 : decode cL_law 1571 = .ok (.invokevirtual 235, 3) := by decide +kernel
theorem dL_law_1574 : decode cL_law 1574 = .ok (.istore 7, 2) := by decide +kernel
theorem dL_law_1576 : decode cL_law 1576 = .ok (.aload_n 2, 1) := by decide +kernel
theorem dL_law_1577 : decode cL_law 1577 = .ok (.invokevirtual 172, 3) := by decide +kernel
theorem dL_law_1580 : decode cL_law 1580 = .ok (.iload 6, 2) := by decide +kernel
theorem dL_law_1582 : decode cL_law 1582 = .ok (.if_icmp .eq 5, 3) := by decide +kernel
theorem dL_law_1585 : decode cL_law 1585 = .ok (.iconst 0, 1) := by decide +kernel
theorem dL_law_1586 : decode cL_law 1586 = .ok (.ireturn, 1) := by decide +kernel
theorem dL_law_1587 : decode cL_law 1587 = .ok (.iload 6, 2) := by decide +kernel
theorem dL_law_1589 : decode cL_law 1589 = .ok (.ifCond .ne 15, 3) := by decide +kernel
theorem dL_law_1592 : decode cL_law 1592 = .ok (.aload_n 3, 1) := by decide +kernel
theorem dL_law_1593 : decode cL_law 1593 = .ok (.iconst 0, 1) := by decide +kernel
theorem dL_law_1594 : decode cL_law 1594 = .ok (.laload, 1) := by decide +kernel
theorem dL_law_1595 : decode cL_law 1595 = .ok (.iload 7, 2) := by decide +kernel
theorem dL_law_1597 : decode cL_law 1597 = .ok (.i2l, 1) := by decide +kernel
theorem dL_law_1598 : decode cL_law 1598 = .ok (.lcmp, 1) := by decide +kernel
theorem dL_law_1599 : decode cL_law 1599 = .ok (.ifCond .eq 5, 3) := by decide +kernel
theorem dL_law_1602 : decode cL_law 1602 = .ok (.iconst 0, 1) := by decide +kernel
theorem dL_law_1603 : decode cL_law 1603 = .ok (.ireturn, 1) := by decide +kernel
theorem dL_law_1604 : decode cL_law 1604 = .ok (.goto 1796, 3) := by decide +kernel
theorem dL_law_1607 : decode cL_law 1607 = .ok (.aload_n 1, 1) := by decide +kernel
theorem dL_law_1608 : decode cL_law 1608 = .ok (.aload_n 0, 1) := by decide +kernel
theorem dL_law_1609 : decode cL_law 1609 = .ok (.iload 5, 2) := by decide +kernel
theorem dL_law_1611 : decode cL_law 1611 = .ok (.iconst 1, 1) := by decide +kernel
theorem dL_law_1612 : decode cL_law 1612 = .ok (.iadd, 1) := by decide +kernel
theorem dL_law_1613 : decode cL_law 1613 = .ok (.iaload, 1) := by decide +kernel
theorem dL_law_1614 : decode cL_law 1614 = .ok (.aload_n 0, 1) := by decide +kernel
theorem dL_law_1615 : decode cL_law 1615 = .ok (.iload 5, 2) := by decide +kernel
theorem dL_law_1617 : decode cL_law 1617 = .ok (.iconst 2, 1) := by decide +kernel
theorem dL_law_1618 : decode cL_law 1618 = .ok (.iadd, 1) := by decide +kernel
theorem dL_law_1619 : decode cL_law 1619 = .ok (.iaload, 1) := by decide +kernel
theorem dL_law_1620 : decode cL_law 1620 = .ok (.aload_n 3, 1) := by decide +kernel
theorem dL_law_1621 : decode cL_law 1621 = .ok (.invokestatic 236, 3) := by decide +kernel
theorem dL_law_1624 : decode cL_law 1624 = .ok (.istore 6, 2) := by decide +kernel
theorem dL_law_1626 : decode cL_law 1626 = .ok (.aload_n 2, 1) := by decide +kernel
theorem dL_law_1627 : decode cL_law 1627 = .ok (.aload_n 0, 1) := by decide +kernel
theorem dL_law_1628 : decode cL_law 1628 = .ok (.iload 5, 2) := by decide +kernel
theorem dL_law_1630 : decode cL_law 1630 = .ok (.iconst 1, 1) := by decide +kernel
theorem dL_law_1631 : decode cL_law 1631 = .ok (.iadd, 1) := by decide +kernel
theorem dL_law_1632 : decode cL_law 1632 = .ok (.iaload, 1) := by decide +kernel
theorem dL_law_1633 : decode cL_law 1633 = .ok (.aload_n 0, 1) := by decide +kernel
theorem dL_law_1634 : decode cL_law 1634 = .ok (.iload 5, 2) := by decide +kernel
theorem dL_law_1636 : decode cL_law 1636 = .ok (.iconst 2, 1) := by decide +kernel
theorem dL_law_1637 : decode cL_law 1637 = .ok (.iadd, 1) := by decide +kernel
theorem dL_law_1638 : decode cL_law 1638 = .ok (.iaload, 1) := by decide +kernel
theorem dL_law_1639 : decode cL_law 1639 = .ok (.invokevirtual 238, 3) := by decide +kernel
theorem dL_law_1642 : decode cL_law 1642 = .ok (.istore 7, 2) := by decide +kernel
theorem dL_law_1644 : decode cL_law 1644 = .ok (.aload_n 2, 1) := by decide +kernel
theorem dL_law_1645 : decode cL_law 1645 = .ok (.invokevirtual 172, 3) := by decide +kernel
theorem dL_law_1648 : decode cL_law 1648 = .ok (.iload 6, 2) := by decide +kernel
theorem dL_law_1650 : decode cL_law 1650 = .ok (.if_icmp .eq 5, 3) := by decide +kernel
theorem dL_law_1653 : decode cL_law 1653 = .ok (.iconst 0, 1) := by decide +kernel
theorem dL_law_1654 : decode cL_law 1654 = .ok (.ireturn, 1) := by decide +kernel
theorem dL_law_1655 : decode cL_law 1655 = .ok (.iload 6, 2) := by decide +kernel
theorem dL_law_1657 : decode cL_law 1657 = .ok (.ifCond .ne 15, 3) := by decide +kernel
theorem dL_law_1660 : decode cL_law 1660 = .ok (.aload_n 3, 1) := by decide +kernel
theorem dL_law_1661 : decode cL_law 1661 = .ok (.iconst 0, 1) := by decide +kernel
theorem dL_law_1662 : decode cL_law 1662 = .ok (.laload, 1) := by decide +kernel
theorem dL_law_1663 : decode cL_law 1663 = .ok (.iload 7, 2) := by decide +kernel
theorem dL_law_1665 : decode cL_law 1665 = .ok (.i2l, 1) := by decide +kernel
theorem dL_law_1666 : decode cL_law 1666 = .ok (.lcmp, 1) := by decide +kernel
theorem dL_law_1667 : decode cL_law 1667 = .ok (.ifCond .eq 5, 3) := by decide +kernel
theorem dL_law_1670 : decode cL_law 1670 = .ok (.iconst 0, 1) := by decide +kernel
theorem dL_law_1671 : decode cL_law 1671 = .ok (.ireturn, 1) := by decide +kernel
theorem dL_law_1672 : decode cL_law 1672 = .ok (.goto 1728, 3) := by decide +kernel
theorem dL_law_1675 : decode cL_law 1675 = .ok (.aload_n 1, 1) := by decide +kernel
theorem dL_law_1676 : decode cL_law 1676 = .ok (.aload_n 0, 1) := by decide +kernel
theorem dL_law_1677 : decode cL_law 1677 = .ok (.iload 5, 2) := by decide +kernel
theorem dL_law_1679 : decode cL_law 1679 = .ok (.iconst 1, 1) := by decide +kernel
theorem dL_law_1680 : decode cL_law 1680 = .ok (.iadd, 1) := by decide +kernel
theorem dL_law_1681 : decode cL_law 1681 = .ok (.iaload, 1) := by decide +kernel
theorem dL_law_1682 : decode cL_law 1682 = .ok (.aload_n 0, 1) := by decide +kernel
theorem dL_law_1683 : decode cL_law 1683 = .ok (.iload 5, 2) := by decide +kernel
theorem dL_law_1685 : decode cL_law 1685 = .ok (.iconst 2, 1) := by decide +kernel
theorem dL_law_1686 : decode cL_law 1686 = .ok (.iadd, 1) := by decide +kernel
theorem dL_law_1687 : decode cL_law 1687 = .ok (.iaload, 1) := by decide +kernel
theorem dL_law_1688 : decode cL_law 1688 = .ok (.aload_n 0, 1) := by decide +kernel
theorem dL_law_1689 : decode cL_law 1689 = .ok (.iload 5, 2) := by decide +kernel
theorem dL_law_1691 : decode cL_law 1691 = .ok (.iconst 3, 1) := by decide +kernel
theorem dL_law_1692 : decode cL_law 1692 = .ok (.iadd, 1) := by decide +kernel
theorem dL_law_1693 : decode cL_law 1693 = .ok (.iaload, 1) := by decide +kernel
theorem dL_law_1694 : decode cL_law 1694 = .ok (.aload_n 3, 1) := by decide +kernel
theorem dL_law_1695 : decode cL_law 1695 = .ok (.invokestatic 239, 3) := by decide +kernel
theorem dL_law_1698 : decode cL_law 1698 = .ok (.istore 6, 2) := by decide +kernel
theorem dL_law_1700 : decode cL_law 1700 = .ok (.aload_n 2, 1) := by decide +kernel
theorem dL_law_1701 : decode cL_law 1701 = .ok (.aload_n 0, 1) := by decide +kernel
theorem dL_law_1702 : decode cL_law 1702 = .ok (.iload 5, 2) := by decide +kernel
theorem dL_law_1704 : decode cL_law 1704 = .ok (.iconst 1, 1) := by decide +kernel
theorem dL_law_1705 : decode cL_law 1705 = .ok (.iadd, 1) := by decide +kernel
theorem dL_law_1706 : decode cL_law 1706 = .ok (.iaload, 1) := by decide +kernel
theorem dL_law_1707 : decode cL_law 1707 = .ok (.aload_n 0, 1) := by decide +kernel
theorem dL_law_1708 : decode cL_law 1708 = .ok (.iload 5, 2) := by decide +kernel
theorem dL_law_1710 : decode cL_law 1710 = .ok (.iconst 2, 1) := by decide +kernel
theorem dL_law_1711 : decode cL_law 1711 = .ok (.iadd, 1) := by decide +kernel
theorem dL_law_1712 : decode cL_law 1712 = .ok (.iaload, 1) := by decide +kernel
theorem dL_law_1713 : decode cL_law 1713 = .ok (.aload_n 0, 1) := by decide +kernel
theorem dL_law_1714 : decode cL_law 1714 = .ok (.iload 5, 2) := by decide +kernel
theorem dL_law_1716 : decode cL_law 1716 = .ok (.iconst 3, 1) := by decide +kernel
theorem dL_law_1717 : decode cL_law 1717 = .ok (.iadd, 1) := by decide +kernel
theorem dL_law_1718 : decode cL_law 1718 = .ok (.iaload, 1) := by decide +kernel
theorem dL_law_1719 : decode cL_law 1719 = .ok (.invokevirtual 241, 3) := by decide +kernel
theorem dL_law_1722 : decode cL_law 1722 = .ok (.istore 7, 2) := by decide +kernel
theorem dL_law_1724 : decode cL_law 1724 = .ok (.aload_n 2, 1) := by decide +kernel
theorem dL_law_1725 : decode cL_law 1725 = .ok (.invokevirtual 172, 3) := by decide +kernel
theorem dL_law_1728 : decode cL_law 1728 = .ok (.iload 6, 2) := by decide +kernel
theorem dL_law_1730 : decode cL_law 1730 = .ok (.if_icmp .eq 5, 3) := by decide +kernel
theorem dL_law_1733 : decode cL_law 1733 = .ok (.iconst 0, 1) := by decide +kernel
theorem dL_law_1734 : decode cL_law 1734 = .ok (.ireturn, 1) := by decide +kernel
theorem dL_law_1735 : decode cL_law 1735 = .ok (.iload 6, 2) := by decide +kernel
theorem dL_law_1737 : decode cL_law 1737 = .ok (.ifCond .ne 15, 3) := by decide +kernel
theorem dL_law_1740 : decode cL_law 1740 = .ok (.aload_n 3, 1) := by decide +kernel
theorem dL_law_1741 : decode cL_law 1741 = .ok (.iconst 0, 1) := by decide +kernel
theorem dL_law_1742 : decode cL_law 1742 = .ok (.laload, 1) := by decide +kernel
theorem dL_law_1743 : decode cL_law 1743 = .ok (.iload 7, 2) := by decide +kernel
theorem dL_law_1745 : decode cL_law 1745 = .ok (.i2l, 1) := by decide +kernel
theorem dL_law_1746 : decode cL_law 1746 = .ok (.lcmp, 1) := by decide +kernel
theorem dL_law_1747 : decode cL_law 1747 = .ok (.ifCond .eq 5, 3) := by decide +kernel
theorem dL_law_1750 : decode cL_law 1750 = .ok (.iconst 0, 1) := by decide +kernel
theorem dL_law_1751 : decode cL_law 1751 = .ok (.ireturn, 1) := by decide +kernel
theorem dL_law_1752 : decode cL_law 1752 = .ok (.goto 1648, 3) := by decide +kernel
theorem dL_law_1755 : decode cL_law 1755 = .ok (.aload_n 1, 1) := by decide +kernel
theorem dL_law_1756 : decode cL_law 1756 = .ok (.aload_n 0, 1) := by decide +kernel
theorem dL_law_1757 : decode cL_law 1757 = .ok (.iload 5, 2) := by decide +kernel
theorem dL_law_1759 : decode cL_law 1759 = .ok (.iconst 1, 1) := by decide +kernel
theorem dL_law_1760 : decode cL_law 1760 = .ok (.iadd, 1) := by decide +kernel
theorem dL_law_1761 : decode cL_law 1761 = .ok (.iaload, 1) := by decide +kernel
theorem dL_law_1762 : decode cL_law 1762 = .ok (.aload_n 0, 1) := by decide +kernel
theorem dL_law_1763 : decode cL_law 1763 = .ok (.iload 5, 2) := by decide +kernel
theorem dL_law_1765 : decode cL_law 1765 = .ok (.iconst 2, 1) := by decide +kernel
theorem dL_law_1766 : decode cL_law 1766 = .ok (.iadd, 1) := by decide +kernel
theorem dL_law_1767 : decode cL_law 1767 = .ok (.iaload, 1) := by decide +kernel
theorem dL_law_1768 : decode cL_law 1768 = .ok (.aload_n 0, 1) := by decide +kernel
theorem dL_law_1769 : decode cL_law 1769 = .ok (.iload 5, 2) := by decide +kernel
theorem dL_law_1771 : decode cL_law 1771 = .ok (.iconst 3, 1) := by decide +kernel
theorem dL_law_1772 : decode cL_law 1772 = .ok (.iadd, 1) := by decide +kernel
theorem dL_law_1773 : decode cL_law 1773 = .ok (.iaload, 1) := by decide +kernel
theorem dL_law_1774 : decode cL_law 1774 = .ok (.aload_n 0, 1) := by decide +kernel
theorem dL_law_1775 : decode cL_law 1775 = .ok (.iload 5, 2) := by decide +kernel
theorem dL_law_1777 : decode cL_law 1777 = .ok (.iconst 4, 1) := by decide +kernel
theorem dL_law_1778 : decode cL_law 1778 = .ok (.iadd, 1) := by decide +kernel
theorem dL_law_1779 : decode cL_law 1779 = .ok (.iaload, 1) := by decide +kernel
theorem dL_law_1780 : decode cL_law 1780 = .ok (.aload_n 0, 1) := by decide +kernel
theorem dL_law_1781 : decode cL_law 1781 = .ok (.iload 5, 2) := by decide +kernel
theorem dL_law_1783 : decode cL_law 1783 = .ok (.iconst 5, 1) := by decide +kernel
theorem dL_law_1784 : decode cL_law 1784 = .ok (.iadd, 1) := by decide +kernel
theorem dL_law_1785 : decode cL_law 1785 = .ok (.iaload, 1) := by decide +kernel
theorem dL_law_1786 : decode cL_law 1786 = .ok (.aload_n 3, 1) := by decide +kernel
theorem dL_law_1787 : decode cL_law 1787 = .ok (.invokestatic 242, 3) := by decide +kernel
theorem dL_law_1790 : decode cL_law 1790 = .ok (.istore 6, 2) := by decide +kernel
theorem dL_law_1792 : decode cL_law 1792 = .ok (.aload_n 2, 1) := by decide +kernel
theorem dL_law_1793 : decode cL_law 1793 = .ok (.aload_n 0, 1) := by decide +kernel
theorem dL_law_1794 : decode cL_law 1794 = .ok (.iload 5, 2) := by decide +kernel
theorem dL_law_1796 : decode cL_law 1796 = .ok (.iconst 1, 1) := by decide +kernel
theorem dL_law_1797 : decode cL_law 1797 = .ok (.iadd, 1) := by decide +kernel
theorem dL_law_1798 : decode cL_law 1798 = .ok (.iaload, 1) := by decide +kernel
theorem dL_law_1799 : decode cL_law 1799 = .ok (.aload_n 0, 1) := by decide +kernel
theorem dL_law_1800 : decode cL_law 1800 = .ok (.iload 5, 2) := by decide +kernel
theorem dL_law_1802 : decode cL_law 1802 = .ok (.iconst 2, 1) := by decide +kernel
theorem dL_law_1803 : decode cL_law 1803 = .ok (.iadd, 1) := by decide +kernel
theorem dL_law_1804 : decode cL_law 1804 = .ok (.iaload, 1) := by decide +kernel
theorem dL_law_1805 : decode cL_law 1805 = .ok (.aload_n 0, 1) := by decide +kernel
theorem dL_law_1806 : decode cL_law 1806 = .ok (.iload 5, 2) := by decide +kernel
theorem dL_law_1808 : decode cL_law 1808 = .ok (.iconst 3, 1) := by decide +kernel
theorem dL_law_1809 : decode cL_law 1809 = .ok (.iadd, 1) := by decide +kernel
theorem dL_law_1810 : decode cL_law 1810 = .ok (.iaload, 1) := by decide +kernel
theorem dL_law_1811 : decode cL_law 1811 = .ok (.aload_n 0, 1) := by decide +kernel
theorem dL_law_1812 : decode cL_law 1812 = .ok (.iload 5, 2) := by decide +kernel
theorem dL_law_1814 : decode cL_law 1814 = .ok (.iconst 4, 1) := by decide +kernel
theorem dL_law_1815 : decode cL_law 1815 = .ok (.iadd, 1) := by decide +kernel
theorem dL_law_1816 : decode cL_law 1816 = .ok (.iaload, 1) := by decide +kernel
theorem dL_law_1817 : decode cL_law 1817 = .ok (.aload_n 0, 1) := by decide +kernel
theorem dL_law_1818 : decode cL_law 1818 = .ok (.iload 5, 2) := by decide +kernel
theorem dL_law_1820 : decode cL_law 1820 = .ok (.iconst 5, 1) := by decide +kernel
theorem dL_law_1821 : decode cL_law 1821 = .ok (.iadd, 1) := by decide +kernel
theorem dL_law_1822 : decode cL_law 1822 = .ok (.iaload, 1) := by decide +kernel
theorem dL_law_1823 : decode cL_law 1823 = .ok (.invokevirtual 245, 3) := by decide +kernel
theorem dL_law_1826 : decode cL_law 1826 = .ok (.istore 7, 2) := by decide +kernel
theorem dL_law_1828 : decode cL_law 1828 = .ok (.aload_n 2, 1) := by decide +kernel
theorem dL_law_1829 : decode cL_law 1829 = .ok (.invokevirtual 172, 3) := by decide +kernel
theorem dL_law_1832 : decode cL_law 1832 = .ok (.iload 6, 2) := by decide +kernel
theorem dL_law_1834 : decode cL_law 1834 = .ok (.if_icmp .eq 5, 3) := by decide +kernel
theorem dL_law_1837 : decode cL_law 1837 = .ok (.iconst 0, 1) := by decide +kernel
theorem dL_law_1838 : decode cL_law 1838 = .ok (.ireturn, 1) := by decide +kernel
theorem dL_law_1839 : decode cL_law 1839 = .ok (.iload 6, 2) := by decide +kernel
theorem dL_law_1841 : decode cL_law 1841 = .ok (.ifCond .ne 15, 3) := by decide +kernel
theorem dL_law_1844 : decode cL_law 1844 = .ok (.aload_n 3, 1) := by decide +kernel
theorem dL_law_1845 : decode cL_law 1845 = .ok (.iconst 0, 1) := by decide +kernel
theorem dL_law_1846 : decode cL_law 1846 = .ok (.laload, 1) := by decide +kernel
theorem dL_law_1847 : decode cL_law 1847 = .ok (.iload 7, 2) := by decide +kernel
theorem dL_law_1849 : decode cL_law 1849 = .ok (.i2l, 1) := by decide +kernel
theorem dL_law_1850 : decode cL_law 1850 = .ok (.lcmp, 1) := by decide +kernel
theorem dL_law_1851 : decode cL_law 1851 = .ok (.ifCond .eq 5, 3) := by decide +kernel
theorem dL_law_1854 : decode cL_law 1854 = .ok (.iconst 0, 1) := by decide +kernel
theorem dL_law_1855 : decode cL_law 1855 = .ok (.ireturn, 1) := by decide +kernel
theorem dL_law_1856 : decode cL_law 1856 = .ok (.goto 1544, 3) := by decide +kernel
theorem dL_law_1859 : decode cL_law 1859 = .ok (.aload_n 1, 1) := by decide +kernel
theorem dL_law_1860 : decode cL_law 1860 = .ok (.aload_n 0, 1) := by decide +kernel
theorem dL_law_1861 : decode cL_law 1861 = .ok (.iload 5, 2) := by decide +kernel
theorem dL_law_1863 : decode cL_law 1863 = .ok (.iconst 1, 1) := by decide +kernel
theorem dL_law_1864 : decode cL_law 1864 = .ok (.iadd, 1) := by decide +kernel
theorem dL_law_1865 : decode cL_law 1865 = .ok (.iaload, 1) := by decide +kernel
theorem dL_law_1866 : decode cL_law 1866 = .ok (.aload_n 0, 1) := by decide +kernel
theorem dL_law_1867 : decode cL_law 1867 = .ok (.iload 5, 2) := by decide +kernel
theorem dL_law_1869 : decode cL_law 1869 = .ok (.iconst 2, 1) := by decide +kernel
theorem dL_law_1870 : decode cL_law 1870 = .ok (.iadd, 1) := by decide +kernel
theorem dL_law_1871 : decode cL_law 1871 = .ok (.iaload, 1) := by decide +kernel
theorem dL_law_1872 : decode cL_law 1872 = .ok (.aload_n 3, 1) := by decide +kernel
theorem dL_law_1873 : decode cL_law 1873 = .ok (.invokestatic 246, 3) := by decide +kernel
theorem dL_law_1876 : decode cL_law 1876 = .ok (.istore 6, 2) := by decide +kernel
theorem dL_law_1878 : decode cL_law 1878 = .ok (.aload_n 2, 1) := by decide +kernel
theorem dL_law_1879 : decode cL_law 1879 = .ok (.aload_n 0, 1) := by decide +kernel
theorem dL_law_1880 : decode cL_law 1880 = .ok (.iload 5, 2) := by decide +kernel
theorem dL_law_1882 : decode cL_law 1882 = .ok (.iconst 1, 1) := by decide +kernel
theorem dL_law_1883 : decode cL_law 1883 = .ok (.iadd, 1) := by decide +kernel
theorem dL_law_1884 : decode cL_law 1884 = .ok (.iaload, 1) := by decide +kernel
theorem dL_law_1885 : decode cL_law 1885 = .ok (.aload_n 0, 1) := by decide +kernel
theorem dL_law_1886 : decode cL_law 1886 = .ok (.iload 5, 2) := by decide +kernel
theorem dL_law_1888 : decode cL_law 1888 = .ok (.iconst 2, 1) := by decide +kernel
theorem dL_law_1889 : decode cL_law 1889 = .ok (.iadd, 1) := by decide +kernel
theorem dL_law_1890 : decode cL_law 1890 = .ok (.iaload, 1) := by decide +kernel
theorem dL_law_1891 : decode cL_law 1891 = .ok (.invokevirtual 248, 3) := by decide +kernel
theorem dL_law_1894 : decode cL_law 1894 = .ok (.istore 7, 2) := by decide +kernel
theorem dL_law_1896 : decode cL_law 1896 = .ok (.aload_n 2, 1) := by decide +kernel
theorem dL_law_1897 : decode cL_law 1897 = .ok (.invokevirtual 172, 3) := by decide +kernel
theorem dL_law_1900 : decode cL_law 1900 = .ok (.iload 6, 2) := by decide +kernel
theorem dL_law_1902 : decode cL_law 1902 = .ok (.if_icmp .eq 5, 3) := by decide +kernel
theorem dL_law_1905 : decode cL_law 1905 = .ok (.iconst 0, 1) := by decide +kernel
theorem dL_law_1906 : decode cL_law 1906 = .ok (.ireturn, 1) := by decide +kernel
theorem dL_law_1907 : decode cL_law 1907 = .ok (.iload 6, 2) := by decide +kernel
theorem dL_law_1909 : decode cL_law 1909 = .ok (.ifCond .ne 15, 3) := by decide +kernel
theorem dL_law_1912 : decode cL_law 1912 = .ok (.aload_n 3, 1) := by decide +kernel
theorem dL_law_1913 : decode cL_law 1913 = .ok (.iconst 0, 1) := by decide +kernel
theorem dL_law_1914 : decode cL_law 1914 = .ok (.laload, 1) := by decide +kernel
theorem dL_law_1915 : decode cL_law 1915 = .ok (.iload 7, 2) := by decide +kernel
theorem dL_law_1917 : decode cL_law 1917 = .ok (.i2l, 1) := by decide +kernel
theorem dL_law_1918 : decode cL_law 1918 = .ok (.lcmp, 1) := by decide +kernel
theorem dL_law_1919 : decode cL_law 1919 = .ok (.ifCond .eq 5, 3) := by decide +kernel
theorem dL_law_1922 : decode cL_law 1922 = .ok (.iconst 0, 1) := by decide +kernel
theorem dL_law_1923 : decode cL_law 1923 = .ok (.ireturn, 1) := by decide +kernel
theorem dL_law_1924 : decode cL_law 1924 = .ok (.goto 1476, 3) := by decide +kernel
theorem dL_law_1927 : decode cL_law 1927 = .ok (.aload_n 1, 1) := by decide +kernel
theorem dL_law_1928 : decode cL_law 1928 = .ok (.aload_n 0, 1) := by decide +kernel
theorem dL_law_1929 : decode cL_law 1929 = .ok (.iload 5, 2) := by decide +kernel
theorem dL_law_1931 : decode cL_law 1931 = .ok (.iconst 1, 1) := by decide +kernel
theorem dL_law_1932 : decode cL_law 1932 = .ok (.iadd, 1) := by decide +kernel
theorem dL_law_1933 : decode cL_law 1933 = .ok (.iaload, 1) := by decide +kernel
theorem dL_law_1934 : decode cL_law 1934 = .ok (.aload_n 0, 1) := by decide +kernel
theorem dL_law_1935 : decode cL_law 1935 = .ok (.iload 5, 2) := by decide +kernel
theorem dL_law_1937 : decode cL_law 1937 = .ok (.iconst 2, 1) := by decide +kernel
theorem dL_law_1938 : decode cL_law 1938 = .ok (.iadd, 1) := by decide +kernel
theorem dL_law_1939 : decode cL_law 1939 = .ok (.iaload, 1) := by decide +kernel
theorem dL_law_1940 : decode cL_law 1940 = .ok (.aload_n 3, 1) := by decide +kernel
theorem dL_law_1941 : decode cL_law 1941 = .ok (.invokestatic 249, 3) := by decide +kernel
theorem dL_law_1944 : decode cL_law 1944 = .ok (.istore 6, 2) := by decide +kernel
theorem dL_law_1946 : decode cL_law 1946 = .ok (.aload_n 2, 1) := by decide +kernel
theorem dL_law_1947 : decode cL_law 1947 = .ok (.aload_n 0, 1) := by decide +kernel
theorem dL_law_1948 : decode cL_law 1948 = .ok (.iload 5, 2) := by decide +kernel
theorem dL_law_1950 : decode cL_law 1950 = .ok (.iconst 1, 1) := by decide +kernel
theorem dL_law_1951 : decode cL_law 1951 = .ok (.iadd, 1) := by decide +kernel
theorem dL_law_1952 : decode cL_law 1952 = .ok (.iaload, 1) := by decide +kernel
theorem dL_law_1953 : decode cL_law 1953 = .ok (.aload_n 0, 1) := by decide +kernel
theorem dL_law_1954 : decode cL_law 1954 = .ok (.iload 5, 2) := by decide +kernel
theorem dL_law_1956 : decode cL_law 1956 = .ok (.iconst 2, 1) := by decide +kernel
theorem dL_law_1957 : decode cL_law 1957 = .ok (.iadd, 1) := by decide +kernel
theorem dL_law_1958 : decode cL_law 1958 = .ok (.iaload, 1) := by decide +kernel
theorem dL_law_1959 : decode cL_law 1959 = .ok (.invokevirtual 251, 3) := by decide +kernel
theorem dL_law_1962 : decode cL_law 1962 = .ok (.istore 7, 2) := by decide +kernel
theorem dL_law_1964 : decode cL_law 1964 = .ok (.aload_n 2, 1) := by decide +kernel
theorem dL_law_1965 : decode cL_law 1965 = .ok (.invokevirtual 172, 3) := by decide +kernel
theorem dL_law_1968 : decode cL_law 1968 = .ok (.iload 6, 2) := by decide +kernel
theorem dL_law_1970 : decode cL_law 1970 = .ok (.if_icmp .eq 5, 3) := by decide +kernel
theorem dL_law_1973 : decode cL_law 1973 = .ok (.iconst 0, 1) := by decide +kernel
theorem dL_law_1974 : decode cL_law 1974 = .ok (.ireturn, 1) := by decide +kernel
theorem dL_law_1975 : decode cL_law 1975 = .ok (.iload 6, 2) := by decide +kernel
theorem dL_law_1977 : decode cL_law 1977 = .ok (.ifCond .ne 15, 3) := by decide +kernel
theorem dL_law_1980 : decode cL_law 1980 = .ok (.aload_n 3, 1) := by decide +kernel
theorem dL_law_1981 : decode cL_law 1981 = .ok (.iconst 0, 1) := by decide +kernel
theorem dL_law_1982 : decode cL_law 1982 = .ok (.laload, 1) := by decide +kernel
theorem dL_law_1983 : decode cL_law 1983 = .ok (.iload 7, 2) := by decide +kernel
theorem dL_law_1985 : decode cL_law 1985 = .ok (.i2l, 1) := by decide +kernel
theorem dL_law_1986 : decode cL_law 1986 = .ok (.lcmp, 1) := by decide +kernel
theorem dL_law_1987 : decode cL_law 1987 = .ok (.ifCond .eq 5, 3) := by decide +kernel
theorem dL_law_1990 : decode cL_law 1990 = .ok (.iconst 0, 1) := by decide +kernel
theorem dL_law_1991 : decode cL_law 1991 = .ok (.ireturn, 1) := by decide +kernel
theorem dL_law_1992 : decode cL_law 1992 = .ok (.goto 1408, 3) := by decide +kernel
theorem dL_law_1995 : decode cL_law 1995 = .ok (.aload_n 1, 1) := by decide +kernel
theorem dL_law_1996 : decode cL_law 1996 = .ok (.aload_n 0, 1) := by decide +kernel
theorem dL_law_1997 : decode cL_law 1997 = .ok (.iload 5, 2) := by decide +kernel
theorem dL_law_1999 : decode cL_law 1999 = .ok (.iconst 1, 1) := by decide +kernel
theorem dL_law_2000 : decode cL_law 2000 = .ok (.iadd, 1) := by decide +kernel
theorem dL_law_2001 : decode cL_law 2001 = .ok (.iaload, 1) := by decide +kernel
theorem dL_law_2002 : decode cL_law 2002 = .ok (.aload_n 0, 1) := by decide +kernel
theorem dL_law_2003 : decode cL_law 2003 = .ok (.iload 5, 2) := by decide +kernel
theorem dL_law_2005 : decode cL_law 2005 = .ok (.iconst 2, 1) := by decide +kernel
theorem dL_law_2006 : decode cL_law 2006 = .ok (.iadd, 1) := by decide +kernel
theorem dL_law_2007 : decode cL_law 2007 = .ok (.iaload, 1) := by decide +kernel
theorem dL_law_2008 : decode cL_law 2008 = .ok (.aload_n 3, 1) := by decide +kernel
theorem dL_law_2009 : decode cL_law 2009 = .ok (.invokestatic 252, 3) := by decide +kernel
theorem dL_law_2012 : decode cL_law 2012 = .ok (.istore 6, 2) := by decide +kernel
theorem dL_law_2014 : decode cL_law 2014 = .ok (.aload_n 2, 1) := by decide +kernel
theorem dL_law_2015 : decode cL_law 2015 = .ok (.aload_n 0, 1) := by decide +kernel
theorem dL_law_2016 : decode cL_law 2016 = .ok (.iload 5, 2) := by decide +kernel
theorem dL_law_2018 : decode cL_law 2018 = .ok (.iconst 1, 1) := by decide +kernel
theorem dL_law_2019 : decode cL_law 2019 = .ok (.iadd, 1) := by decide +kernel
theorem dL_law_2020 : decode cL_law 2020 = .ok (.iaload, 1) := by decide +kernel
theorem dL_law_2021 : decode cL_law 2021 = .ok (.aload_n 0, 1) := by decide +kernel
theorem dL_law_2022 : decode cL_law 2022 = .ok (.iload 5, 2) := by decide +kernel
theorem dL_law_2024 : decode cL_law 2024 = .ok (.iconst 2, 1) := by decide +kernel
theorem dL_law_2025 : decode cL_law 2025 = .ok (.iadd, 1) := by decide +kernel
theorem dL_law_2026 : decode cL_law 2026 = .ok (.iaload, 1) := by decide +kernel
theorem dL_law_2027 : decode cL_law 2027 = .ok (.invokevirtual 254, 3) := by decide +kernel
theorem dL_law_2030 : decode cL_law 2030 = .ok (.istore 7, 2) := by decide +kernel
theorem dL_law_2032 : decode cL_law 2032 = .ok (.aload_n 2, 1) := by decide +kernel
theorem dL_law_2033 : decode cL_law 2033 = .ok (.invokevirtual 172, 3) := by decide +kernel
theorem dL_law_2036 : decode cL_law 2036 = .ok (.iload 6, 2) := by decide +kernel
theorem dL_law_2038 : decode cL_law 2038 = .ok (.if_icmp .eq 5, 3) := by decide +kernel
theorem dL_law_2041 : decode cL_law 2041 = .ok (.iconst 0, 1) := by decide +kernel
theorem dL_law_2042 : decode cL_law 2042 = .ok (.ireturn, 1) := by decide +kernel
theorem dL_law_2043 : decode cL_law 2043 = .ok (.iload 6, 2) := by decide +kernel
theorem dL_law_2045 : decode cL_law 2045 = .ok (.ifCond .ne 15, 3) := by decide +kernel
theorem dL_law_2048 : decode cL_law 2048 = .ok (.aload_n 3, 1) := by decide +kernel
theorem dL_law_2049 : decode cL_law 2049 = .ok (.iconst 0, 1) := by decide +kernel
theorem dL_law_2050 : decode cL_law 2050 = .ok (.laload, 1) := by decide +kernel
theorem dL_law_2051 : decode cL_law 2051 = .ok (.iload 7, 2) := by decide +kernel
theorem dL_law_2053 : decode cL_law 2053 = .ok (.i2l, 1) := by decide +kernel
theorem dL_law_2054 : decode cL_law 2054 = .ok (.lcmp, 1) := by decide +kernel
theorem dL_law_2055 : decode cL_law 2055 = .ok (.ifCond .eq 5, 3) := by decide +kernel
theorem dL_law_2058 : decode cL_law 2058 = .ok (.iconst 0, 1) := by decide +kernel
theorem dL_law_2059 : decode cL_law 2059 = .ok (.ireturn, 1) := by decide +kernel
theorem dL_law_2060 : decode cL_law 2060 = .ok (.goto 1340, 3) := by decide +kernel
theorem dL_law_2063 : decode cL_law 2063 = .ok (.aload_n 1, 1) := by decide +kernel
theorem dL_law_2064 : decode cL_law 2064 = .ok (.aload_n 0, 1) := by decide +kernel
theorem dL_law_2065 : decode cL_law 2065 = .ok (.iload 5, 2) := by decide +kernel
theorem dL_law_2067 : decode cL_law 2067 = .ok (.iconst 1, 1) := by decide +kernel
theorem dL_law_2068 : decode cL_law 2068 = .ok (.iadd, 1) := by decide +kernel
theorem dL_law_2069 : decode cL_law 2069 = .ok (.iaload, 1) := by decide +kernel
theorem dL_law_2070 : decode cL_law 2070 = .ok (.aload_n 0, 1) := by decide +kernel
theorem dL_law_2071 : decode cL_law 2071 = .ok (.iload 5, 2) := by decide +kernel
theorem dL_law_2073 : decode cL_law 2073 = .ok (.iconst 2, 1) := by decide +kernel
theorem dL_law_2074 : decode cL_law 2074 = .ok (.iadd, 1) := by decide +kernel
theorem dL_law_2075 : decode cL_law 2075 = .ok (.iaload, 1) := by decide +kernel
theorem dL_law_2076 : decode cL_law 2076 = .ok (.aload_n 3, 1) := by decide +kernel
theorem dL_law_2077 : decode cL_law 2077 = .ok (.invokestatic 255, 3) := by decide +kernel
theorem dL_law_2080 : decode cL_law 2080 = .ok (.istore 6, 2) := by decide +kernel
theorem dL_law_2082 : decode cL_law 2082 = .ok (.aload_n 2, 1) := by decide +kernel
theorem dL_law_2083 : decode cL_law 2083 = .ok (.aload_n 0, 1) := by decide +kernel
theorem dL_law_2084 : decode cL_law 2084 = .ok (.iload 5, 2) := by decide +kernel
theorem dL_law_2086 : decode cL_law 2086 = .ok (.iconst 1, 1) := by decide +kernel
theorem dL_law_2087 : decode cL_law 2087 = .ok (.iadd, 1) := by decide +kernel
theorem dL_law_2088 : decode cL_law 2088 = .ok (.iaload, 1) := by decide +kernel
theorem dL_law_2089 : decode cL_law 2089 = .ok (.aload_n 0, 1) := by decide +kernel
theorem dL_law_2090 : decode cL_law 2090 = .ok (.iload 5, 2) := by decide +kernel
theorem dL_law_2092 : decode cL_law 2092 = .ok (.iconst 2, 1) := by decide +kernel
theorem dL_law_2093 : decode cL_law 2093 = .ok (.iadd, 1) := by decide +kernel
theorem dL_law_2094 : decode cL_law 2094 = .ok (.iaload, 1) := by decide +kernel
theorem dL_law_2095 : decode cL_law 2095 = .ok (.invokevirtual 257, 3) := by decide +kernel
theorem dL_law_2098 : decode cL_law 2098 = .ok (.istore 7, 2) := by decide +kernel
theorem dL_law_2100 : decode cL_law 2100 = .ok (.aload_n 2, 1) := by decide +kernel
theorem dL_law_2101 : decode cL_law 2101 = .ok (.invokevirtual 172, 3) := by decide +kernel
theorem dL_law_2104 : decode cL_law 2104 = .ok (.iload 6, 2) := by decide +kernel
theorem dL_law_2106 : decode cL_law 2106 = .ok (.if_icmp .eq 5, 3) := by decide +kernel
theorem dL_law_2109 : decode cL_law 2109 = .ok (.iconst 0, 1) := by decide +kernel
theorem dL_law_2110 : decode cL_law 2110 = .ok (.ireturn, 1) := by decide +kernel
theorem dL_law_2111 : decode cL_law 2111 = .ok (.iload 6, 2) := by decide +kernel
theorem dL_law_2113 : decode cL_law 2113 = .ok (.ifCond .ne 15, 3) := by decide +kernel
theorem dL_law_2116 : decode cL_law 2116 = .ok (.aload_n 3, 1) := by decide +kernel
theorem dL_law_2117 : decode cL_law 2117 = .ok (.iconst 0, 1) := by decide +kernel
theorem dL_law_2118 : decode cL_law 2118 = .ok (.laload, 1) := by decide +kernel
theorem dL_law_2119 : decode cL_law 2119 = .ok (.iload 7, 2) := by decide +kernel
theorem dL_law_2121 : decode cL_law 2121 = .ok (.i2l, 1) := by decide +kernel
theorem dL_law_2122 : decode cL_law 2122 = .ok (.lcmp, 1) := by decide +kernel
theorem dL_law_2123 : decode cL_law 2123 = .ok (.ifCond .eq 5, 3) := by decide +kernel
theorem dL_law_2126 : decode cL_law 2126 = .ok (.iconst 0, 1) := by decide +kernel
theorem dL_law_2127 : decode cL_law 2127 = .ok (.ireturn, 1) := by decide +kernel
theorem dL_law_2128 : decode cL_law 2128 = .ok (.goto 1272, 3) := by decide +kernel
theorem dL_law_2131 : decode cL_law 2131 = .ok (.aload_n 1, 1) := by decide +kernel
theorem dL_law_2132 : decode cL_law 2132 = .ok (.aload_n 0, 1) := by decide +kernel
theorem dL_law_2133 : decode cL_law 2133 = .ok (.iload 5, 2) := by decide +kernel
theorem dL_law_2135 : decode cL_law 2135 = .ok (.iconst 1, 1) := by decide +kernel
theorem dL_law_2136 : decode cL_law 2136 = .ok (.iadd, 1) := by decide +kernel
theorem dL_law_2137 : decode cL_law 2137 = .ok (.iaload, 1) := by decide +kernel
theorem dL_law_2138 : decode cL_law 2138 = .ok (.aload_n 0, 1) := by decide +kernel
theorem dL_law_2139 : decode cL_law 2139 = .ok (.iload 5, 2) := by decide +kernel
theorem dL_law_2141 : decode cL_law 2141 = .ok (.iconst 2, 1) := by decide +kernel
theorem dL_law_2142 : decode cL_law 2142 = .ok (.iadd, 1) := by decide +kernel
theorem dL_law_2143 : decode cL_law 2143 = .ok (.iaload, 1) := by decide +kernel
theorem dL_law_2144 : decode cL_law 2144 = .ok (.aload_n 3, 1) := by decide +kernel
theorem dL_law_2145 : decode cL_law 2145 = .ok (.invokestatic 258, 3) := by decide +kernel
theorem dL_law_2148 : decode cL_law 2148 = .ok (.istore 6, 2) := by decide +kernel
theorem dL_law_2150 : decode cL_law 2150 = .ok (.aload_n 2, 1) := by decide +kernel
theorem dL_law_2151 : decode cL_law 2151 = .ok (.aload_n 0, 1) := by decide +kernel
theorem dL_law_2152 : decode cL_law 2152 = .ok (.iload 5, 2) := by decide +kernel
theorem dL_law_2154 : decode cL_law 2154 = .ok (.iconst 1, 1) := by decide +kernel
theorem dL_law_2155 : decode cL_law 2155 = .ok (.iadd, 1) := by decide +kernel
theorem dL_law_2156 : decode cL_law 2156 = .ok (.iaload, 1) := by decide +kernel
theorem dL_law_2157 : decode cL_law 2157 = .ok (.aload_n 0, 1) := by decide +kernel
theorem dL_law_2158 : decode cL_law 2158 = .ok (.iload 5, 2) := by decide +kernel
theorem dL_law_2160 : decode cL_law 2160 = .ok (.iconst 2, 1) := by decide +kernel
theorem dL_law_2161 : decode cL_law 2161 = .ok (.iadd, 1) := by decide +kernel
theorem dL_law_2162 : decode cL_law 2162 = .ok (.iaload, 1) := by decide +kernel
theorem dL_law_2163 : decode cL_law 2163 = .ok (.invokevirtual 260, 3) := by decide +kernel
theorem dL_law_2166 : decode cL_law 2166 = .ok (.istore 7, 2) := by decide +kernel
theorem dL_law_2168 : decode cL_law 2168 = .ok (.aload_n 2, 1) := by decide +kernel
theorem dL_law_2169 : decode cL_law 2169 = .ok (.invokevirtual 172, 3) := by decide +kernel
theorem dL_law_2172 : decode cL_law 2172 = .ok (.iload 6, 2) := by decide +kernel
theorem dL_law_2174 : decode cL_law 2174 = .ok (.if_icmp .eq 5, 3) := by decide +kernel
theorem dL_law_2177 : decode cL_law 2177 = .ok (.iconst 0, 1) := by decide +kernel
theorem dL_law_2178 : decode cL_law 2178 = .ok (.ireturn, 1) := by decide +kernel
theorem dL_law_2179 : decode cL_law 2179 = .ok (.iload 6, 2) := by decide +kernel
theorem dL_law_2181 : decode cL_law 2181 = .ok (.ifCond .ne 15, 3) := by decide +kernel
theorem dL_law_2184 : decode cL_law 2184 = .ok (.aload_n 3, 1) := by decide +kernel
theorem dL_law_2185 : decode cL_law 2185 = .ok (.iconst 0, 1) := by decide +kernel
theorem dL_law_2186 : decode cL_law 2186 = .ok (.laload, 1) := by decide +kernel
theorem dL_law_2187 : decode cL_law 2187 = .ok (.iload 7, 2) := by decide +kernel
theorem dL_law_2189 : decode cL_law 2189 = .ok (.i2l, 1) := by decide +kernel
theorem dL_law_2190 : decode cL_law 2190 = .ok (.lcmp, 1) := by decide +kernel
theorem dL_law_2191 : decode cL_law 2191 = .ok (.ifCond .eq 5, 3) := by decide +kernel
theorem dL_law_2194 : decode cL_law 2194 = .ok (.iconst 0, 1) := by decide +kernel
theorem dL_law_2195 : decode cL_law 2195 = .ok (.ireturn, 1) := by decide +kernel
theorem dL_law_2196 : decode cL_law 2196 = .ok (.goto 1204, 3) := by decide +kernel
theorem dL_law_2199 : decode cL_law 2199 = .ok (.aload_n 1, 1) := by decide +kernel
theorem dL_law_2200 : decode cL_law 2200 = .ok (.aload_n 0, 1) := by decide +kernel
theorem dL_law_2201 : decode cL_law 2201 = .ok (.iload 5, 2) := by decide +kernel
theorem dL_law_2203 : decode cL_law 2203 = .ok (.iconst 1, 1) := by decide +kernel
theorem dL_law_2204 : decode cL_law 2204 = .ok (.iadd, 1) := by decide +kernel
theorem dL_law_2205 : decode cL_law 2205 = .ok (.iaload, 1) := by decide +kernel
theorem dL_law_2206 : decode cL_law 2206 = .ok (.aload_n 3, 1) := by decide +kernel
theorem dL_law_2207 : decode cL_law 2207 = .ok (.invokestatic 261, 3) := by decide +kernel
theorem dL_law_2210 : decode cL_law 2210 = .ok (.istore 6, 2) := by decide +kernel
theorem dL_law_2212 : decode cL_law 2212 = .ok (.aload_n 2, 1) := by decide +kernel
theorem dL_law_2213 : decode cL_law 2213 = .ok (.aload_n 0, 1) := by decide +kernel
theorem dL_law_2214 : decode cL_law 2214 = .ok (.iload 5, 2) := by decide +kernel
theorem dL_law_2216 : decode cL_law 2216 = .ok (.iconst 1, 1) := by decide +kernel
theorem dL_law_2217 : decode cL_law 2217 = .ok (.iadd, 1) := by decide +kernel
theorem dL_law_2218 : decode cL_law 2218 = .ok (.iaload, 1) := by decide +kernel
theorem dL_law_2219 : decode cL_law 2219 = .ok (.invokevirtual 263, 3) := by decide +kernel
theorem dL_law_2222 : decode cL_law 2222 = .ok (.istore 7, 2) := by decide +kernel
theorem dL_law_2224 : decode cL_law 2224 = .ok (.aload_n 2, 1) := by decide +kernel
theorem dL_law_2225 : decode cL_law 2225 = .ok (.invokevirtual 172, 3) := by decide +kernel
theorem dL_law_2228 : decode cL_law 2228 = .ok (.iload 6, 2) := by decide +kernel
theorem dL_law_2230 : decode cL_law 2230 = .ok (.if_icmp .eq 5, 3) := by decide +kernel
theorem dL_law_2233 : decode cL_law 2233 = .ok (.iconst 0, 1) := by decide +kernel
theorem dL_law_2234 : decode cL_law 2234 = .ok (.ireturn, 1) := by decide +kernel
theorem dL_law_2235 : decode cL_law 2235 = .ok (.iload 6, 2) := by decide +kernel
theorem dL_law_2237 : decode cL_law 2237 = .ok (.ifCond .ne 15, 3) := by decide +kernel
theorem dL_law_2240 : decode cL_law 2240 = .ok (.aload_n 3, 1) := by decide +kernel
theorem dL_law_2241 : decode cL_law 2241 = .ok (.iconst 0, 1) := by decide +kernel
theorem dL_law_2242 : decode cL_law 2242 = .ok (.laload, 1) := by decide +kernel
theorem dL_law_2243 : decode cL_law 2243 = .ok (.iload 7, 2) := by decide +kernel
theorem dL_law_2245 : decode cL_law 2245 = .ok (.i2l, 1) := by decide +kernel
theorem dL_law_2246 : decode cL_law 2246 = .ok (.lcmp, 1) := by decide +kernel
theorem dL_law_2247 : decode cL_law 2247 = .ok (.ifCond .eq 5, 3) := by decide +kernel
theorem dL_law_2250 : decode cL_law 2250 = .ok (.iconst 0, 1) := by decide +kernel
theorem dL_law_2251 : decode cL_law 2251 = .ok (.ireturn, 1) := by decide +kernel
theorem dL_law_2252 : decode cL_law 2252 = .ok (.goto 1148, 3) := by decide +kernel
theorem dL_law_2255 : decode cL_law 2255 = .ok (.aload_n 1, 1) := by decide +kernel
theorem dL_law_2256 : decode cL_law 2256 = .ok (.aload_n 0, 1) := by decide +kernel
theorem dL_law_2257 : decode cL_law 2257 = .ok (.iload 5, 2) := by decide +kernel
theorem dL_law_2259 : decode cL_law 2259 = .ok (.iconst 1, 1) := by decide +kernel
theorem dL_law_2260 : decode cL_law 2260 = .ok (.iadd, 1) := by decide +kernel
theorem dL_law_2261 : decode cL_law 2261 = .ok (.iaload, 1) := by decide +kernel
theorem dL_law_2262 : decode cL_law 2262 = .ok (.aload_n 0, 1) := by decide +kernel
theorem dL_law_2263 : decode cL_law 2263 = .ok (.iload 5, 2) := by decide +kernel
theorem dL_law_2265 : decode cL_law 2265 = .ok (.iconst 2, 1) := by decide +kernel
theorem dL_law_2266 : decode cL_law 2266 = .ok (.iadd, 1) := by decide +kernel
theorem dL_law_2267 : decode cL_law 2267 = .ok (.iaload, 1) := by decide +kernel
theorem dL_law_2268 : decode cL_law 2268 = .ok (.aload_n 3, 1) := by decide +kernel
theorem dL_law_2269 : decode cL_law 2269 = .ok (.invokestatic 264, 3) := by decide +kernel
theorem dL_law_2272 : decode cL_law 2272 = .ok (.istore 6, 2) := by decide +kernel
theorem dL_law_2274 : decode cL_law 2274 = .ok (.aload_n 2, 1) := by decide +kernel
theorem dL_law_2275 : decode cL_law 2275 = .ok (.aload_n 0, 1) := by decide +kernel
theorem dL_law_2276 : decode cL_law 2276 = .ok (.iload 5, 2) := by decide +kernel
theorem dL_law_2278 : decode cL_law 2278 = .ok (.iconst 1, 1) := by decide +kernel
theorem dL_law_2279 : decode cL_law 2279 = .ok (.iadd, 1) := by decide +kernel
theorem dL_law_2280 : decode cL_law 2280 = .ok (.iaload, 1) := by decide +kernel
theorem dL_law_2281 : decode cL_law 2281 = .ok (.aload_n 0, 1) := by decide +kernel
theorem dL_law_2282 : decode cL_law 2282 = .ok (.iload 5, 2) := by decide +kernel
theorem dL_law_2284 : decode cL_law 2284 = .ok (.iconst 2, 1) := by decide +kernel
theorem dL_law_2285 : decode cL_law 2285 = .ok (.iadd, 1) := by decide +kernel
theorem dL_law_2286 : decode cL_law 2286 = .ok (.iaload, 1) := by decide +kernel
theorem dL_law_2287 : decode cL_law 2287 = .ok (.invokevirtual 266, 3) := by decide +kernel
theorem dL_law_2290 : decode cL_law 2290 = .ok (.istore 7, 2) := by decide +kernel
theorem dL_law_2292 : decode cL_law 2292 = .ok (.aload_n 2, 1) := by decide +kernel
theorem dL_law_2293 : decode cL_law 2293 = .ok (.invokevirtual 172, 3) := by decide +kernel
theorem dL_law_2296 : decode cL_law 2296 = .ok (.iload 6, 2) := by decide +kernel
theorem dL_law_2298 : decode cL_law 2298 = .ok (.if_icmp .eq 5, 3) := by decide +kernel
theorem dL_law_2301 : decode cL_law 2301 = .ok (.iconst 0, 1) := by decide +kernel
theorem dL_law_2302 : decode cL_law 2302 = .ok (.ireturn, 1) := by decide +kernel
theorem dL_law_2303 : decode cL_law 2303 = .ok (.iload 6, 2) := by decide +kernel
theorem dL_law_2305 : decode cL_law 2305 = .ok (.ifCond .ne 15, 3) := by decide +kernel
theorem dL_law_2308 : decode cL_law 2308 = .ok (.aload_n 3, 1) := by decide +kernel
theorem dL_law_2309 : decode cL_law 2309 = .ok (.iconst 0, 1) := by decide +kernel
theorem dL_law_2310 : decode cL_law 2310 = .ok (.laload, 1) := by decide +kernel
theorem dL_law_2311 : decode cL_law 2311 = .ok (.iload 7, 2) := by decide +kernel
theorem dL_law_2313 : decode cL_law 2313 = .ok (.i2l, 1) := by decide +kernel
theorem dL_law_2314 : decode cL_law 2314 = .ok (.lcmp, 1) := by decide +kernel
theorem dL_law_2315 : decode cL_law 2315 = .ok (.ifCond .eq 5, 3) := by decide +kernel
theorem dL_law_2318 : decode cL_law 2318 = .ok (.iconst 0, 1) := by decide +kernel
theorem dL_law_2319 : decode cL_law 2319 = .ok (.ireturn, 1) := by decide +kernel
theorem dL_law_2320 : decode cL_law 2320 = .ok (.goto 1080, 3) := by decide +kernel
theorem dL_law_2323 : decode cL_law 2323 = .ok (.aload_n 1, 1) := by decide +kernel
theorem dL_law_2324 : decode cL_law 2324 = .ok (.aload_n 0, 1) := by decide +kernel
theorem dL_law_2325 : decode cL_law 2325 = .ok (.iload 5, 2) := by decide +kernel
theorem dL_law_2327 : decode cL_law 2327 = .ok (.iconst 1, 1) := by decide +kernel
theorem dL_law_2328 : decode cL_law 2328 = .ok (.iadd, 1) := by decide +kernel
theorem dL_law_2329 : decode cL_law 2329 = .ok (.iaload, 1) := by decide +kernel
theorem dL_law_2330 : decode cL_law 2330 = .ok (.aload_n 0, 1) := by decide +kernel
theorem dL_law_2331 : decode cL_law 2331 = .ok (.iload 5, 2) := by decide +kernel
theorem dL_law_2333 : decode cL_law 2333 = .ok (.iconst 2, 1) := by decide +kernel
theorem dL_law_2334 : decode cL_law 2334 = .ok (.iadd, 1) := by decide +kernel
theorem dL_law_2335 : decode cL_law 2335 = .ok (.iaload, 1) := by decide +kernel
theorem dL_law_2336 : decode cL_law 2336 = .ok (.aload_n 3, 1) := by decide +kernel
theorem dL_law_2337 : decode cL_law 2337 = .ok (.invokestatic 267, 3) := by decide +kernel
theorem dL_law_2340 : decode cL_law 2340 = .ok (.istore 6, 2) := by decide +kernel
theorem dL_law_2342 : decode cL_law 2342 = .ok (.aload_n 2, 1) := by decide +kernel
theorem dL_law_2343 : decode cL_law 2343 = .ok (.aload_n 0, 1) := by decide +kernel
theorem dL_law_2344 : decode cL_law 2344 = .ok (.iload 5, 2) := by decide +kernel
theorem dL_law_2346 : decode cL_law 2346 = .ok (.iconst 1, 1) := by decide +kernel
theorem dL_law_2347 : decode cL_law 2347 = .ok (.iadd, 1) := by decide +kernel
theorem dL_law_2348 : decode cL_law 2348 = .ok (.iaload, 1) := by decide +kernel
theorem dL_law_2349 : decode cL_law 2349 = .ok (.aload_n 0, 1) := by decide +kernel
theorem dL_law_2350 : decode cL_law 2350 = .ok (.iload 5, 2) := by decide +kernel
theorem dL_law_2352 : decode cL_law 2352 = .ok (.iconst 2, 1) := by decide +kernel
theorem dL_law_2353 : decode cL_law 2353 = .ok (.iadd, 1) := by decide +kernel
theorem dL_law_2354 : decode cL_law 2354 = .ok (.iaload, 1) := by decide +kernel
theorem dL_law_2355 : decode cL_law 2355 = .ok (.invokevirtual 269, 3) := by decide +kernel
theorem dL_law_2358 : decode cL_law 2358 = .ok (.istore 7, 2) := by decide +kernel
theorem dL_law_2360 : decode cL_law 2360 = .ok (.aload_n 2, 1) := by decide +kernel
theorem dL_law_2361 : decode cL_law 2361 = .ok (.invokevirtual 172, 3) := by decide +kernel
theorem dL_law_2364 : decode cL_law 2364 = .ok (.iload 6, 2) := by decide +kernel
theorem dL_law_2366 : decode cL_law 2366 = .ok (.if_icmp .eq 5, 3) := by decide +kernel
theorem dL_law_2369 : decode cL_law 2369 = .ok (.iconst 0, 1) := by decide +kernel
theorem dL_law_2370 : decode cL_law 2370 = .ok (.ireturn, 1) := by decide +kernel
theorem dL_law_2371 : decode cL_law 2371 = .ok (.iload 6, 2) := by decide +kernel
theorem dL_law_2373 : decode cL_law 2373 = .ok (.ifCond .ne 15, 3) := by decide +kernel
theorem dL_law_2376 : decode cL_law 2376 = .ok (.aload_n 3, 1) := by decide +kernel
theorem dL_law_2377 : decode cL_law 2377 = .ok (.iconst 0, 1) := by decide +kernel
theorem dL_law_2378 : decode cL_law 2378 = .ok (.laload, 1) := by decide +kernel
theorem dL_law_2379 : decode cL_law 2379 = .ok (.iload 7, 2) := by decide +kernel
theorem dL_law_2381 : decode cL_law 2381 = .ok (.i2l, 1) := by decide +kernel
theorem dL_law_2382 : decode cL_law 2382 = .ok (.lcmp, 1) := by decide +kernel
theorem dL_law_2383 : decode cL_law 2383 = .ok (.ifCond .eq 5, 3) := by decide +kernel
theorem dL_law_2386 : decode cL_law 2386 = .ok (.iconst 0, 1) := by decide +kernel
theorem dL_law_2387 : decode cL_law 2387 = .ok (.ireturn, 1) := by decide +kernel
theorem dL_law_2388 : decode cL_law 2388 = .ok (.goto 1012, 3) := by decide +kernel
theorem dL_law_2391 : decode cL_law 2391 = .ok (.aload_n 1, 1) := by decide +kernel
theorem dL_law_2392 : decode cL_law 2392 = .ok (.aload_n 0, 1) := by decide +kernel
theorem dL_law_2393 : decode cL_law 2393 = .ok (.iload 5, 2) := by decide +kernel
theorem dL_law_2395 : decode cL_law 2395 = .ok (.iconst 1, 1) := by decide +kernel
theorem dL_law_2396 : decode cL_law 2396 = .ok (.iadd, 1) := by decide +kernel
theorem dL_law_2397 : decode cL_law 2397 = .ok (.iaload, 1) := by decide +kernel
theorem dL_law_2398 : decode cL_law 2398 = .ok (.aload_n 0, 1) := by decide +kernel
theorem dL_law_2399 : decode cL_law 2399 = .ok (.iload 5, 2) := by decide +kernel
theorem dL_law_2401 : decode cL_law 2401 = .ok (.iconst 2, 1) := by decide +kernel
theorem dL_law_2402 : decode cL_law 2402 = .ok (.iadd, 1) := by decide +kernel
theorem dL_law_2403 : decode cL_law 2403 = .ok (.iaload, 1) := by decide +kernel
theorem dL_law_2404 : decode cL_law 2404 = .ok (.aload_n 3, 1) := by decide +kernel
theorem dL_law_2405 : decode cL_law 2405 = .ok (.invokestatic 270, 3) := by decide +kernel
theorem dL_law_2408 : decode cL_law 2408 = .ok (.istore 6, 2) := by decide +kernel
theorem dL_law_2410 : decode cL_law 2410 = .ok (.aload_n 2, 1) := by decide +kernel
theorem dL_law_2411 : decode cL_law 2411 = .ok (.aload_n 0, 1) := by decide +kernel
theorem dL_law_2412 : decode cL_law 2412 = .ok (.iload 5, 2) := by decide +kernel
theorem dL_law_2414 : decode cL_law 2414 = .ok (.iconst 1, 1) := by decide +kernel
theorem dL_law_2415 : decode cL_law 2415 = .ok (.iadd, 1) := by decide +kernel
theorem dL_law_2416 : decode cL_law 2416 = .ok (.iaload, 1) := by decide +kernel
theorem dL_law_2417 : decode cL_law 2417 = .ok (.aload_n 0, 1) := by decide +kernel
theorem dL_law_2418 : decode cL_law 2418 = .ok (.iload 5, 2) := by decide +kernel
theorem dL_law_2420 : decode cL_law 2420 = .ok (.iconst 2, 1) := by decide +kernel
theorem dL_law_2421 : decode cL_law 2421 = .ok (.iadd, 1) := by decide +kernel
theorem dL_law_2422 : decode cL_law 2422 = .ok (.iaload, 1) := by decide +kernel
theorem dL_law_2423 : decode cL_law 2423 = .ok (.invokevirtual 272, 3) := by decide +kernel
theorem dL_law_2426 : decode cL_law 2426 = .ok (.istore 7, 2) := by decide +kernel
theorem dL_law_2428 : decode cL_law 2428 = .ok (.aload_n 2, 1) := by decide +kernel
theorem dL_law_2429 : decode cL_law 2429 = .ok (.invokevirtual 172, 3) := by decide +kernel
theorem dL_law_2432 : decode cL_law 2432 = .ok (.iload 6, 2) := by decide +kernel
theorem dL_law_2434 : decode cL_law 2434 = .ok (.if_icmp .eq 5, 3) := by decide +kernel
theorem dL_law_2437 : decode cL_law 2437 = .ok (.iconst 0, 1) := by decide +kernel
theorem dL_law_2438 : decode cL_law 2438 = .ok (.ireturn, 1) := by decide +kernel
theorem dL_law_2439 : decode cL_law 2439 = .ok (.iload 6, 2) := by decide +kernel
theorem dL_law_2441 : decode cL_law 2441 = .ok (.ifCond .ne 15, 3) := by decide +kernel
theorem dL_law_2444 : decode cL_law 2444 = .ok (.aload_n 3, 1) := by decide +kernel
theorem dL_law_2445 : decode cL_law 2445 = .ok (.iconst 0, 1) := by decide +kernel
theorem dL_law_2446 : decode cL_law 2446 = .ok (.laload, 1) := by decide +kernel
theorem dL_law_2447 : decode cL_law 2447 = .ok (.iload 7, 2) := by decide +kernel
theorem dL_law_2449 : decode cL_law 2449 = .ok (.i2l, 1) := by decide +kernel
theorem dL_law_2450 : decode cL_law 2450 = .ok (.lcmp, 1) := by decide +kernel
theorem dL_law_2451 : decode cL_law 2451 = .ok (.ifCond .eq 5, 3) := by decide +kernel
theorem dL_law_2454 : decode cL_law 2454 = .ok (.iconst 0, 1) := by decide +kernel
theorem dL_law_2455 : decode cL_law 2455 = .ok (.ireturn, 1) := by decide +kernel
theorem dL_law_2456 : decode cL_law 2456 = .ok (.goto 944, 3) := by decide +kernel
theorem dL_law_2459 : decode cL_law 2459 = .ok (.aload_n 1, 1) := by decide +kernel
theorem dL_law_2460 : decode cL_law 2460 = .ok (.aload_n 0, 1) := by decide +kernel
theorem dL_law_2461 : decode cL_law 2461 = .ok (.iload 5, 2) := by decide +kernel
theorem dL_law_2463 : decode cL_law 2463 = .ok (.iconst 1, 1) := by decide +kernel
theorem dL_law_2464 : decode cL_law 2464 = .ok (.iadd, 1) := by decide +kernel
theorem dL_law_2465 : decode cL_law 2465 = .ok (.iaload, 1) := by decide +kernel
theorem dL_law_2466 : decode cL_law 2466 = .ok (.aload_n 0, 1) := by decide +kernel
theorem dL_law_2467 : decode cL_law 2467 = .ok (.iload 5, 2) := by decide +kernel
theorem dL_law_2469 : decode cL_law 2469 = .ok (.iconst 2, 1) := by decide +kernel
theorem dL_law_2470 : decode cL_law 2470 = .ok (.iadd, 1) := by decide +kernel
theorem dL_law_2471 : decode cL_law 2471 = .ok (.iaload, 1) := by decide +kernel
theorem dL_law_2472 : decode cL_law 2472 = .ok (.aload_n 3, 1) := by decide +kernel
theorem dL_law_2473 : decode cL_law 2473 = .ok (.invokestatic 273, 3) := by decide +kernel
theorem dL_law_2476 : decode cL_law 2476 = .ok (.istore 6, 2) := by decide +kernel
theorem dL_law_2478 : decode cL_law 2478 = .ok (.aload_n 2, 1) := by decide +kernel
theorem dL_law_2479 : decode cL_law 2479 = .ok (.aload_n 0, 1) := by decide +kernel
theorem dL_law_2480 : decode cL_law 2480 = .ok (.iload 5, 2) := by decide +kernel
theorem dL_law_2482 : decode cL_law 2482 = .ok (.iconst 1, 1) := by decide +kernel
theorem dL_law_2483 : decode cL_law 2483 = .ok (.iadd, 1) := by decide +kernel
theorem dL_law_2484 : decode cL_law 2484 = .ok (.iaload, 1) := by decide +kernel
theorem dL_law_2485 : decode cL_law 2485 = .ok (.aload_n 0, 1) := by decide +kernel
theorem dL_law_2486 : decode cL_law 2486 = .ok (.iload 5, 2) := by decide +kernel
theorem dL_law_2488 : decode cL_law 2488 = .ok (.iconst 2, 1) := by decide +kernel
theorem dL_law_2489 : decode cL_law 2489 = .ok (.iadd, 1) := by decide +kernel
theorem dL_law_2490 : decode cL_law 2490 = .ok (.iaload, 1) := by decide +kernel
theorem dL_law_2491 : decode cL_law 2491 = .ok (.invokevirtual 275, 3) := by decide +kernel
theorem dL_law_2494 : decode cL_law 2494 = .ok (.istore 7, 2) := by decide +kernel
theorem dL_law_2496 : decode cL_law 2496 = .ok (.aload_n 2, 1) := by decide +kernel
theorem dL_law_2497 : decode cL_law 2497 = .ok (.invokevirtual 172, 3) := by decide +kernel
theorem dL_law_2500 : decode cL_law 2500 = .ok (.iload 6, 2) := by decide +kernel
theorem dL_law_2502 : decode cL_law 2502 = .ok (.if_icmp .eq 5, 3) := by decide +kernel
theorem dL_law_2505 : decode cL_law 2505 = .ok (.iconst 0, 1) := by decide +kernel
theorem dL_law_2506 : decode cL_law 2506 = .ok (.ireturn, 1) := by decide +kernel
theorem dL_law_2507 : decode cL_law 2507 = .ok (.iload 6, 2) := by decide +kernel
theorem dL_law_2509 : decode cL_law 2509 = .ok (.ifCond .ne 15, 3) := by decide +kernel
theorem dL_law_2512 : decode cL_law 2512 = .ok (.aload_n 3, 1) := by decide +kernel
theorem dL_law_2513 : decode cL_law 2513 = .ok (.iconst 0, 1) := by decide +kernel
theorem dL_law_2514 : decode cL_law 2514 = .ok (.laload, 1) := by decide +kernel
theorem dL_law_2515 : decode cL_law 2515 = .ok (.iload 7, 2) := by decide +kernel
theorem dL_law_2517 : decode cL_law 2517 = .ok (.i2l, 1) := by decide +kernel
theorem dL_law_2518 : decode cL_law 2518 = .ok (.lcmp, 1) := by decide +kernel
theorem dL_law_2519 : decode cL_law 2519 = .ok (.ifCond .eq 5, 3) := by decide +kernel
theorem dL_law_2522 : decode cL_law 2522 = .ok (.iconst 0, 1) := by decide +kernel
theorem dL_law_2523 : decode cL_law 2523 = .ok (.ireturn, 1) := by decide +kernel
theorem dL_law_2524 : decode cL_law 2524 = .ok (.goto 876, 3) := by decide +kernel
theorem dL_law_2527 : decode cL_law 2527 = .ok (.aload_n 1, 1) := by decide +kernel
theorem dL_law_2528 : decode cL_law 2528 = .ok (.aload_n 0, 1) := by decide +kernel
theorem dL_law_2529 : decode cL_law 2529 = .ok (.iload 5, 2) := by decide +kernel
theorem dL_law_2531 : decode cL_law 2531 = .ok (.iconst 1, 1) := by decide +kernel
theorem dL_law_2532 : decode cL_law 2532 = .ok (.iadd, 1) := by decide +kernel
theorem dL_law_2533 : decode cL_law 2533 = .ok (.iaload, 1) := by decide +kernel
theorem dL_law_2534 : decode cL_law 2534 = .ok (.aload_n 3, 1) := by decide +kernel
theorem dL_law_2535 : decode cL_law 2535 = .ok (.invokestatic 276, 3) := by decide +kernel
theorem dL_law_2538 : decode cL_law 2538 = .ok (.istore 6, 2) := by decide +kernel
theorem dL_law_2540 : decode cL_law 2540 = .ok (.aload_n 2, 1) := by decide +kernel
theorem dL_law_2541 : decode cL_law 2541 = .ok (.aload_n 0, 1) := by decide +kernel
theorem dL_law_2542 : decode cL_law 2542 = .ok (.iload 5, 2) := by decide +kernel
theorem dL_law_2544 : decode cL_law 2544 = .ok (.iconst 1, 1) := by decide +kernel
theorem dL_law_2545 : decode cL_law 2545 = .ok (.iadd, 1) := by decide +kernel
theorem dL_law_2546 : decode cL_law 2546 = .ok (.iaload, 1) := by decide +kernel
theorem dL_law_2547 : decode cL_law 2547 = .ok (.invokevirtual 278, 3) := by decide +kernel
theorem dL_law_2550 : decode cL_law 2550 = .ok (.istore 7, 2) := by decide +kernel
theorem dL_law_2552 : decode cL_law 2552 = .ok (.aload_n 2, 1) := by decide +kernel
theorem dL_law_2553 : decode cL_law 2553 = .ok (.invokevirtual 172, 3) := by decide +kernel
theorem dL_law_2556 : decode cL_law 2556 = .ok (.iload 6, 2) := by decide +kernel
theorem dL_law_2558 : decode cL_law 2558 = .ok (.if_icmp .eq 5, 3) := by decide +kernel
theorem dL_law_2561 : decode cL_law 2561 = .ok (.iconst 0, 1) := by decide +kernel
theorem dL_law_2562 : decode cL_law 2562 = .ok (.ireturn, 1) := by decide +kernel
theorem dL_law_2563 : decode cL_law 2563 = .ok (.iload 6, 2) := by decide +kernel
theorem dL_law_2565 : decode cL_law 2565 = .ok (.ifCond .ne 15, 3) := by decide +kernel
theorem dL_law_2568 : decode cL_law 2568 = .ok (.aload_n 3, 1) := by decide +kernel
theorem dL_law_2569 : decode cL_law 2569 = .ok (.iconst 0, 1) := by decide +kernel
theorem dL_law_2570 : decode cL_law 2570 = .ok (.laload, 1) := by decide +kernel
theorem dL_law_2571 : decode cL_law 2571 = .ok (.iload 7, 2) := by decide +kernel
theorem dL_law_2573 : decode cL_law 2573 = .ok (.i2l, 1) := by decide +kernel
theorem dL_law_2574 : decode cL_law 2574 = .ok (.lcmp, 1) := by decide +kernel
theorem dL_law_2575 : decode cL_law 2575 = .ok (.ifCond .eq 5, 3) := by decide +kernel
theorem dL_law_2578 : decode cL_law 2578 = .ok (.iconst 0, 1) := by decide +kernel
theorem dL_law_2579 : decode cL_law 2579 = .ok (.ireturn, 1) := by decide +kernel
theorem dL_law_2580 : decode cL_law 2580 = .ok (.goto 820, 3) := by decide +kernel
theorem dL_law_2583 : decode cL_law 2583 = .ok (.aload_n 1, 1) := by decide +kernel
theorem dL_law_2584 : decode cL_law 2584 = .ok (.aload_n 0, 1) := by decide +kernel
theorem dL_law_2585 : decode cL_law 2585 = .ok (.iload 5, 2) := by decide +kernel
theorem dL_law_2587 : decode cL_law 2587 = .ok (.iconst 1, 1) := by decide +kernel
theorem dL_law_2588 : decode cL_law 2588 = .ok (.iadd, 1) := by decide +kernel
theorem dL_law_2589 : decode cL_law 2589 = .ok (.iaload, 1) := by decide +kernel
theorem dL_law_2590 : decode cL_law 2590 = .ok (.aload_n 3, 1) := by decide +kernel
theorem dL_law_2591 : decode cL_law 2591 = .ok (.invokestatic 279, 3) := by decide +kernel
theorem dL_law_2594 : decode cL_law 2594 = .ok (.istore 6, 2) := by decide +kernel
theorem dL_law_2596 : decode cL_law 2596 = .ok (.aload_n 2, 1) := by decide +kernel
theorem dL_law_2597 : decode cL_law 2597 = .ok (.aload_n 0, 1) := by decide +kernel
theorem dL_law_2598 : decode cL_law 2598 = .ok (.iload 5, 2) := by decide +kernel
theorem dL_law_2600 : decode cL_law 2600 = .ok (.iconst 1, 1) := by decide +kernel
theorem dL_law_2601 : decode cL_law 2601 = .ok (.iadd, 1) := by decide +kernel
theorem dL_law_2602 : decode cL_law 2602 = .ok (.iaload, 1) := by decide +kernel
theorem dL_law_2603 : decode cL_law 2603 = .ok (.invokevirtual 281, 3) := by decide +kernel
theorem dL_law_2606 : decode cL_law 2606 = .ok (.istore 7, 2) := by decide +kernel
theorem dL_law_2608 : decode cL_law 2608 = .ok (.aload_n 2, 1) := by decide +kernel
theorem dL_law_2609 : decode cL_law 2609 = .ok (.invokevirtual 172, 3) := by decide +kernel
theorem dL_law_2612 : decode cL_law 2612 = .ok (.iload 6, 2) := by decide +kernel
theorem dL_law_2614 : decode cL_law 2614 = .ok (.if_icmp .eq 5, 3) := by decide +kernel
theorem dL_law_2617 : decode cL_law 2617 = .ok (.iconst 0, 1) := by decide +kernel
theorem dL_law_2618 : decode cL_law 2618 = .ok (.ireturn, 1) := by decide +kernel
theorem dL_law_2619 : decode cL_law 2619 = .ok (.iload 6, 2) := by decide +kernel
theorem dL_law_2621 : decode cL_law 2621 = .ok (.ifCond .ne 15, 3) := by decide +kernel
theorem dL_law_2624 : decode cL_law 2624 = .ok (.aload_n 3, 1) := by decide +kernel
theorem dL_law_2625 : decode cL_law 2625 = .ok (.iconst 0, 1) := by decide +kernel
theorem dL_law_2626 : decode cL_law 2626 = .ok (.laload, 1) := by decide +kernel
theorem dL_law_2627 : decode cL_law 2627 = .ok (.iload 7, 2) := by decide +kernel
theorem dL_law_2629 : decode cL_law 2629 = .ok (.i2l, 1) := by decide +kernel
theorem dL_law_2630 : decode cL_law 2630 = .ok (.lcmp, 1) := by decide +kernel
theorem dL_law_2631 : decode cL_law 2631 = .ok (.ifCond .eq 5, 3) := by decide +kernel
theorem dL_law_2634 : decode cL_law 2634 = .ok (.iconst 0, 1) := by decide +kernel
theorem dL_law_2635 : decode cL_law 2635 = .ok (.ireturn, 1) := by decide +kernel
theorem dL_law_2636 : decode cL_law 2636 = .ok (.goto 764, 3) := by decide +kernel
theorem dL_law_2639 : decode cL_law 2639 = .ok (.aload_n 1, 1) := by decide +kernel
theorem dL_law_2640 : decode cL_law 2640 = .ok (.aload_n 0, 1) := by decide +kernel
theorem dL_law_2641 : decode cL_law 2641 = .ok (.iload 5, 2) := by decide +kernel
theorem dL_law_2643 : decode cL_law 2643 = .ok (.iconst 1, 1) := by decide +kernel
theorem dL_law_2644 : decode cL_law 2644 = .ok (.iadd, 1) := by decide +kernel
theorem dL_law_2645 : decode cL_law 2645 = .ok (.iaload, 1) := by decide +kernel
theorem dL_law_2646 : decode cL_law 2646 = .ok (.aload_n 3, 1) := by decide +kernel
theorem dL_law_2647 : decode cL_law 2647 = .ok (.invokestatic 282, 3) := by decide +kernel
theorem dL_law_2650 : decode cL_law 2650 = .ok (.istore 6, 2) := by decide +kernel
theorem dL_law_2652 : decode cL_law 2652 = .ok (.aload_n 2, 1) := by decide +kernel
theorem dL_law_2653 : decode cL_law 2653 = .ok (.aload_n 0, 1) := by decide +kernel
theorem dL_law_2654 : decode cL_law 2654 = .ok (.iload 5, 2) := by decide +kernel
theorem dL_law_2656 : decode cL_law 2656 = .ok (.iconst 1, 1) := by decide +kernel
theorem dL_law_2657 : decode cL_law 2657 = .ok (.iadd, 1) := by decide +kernel
theorem dL_law_2658 : decode cL_law 2658 = .ok (.iaload, 1) := by decide +kernel
theorem dL_law_2659 : decode cL_law 2659 = .ok (.invokevirtual 284, 3) := by decide +kernel
theorem dL_law_2662 : decode cL_law 2662 = .ok (.istore 7, 2) := by decide +kernel
theorem dL_law_2664 : decode cL_law 2664 = .ok (.aload_n 2, 1) := by decide +kernel
theorem dL_law_2665 : decode cL_law 2665 = .ok (.invokevirtual 172, 3) := by decide +kernel
theorem dL_law_2668 : decode cL_law 2668 = .ok (.iload 6, 2) := by decide +kernel
theorem dL_law_2670 : decode cL_law 2670 = .ok (.if_icmp .eq 5, 3) := by decide +kernel
theorem dL_law_2673 : decode cL_law 2673 = .ok (.iconst 0, 1) := by decide +kernel
theorem dL_law_2674 : decode cL_law 2674 = .ok (.ireturn, 1) := by decide +kernel
theorem dL_law_2675 : decode cL_law 2675 = .ok (.iload 6, 2) := by decide +kernel
theorem dL_law_2677 : decode cL_law 2677 = .ok (.ifCond .ne 15, 3) := by decide +kernel
theorem dL_law_2680 : decode cL_law 2680 = .ok (.aload_n 3, 1) := by decide +kernel
theorem dL_law_2681 : decode cL_law 2681 = .ok (.iconst 0, 1) := by decide +kernel
theorem dL_law_2682 : decode cL_law 2682 = .ok (.laload, 1) := by decide +kernel
theorem dL_law_2683 : decode cL_law 2683 = .ok (.iload 7, 2) := by decide +kernel
theorem dL_law_2685 : decode cL_law 2685 = .ok (.i2l, 1) := by decide +kernel
theorem dL_law_2686 : decode cL_law 2686 = .ok (.lcmp, 1) := by decide +kernel
theorem dL_law_2687 : decode cL_law 2687 = .ok (.ifCond .eq 5, 3) := by decide +kernel
theorem dL_law_2690 : decode cL_law 2690 = .ok (.iconst 0, 1) := by decide +kernel
theorem dL_law_2691 : decode cL_law 2691 = .ok (.ireturn, 1) := by decide +kernel
theorem dL_law_2692 : decode cL_law 2692 = .ok (.goto 708, 3) := by decide +kernel
theorem dL_law_2695 : decode cL_law 2695 = .ok (.aload_n 1, 1) := by decide +kernel
theorem dL_law_2696 : decode cL_law 2696 = .ok (.aload_n 0, 1) := by decide +kernel
theorem dL_law_2697 : decode cL_law 2697 = .ok (.iload 5, 2) := by decide +kernel
theorem dL_law_2699 : decode cL_law 2699 = .ok (.iconst 1, 1) := by decide +kernel
theorem dL_law_2700 : decode cL_law 2700 = .ok (.iadd, 1) := by decide +kernel
theorem dL_law_2701 : decode cL_law 2701 = .ok (.iaload, 1) := by decide +kernel
theorem dL_law_2702 : decode cL_law 2702 = .ok (.aload_n 0, 1) := by decide +kernel
theorem dL_law_2703 : decode cL_law 2703 = .ok (.iload 5, 2) := by decide +kernel
theorem dL_law_2705 : decode cL_law 2705 = .ok (.iconst 2, 1) := by decide +kernel
theorem dL_law_2706 : decode cL_law 2706 = .ok (.iadd, 1) := by decide +kernel
theorem dL_law_2707 : decode cL_law 2707 = .ok (.iaload, 1) := by decide +kernel
theorem dL_law_2708 : decode cL_law 2708 = .ok (.aload_n 3, 1) := by decide +kernel
theorem dL_law_2709 : decode cL_law 2709 = .ok (.invokestatic 285, 3) := by decide +kernel
theorem dL_law_2712 : decode cL_law 2712 = .ok (.istore 6, 2) := by decide +kernel
theorem dL_law_2714 : decode cL_law 2714 = .ok (.aload_n 2, 1) := by decide +kernel
theorem dL_law_2715 : decode cL_law 2715 = .ok (.aload_n 0, 1) := by decide +kernel
theorem dL_law_2716 : decode cL_law 2716 = .ok (.iload 5, 2) := by decide +kernel
theorem dL_law_2718 : decode cL_law 2718 = .ok (.iconst 1, 1) := by decide +kernel
theorem dL_law_2719 : decode cL_law 2719 = .ok (.iadd, 1) := by decide +kernel
theorem dL_law_2720 : decode cL_law 2720 = .ok (.iaload, 1) := by decide +kernel
theorem dL_law_2721 : decode cL_law 2721 = .ok (.aload_n 0, 1) := by decide +kernel
theorem dL_law_2722 : decode cL_law 2722 = .ok (.iload 5, 2) := by decide +kernel
theorem dL_law_2724 : decode cL_law 2724 = .ok (.iconst 2, 1) := by decide +kernel
theorem dL_law_2725 : decode cL_law 2725 = .ok (.iadd, 1) := by decide +kernel
theorem dL_law_2726 : decode cL_law 2726 = .ok (.iaload, 1) := by decide +kernel
theorem dL_law_2727 : decode cL_law 2727 = .ok (.invokevirtual 287, 3) := by decide +kernel
theorem dL_law_2730 : decode cL_law 2730 = .ok (.istore 7, 2) := by decide +kernel
theorem dL_law_2732 : decode cL_law 2732 = .ok (.aload_n 2, 1) := by decide +kernel
theorem dL_law_2733 : decode cL_law 2733 = .ok (.invokevirtual 172, 3) := by decide +kernel
theorem dL_law_2736 : decode cL_law 2736 = .ok (.iload 6, 2) := by decide +kernel
theorem dL_law_2738 : decode cL_law 2738 = .ok (.if_icmp .eq 5, 3) := by decide +kernel
theorem dL_law_2741 : decode cL_law 2741 = .ok (.iconst 0, 1) := by decide +kernel
theorem dL_law_2742 : decode cL_law 2742 = .ok (.ireturn, 1) := by decide +kernel
theorem dL_law_2743 : decode cL_law 2743 = .ok (.iload 6, 2) := by decide +kernel
theorem dL_law_2745 : decode cL_law 2745 = .ok (.ifCond .ne 15, 3) := by decide +kernel
theorem dL_law_2748 : decode cL_law 2748 = .ok (.aload_n 3, 1) := by decide +kernel
theorem dL_law_2749 : decode cL_law 2749 = .ok (.iconst 0, 1) := by decide +kernel
theorem dL_law_2750 : decode cL_law 2750 = .ok (.laload, 1) := by decide +kernel
theorem dL_law_2751 : decode cL_law 2751 = .ok (.iload 7, 2) := by decide +kernel
theorem dL_law_2753 : decode cL_law 2753 = .ok (.i2l, 1) := by decide +kernel
theorem dL_law_2754 : decode cL_law 2754 = .ok (.lcmp, 1) := by decide +kernel
theorem dL_law_2755 : decode cL_law 2755 = .ok (.ifCond .eq 5, 3) := by decide +kernel
theorem dL_law_2758 : decode cL_law 2758 = .ok (.iconst 0, 1) := by decide +kernel
theorem dL_law_2759 : decode cL_law 2759 = .ok (.ireturn, 1) := by decide +kernel
theorem dL_law_2760 : decode cL_law 2760 = .ok (.goto 640, 3) := by decide +kernel
theorem dL_law_2763 : decode cL_law 2763 = .ok (.aload_n 1, 1) := by decide +kernel
theorem dL_law_2764 : decode cL_law 2764 = .ok (.aload_n 0, 1) := by decide +kernel
theorem dL_law_2765 : decode cL_law 2765 = .ok (.iload 5, 2) := by decide +kernel
theorem dL_law_2767 : decode cL_law 2767 = .ok (.iconst 1, 1) := by decide +kernel
theorem dL_law_2768 : decode cL_law 2768 = .ok (.iadd, 1) := by decide +kernel
theorem dL_law_2769 : decode cL_law 2769 = .ok (.iaload, 1) := by decide +kernel
theorem dL_law_2770 : decode cL_law 2770 = .ok (.aload_n 0, 1) := by decide +kernel
theorem dL_law_2771 : decode cL_law 2771 = .ok (.iload 5, 2) := by decide +kernel
theorem dL_law_2773 : decode cL_law 2773 = .ok (.iconst 2, 1) := by decide +kernel
theorem dL_law_2774 : decode cL_law 2774 = .ok (.iadd, 1) := by decide +kernel
theorem dL_law_2775 : decode cL_law 2775 = .ok (.iaload, 1) := by decide +kernel
theorem dL_law_2776 : decode cL_law 2776 = .ok (.aload_n 0, 1) := by decide +kernel
theorem dL_law_2777 : decode cL_law 2777 = .ok (.iload 5, 2) := by decide +kernel
theorem dL_law_2779 : decode cL_law 2779 = .ok (.iconst 3, 1) := by decide +kernel
theorem dL_law_2780 : decode cL_law 2780 = .ok (.iadd, 1) := by decide +kernel
theorem dL_law_2781 : decode cL_law 2781 = .ok (.iaload, 1) := by decide +kernel
theorem dL_law_2782 : decode cL_law 2782 = .ok (.aload_n 0, 1) := by decide +kernel
theorem dL_law_2783 : decode cL_law 2783 = .ok (.iload 5, 2) := by decide +kernel
theorem dL_law_2785 : decode cL_law 2785 = .ok (.iconst 4, 1) := by decide +kernel
theorem dL_law_2786 : decode cL_law 2786 = .ok (.iadd, 1) := by decide +kernel
theorem dL_law_2787 : decode cL_law 2787 = .ok (.iaload, 1) := by decide +kernel
theorem dL_law_2788 : decode cL_law 2788 = .ok (.aload_n 3, 1) := by decide +kernel
theorem dL_law_2789 : decode cL_law 2789 = .ok (.invokestatic 288, 3) := by decide +kernel
theorem dL_law_2792 : decode cL_law 2792 = .ok (.istore 6, 2) := by decide +kernel
theorem dL_law_2794 : decode cL_law 2794 = .ok (.aload_n 2, 1) := by decide +kernel
theorem dL_law_2795 : decode cL_law 2795 = .ok (.aload_n 0, 1) := by decide +kernel
theorem dL_law_2796 : decode cL_law 2796 = .ok (.iload 5, 2) := by decide +kernel
theorem dL_law_2798 : decode cL_law 2798 = .ok (.iconst 1, 1) := by decide +kernel
theorem dL_law_2799 : decode cL_law 2799 = .ok (.iadd, 1) := by decide +kernel
theorem dL_law_2800 : decode cL_law 2800 = .ok (.iaload, 1) := by decide +kernel
theorem dL_law_2801 : decode cL_law 2801 = .ok (.aload_n 0, 1) := by decide +kernel
theorem dL_law_2802 : decode cL_law 2802 = .ok (.iload 5, 2) := by decide +kernel
theorem dL_law_2804 : decode cL_law 2804 = .ok (.iconst 2, 1) := by decide +kernel
theorem dL_law_2805 : decode cL_law 2805 = .ok (.iadd, 1) := by decide +kernel
theorem dL_law_2806 : decode cL_law 2806 = .ok (.iaload, 1) := by decide +kernel
theorem dL_law_2807 : decode cL_law 2807 = .ok (.aload_n 0, 1) := by decide +kernel
theorem dL_law_2808 : decode cL_law 2808 = .ok (.iload 5, 2) := by decide +kernel
theorem dL_law_2810 : decode cL_law 2810 = .ok (.iconst 3, 1) := by decide +kernel
theorem dL_law_2811 : decode cL_law 2811 = .ok (.iadd, 1) := by decide +kernel
theorem dL_law_2812 : decode cL_law 2812 = .ok (.iaload, 1) := by decide +kernel
theorem dL_law_2813 : decode cL_law 2813 = .ok (.aload_n 0, 1) := by decide +kernel
theorem dL_law_2814 : decode cL_law 2814 = .ok (.iload 5, 2) := by decide +kernel
theorem dL_law_2816 : decode cL_law 2816 = .ok (.iconst 4, 1) := by decide +kernel
theorem dL_law_2817 : decode cL_law 2817 = .ok (.iadd, 1) := by decide +kernel
theorem dL_law_2818 : decode cL_law 2818 = .ok (.iaload, 1) := by decide +kernel
theorem dL_law_2819 : decode cL_law 2819 = .ok (.invokevirtual 291, 3) := by decide +kernel
theorem dL_law_2822 : decode cL_law 2822 = .ok (.istore 7, 2) := by decide +kernel
theorem dL_law_2824 : decode cL_law 2824 = .ok (.aload_n 2, 1) := by decide +kernel
theorem dL_law_2825 : decode cL_law 2825 = .ok (.invokevirtual 172, 3) := by decide +kernel
theorem dL_law_2828 : decode cL_law 2828 = .ok (.iload 6, 2) := by decide +kernel
theorem dL_law_2830 : decode cL_law 2830 = .ok (.if_icmp .eq 5, 3) := by decide +kernel
theorem dL_law_2833 : decode cL_law 2833 = .ok (.iconst 0, 1) := by decide +kernel
theorem dL_law_2834 : decode cL_law 2834 = .ok (.ireturn, 1) := by decide +kernel
theorem dL_law_2835 : decode cL_law 2835 = .ok (.iload 6, 2) := by decide +kernel
theorem dL_law_2837 : decode cL_law 2837 = .ok (.ifCond .ne 15, 3) := by decide +kernel
theorem dL_law_2840 : decode cL_law 2840 = .ok (.aload_n 3, 1) := by decide +kernel
theorem dL_law_2841 : decode cL_law 2841 = .ok (.iconst 0, 1) := by decide +kernel
theorem dL_law_2842 : decode cL_law 2842 = .ok (.laload, 1) := by decide +kernel
theorem dL_law_2843 : decode cL_law 2843 = .ok (.iload 7, 2) := by decide +kernel
theorem dL_law_2845 : decode cL_law 2845 = .ok (.i2l, 1) := by decide +kernel
theorem dL_law_2846 : decode cL_law 2846 = .ok (.lcmp, 1) := by decide +kernel
theorem dL_law_2847 : decode cL_law 2847 = .ok (.ifCond .eq 5, 3) := by decide +kernel
theorem dL_law_2850 : decode cL_law 2850 = .ok (.iconst 0, 1) := by decide +kernel
theorem dL_law_2851 : decode cL_law 2851 = .ok (.ireturn, 1) := by decide +kernel
theorem dL_law_2852 : decode cL_law 2852 = .ok (.goto 548, 3) := by decide +kernel
theorem dL_law_2855 : decode cL_law 2855 = .ok (.aload_n 1, 1) := by decide +kernel
theorem dL_law_2856 : decode cL_law 2856 = .ok (.aload_n 0, 1) := by decide +kernel
theorem dL_law_2857 : decode cL_law 2857 = .ok (.iload 5, 2) := by decide +kernel
theorem dL_law_2859 : decode cL_law 2859 = .ok (.iconst 1, 1) := by decide +kernel
theorem dL_law_2860 : decode cL_law 2860 = .ok (.iadd, 1) := by decide +kernel
theorem dL_law_2861 : decode cL_law 2861 = .ok (.iaload, 1) := by decide +kernel
theorem dL_law_2862 : decode cL_law 2862 = .ok (.aload_n 3, 1) := by decide +kernel
theorem dL_law_2863 : decode cL_law 2863 = .ok (.invokestatic 292, 3) := by decide +kernel
theorem dL_law_2866 : decode cL_law 2866 = .ok (.istore 6, 2) := by decide +kernel
theorem dL_law_2868 : decode cL_law 2868 = .ok (.aload_n 2, 1) := by decide +kernel
theorem dL_law_2869 : decode cL_law 2869 = .ok (.aload_n 0, 1) := by decide +kernel
theorem dL_law_2870 : decode cL_law 2870 = .ok (.iload 5, 2) := by decide +kernel
theorem dL_law_2872 : decode cL_law 2872 = .ok (.iconst 1, 1) := by decide +kernel
theorem dL_law_2873 : decode cL_law 2873 = .ok (.iadd, 1) := by decide +kernel
theorem dL_law_2874 : decode cL_law 2874 = .ok (.iaload, 1) := by decide +kernel
theorem dL_law_2875 : decode cL_law 2875 = .ok (.invokevirtual 294, 3) := by decide +kernel
theorem dL_law_2878 : decode cL_law 2878 = .ok (.istore 7, 2) := by decide +kernel
theorem dL_law_2880 : decode cL_law 2880 = .ok (.aload_n 2, 1) := by decide +kernel
theorem dL_law_2881 : decode cL_law 2881 = .ok (.invokevirtual 172, 3) := by decide +kernel
theorem dL_law_2884 : decode cL_law 2884 = .ok (.iload 6, 2) := by decide +kernel
theorem dL_law_2886 : decode cL_law 2886 = .ok (.if_icmp .eq 5, 3) := by decide +kernel
theorem dL_law_2889 : decode cL_law 2889 = .ok (.iconst 0, 1) := by decide +kernel
theorem dL_law_2890 : decode cL_law 2890 = .ok (.ireturn, 1) := by decide +kernel
theorem dL_law_2891 : decode cL_law 2891 = .ok (.iload 6, 2) := by decide +kernel
theorem dL_law_2893 : decode cL_law 2893 = .ok (.ifCond .ne 15, 3) := by decide +kernel
theorem dL_law_2896 : decode cL_law 2896 = .ok (.aload_n 3, 1) := by decide +kernel
theorem dL_law_2897 : decode cL_law 2897 = .ok (.iconst 0, 1) := by decide +kernel
theorem dL_law_2898 : decode cL_law 2898 = .ok (.laload, 1) := by decide +kernel
theorem dL_law_2899 : decode cL_law 2899 = .ok (.iload 7, 2) := by decide +kernel
theorem dL_law_2901 : decode cL_law 2901 = .ok (.i2l, 1) := by decide +kernel
theorem dL_law_2902 : decode cL_law 2902 = .ok (.lcmp, 1) := by decide +kernel
theorem dL_law_2903 : decode cL_law 2903 = .ok (.ifCond .eq 5, 3) := by decide +kernel
theorem dL_law_2906 : decode cL_law 2906 = .ok (.iconst 0, 1) := by decide +kernel
theorem dL_law_2907 : decode cL_law 2907 = .ok (.ireturn, 1) := by decide +kernel
theorem dL_law_2908 : decode cL_law 2908 = .ok (.goto 492, 3) := by decide +kernel
theorem dL_law_2911 : decode cL_law 2911 = .ok (.aload_n 1, 1) := by decide +kernel
theorem dL_law_2912 : decode cL_law 2912 = .ok (.aload_n 0, 1) := by decide +kernel
theorem dL_law_2913 : decode cL_law 2913 = .ok (.iload 5, 2) := by decide +kernel
theorem dL_law_2915 : decode cL_law 2915 = .ok (.iconst 1, 1) := by decide +kernel
theorem dL_law_2916 : decode cL_law 2916 = .ok (.iadd, 1) := by decide +kernel
theorem dL_law_2917 : decode cL_law 2917 = .ok (.iaload, 1) := by decide +kernel
theorem dL_law_2918 : decode cL_law 2918 = .ok (.aload_n 3, 1) := by decide +kernel
theorem dL_law_2919 : decode cL_law 2919 = .ok (.invokestatic 295, 3) := by decide +kernel
theorem dL_law_2922 : decode cL_law 2922 = .ok (.istore 6, 2) := by decide +kernel
theorem dL_law_2924 : decode cL_law 2924 = .ok (.aload_n 2, 1) := by decide +kernel
theorem dL_law_2925 : decode cL_law 2925 = .ok (.aload_n 0, 1) := by decide +kernel
theorem dL_law_2926 : decode cL_law 2926 = .ok (.iload 5, 2) := by decide +kernel
theorem dL_law_2928 : decode cL_law 2928 = .ok (.iconst 1, 1) := by decide +kernel
theorem dL_law_2929 : decode cL_law 2929 = .ok (.iadd, 1) := by decide +kernel
theorem dL_law_2930 : decode cL_law 2930 = .ok (.iaload, 1) := by decide +kernel
theorem dL_law_2931 : decode cL_law 2931 = .ok (.invokevirtual 297, 3) := by decide +kernel
theorem dL_law_2934 : decode cL_law 2934 = .ok (.istore 7, 2) := by decide +kernel
theorem dL_law_2936 : decode cL_law 2936 = .ok (.aload_n 2, 1) := by decide +kernel
theorem dL_law_2937 : decode cL_law 2937 = .ok (.invokevirtual 172, 3) := by decide +kernel
theorem dL_law_2940 : decode cL_law 2940 = .ok (.iload 6, 2) := by decide +kernel
theorem dL_law_2942 : decode cL_law 2942 = .ok (.if_icmp .eq 5, 3) := by decide +kernel
theorem dL_law_2945 : decode cL_law 2945 = .ok (.iconst 0, 1) := by decide +kernel
theorem dL_law_2946 : decode cL_law 2946 = .ok (.ireturn, 1) := by decide +kernel
theorem dL_law_2947 : decode cL_law 2947 = .ok (.iload 6, 2) := by decide +kernel
theorem dL_law_2949 : decode cL_law 2949 = .ok (.ifCond .ne 22, 3) := by decide +kernel
theorem dL_law_2952 : decode cL_law 2952 = .ok (.aload_n 3, 1) := by decide +kernel
theorem dL_law_2953 : decode cL_law 2953 = .ok (.iconst 0, 1) := by decide +kernel
theorem dL_law_2954 : decode cL_law 2954 = .ok (.laload, 1) := by decide +kernel
theorem dL_law_2955 : decode cL_law 2955 = .ok (.iload 7, 2) := by decide +kernel
theorem dL_law_2957 : decode cL_law 2957 = .ok (.ifCond .eq 7, 3) := by decide +kernel
theorem dL_law_2960 : decode cL_law 2960 = .ok (.lconst 1, 1) := by decide +kernel
theorem dL_law_2961 : decode cL_law 2961 = .ok (.goto 4, 3) := by decide +kernel
theorem dL_law_2964 : decode cL_law 2964 = .ok (.lconst 0, 1) := by decide +kernel
theorem dL_law_2965 : decode cL_law 2965 = .ok (.lcmp, 1) := by decide +kernel
theorem dL_law_2966 : decode cL_law 2966 = .ok (.ifCond .eq 5, 3) := by decide +kernel
theorem dL_law_2969 : decode cL_law 2969 = .ok (.iconst 0, 1) := by decide +kernel
theorem dL_law_2970 : decode cL_law 2970 = .ok (.ireturn, 1) := by decide +kernel
theorem dL_law_2971 : decode cL_law 2971 = .ok (.goto 429, 3) := by decide +kernel
theorem dL_law_2974 : decode cL_law 2974 = .ok (.aload_n 1, 1) := by decide +kernel
theorem dL_law_2975 : decode cL_law 2975 = .ok (.aload_n 0, 1) := by decide +kernel
theorem dL_law_2976 : decode cL_law 2976 = .ok (.iload 5, 2) := by decide +kernel
theorem dL_law_2978 : decode cL_law 2978 = .ok (.iconst 1, 1) := by decide +kernel
theorem dL_law_2979 : decode cL_law 2979 = .ok (.iadd, 1) := by decide +kernel
theorem dL_law_2980 : decode cL_law 2980 = .ok (.iaload, 1) := by decide +kernel
theorem dL_law_2981 : decode cL_law 2981 = .ok (.aload_n 0, 1) := by decide +kernel
theorem dL_law_2982 : decode cL_law 2982 = .ok (.iload 5, 2) := by decide +kernel
theorem dL_law_2984 : decode cL_law 2984 = .ok (.iconst 2, 1) := by decide +kernel
theorem dL_law_2985 : decode cL_law 2985 = .ok (.iadd, 1) := by decide +kernel
theorem dL_law_2986 : decode cL_law 2986 = .ok (.iaload, 1) := by decide +kernel
theorem dL_law_2987 : decode cL_law 2987 = .ok (.aload_n 3, 1) := by decide +kernel
theorem dL_law_2988 : decode cL_law 2988 = .ok (.invokestatic 298, 3) := by decide +kernel
theorem dL_law_2991 : decode cL_law 2991 = .ok (.istore 6, 2) := by decide +kernel
theorem dL_law_2993 : decode cL_law 2993 = .ok (.aload_n 2, 1) := by decide +kernel
theorem dL_law_2994 : decode cL_law 2994 = .ok (.aload_n 0, 1) := by decide +kernel
theorem dL_law_2995 : decode cL_law 2995 = .ok (.iload 5, 2) := by decide +kernel
theorem dL_law_2997 : decode cL_law 2997 = .ok (.iconst 1, 1) := by decide +kernel
theorem dL_law_2998 : decode cL_law 2998 = .ok (.iadd, 1) := by decide +kernel
theorem dL_law_2999 : decode cL_law 2999 = .ok (.iaload, 1) := by decide +kernel
theorem dL_law_3000 : decode cL_law 3000 = .ok (.aload_n 0, 1) := by decide +kernel
theorem dL_law_3001 : decode cL_law 3001 = .ok (.iload 5, 2) := by decide +kernel
theorem dL_law_3003 : decode cL_law 3003 = .ok (.iconst 2, 1) := by decide +kernel
theorem dL_law_3004 : decode cL_law 3004 = .ok (.iadd, 1) := by decide +kernel
theorem dL_law_3005 : decode cL_law 3005 = .ok (.iaload, 1) := by decide +kernel
theorem dL_law_3006 : decode cL_law 3006 = .ok (.invokevirtual 300, 3) := by decide +kernel
theorem dL_law_3009 : decode cL_law 3009 = .ok (.istore 7, 2) := by decide +kernel
theorem dL_law_3011 : decode cL_law 3011 = .ok (.aload_n 2, 1) := by decide +kernel
theorem dL_law_3012 : decode cL_law 3012 = .ok (.invokevirtual 172, 3) := by decide +kernel
theorem dL_law_3015 : decode cL_law 3015 = .ok (.iload 6, 2) := by decide +kernel
theorem dL_law_3017 : decode cL_law 3017 = .ok (.if_icmp .eq 5, 3) := by decide +kernel
theorem dL_law_3020 : decode cL_law 3020 = .ok (.iconst 0, 1) := by decide +kernel
theorem dL_law_3021 : decode cL_law 3021 = .ok (.ireturn, 1) := by decide +kernel
theorem dL_law_3022 : decode cL_law 3022 = .ok (.iload 6, 2) := by decide +kernel
theorem dL_law_3024 : decode cL_law 3024 = .ok (.ifCond .ne 15, 3) := by decide +kernel
theorem dL_law_3027 : decode cL_law 3027 = .ok (.aload_n 3, 1) := by decide +kernel
theorem dL_law_3028 : decode cL_law 3028 = .ok (.iconst 0, 1) := by decide +kernel
theorem dL_law_3029 : decode cL_law 3029 = .ok (.laload, 1) := by decide +kernel
theorem dL_law_3030 : decode cL_law 3030 = .ok (.iload 7, 2) := by decide +kernel
theorem dL_law_3032 : decode cL_law 3032 = .ok (.i2l, 1) := by decide +kernel
theorem dL_law_3033 : decode cL_law 3033 = .ok (.lcmp, 1) := by decide +kernel
theorem dL_law_3034 : decode cL_law 3034 = .ok (.ifCond .eq 5, 3) := by decide +kernel
theorem dL_law_3037 : decode cL_law 3037 = .ok (.iconst 0, 1) := by decide +kernel
theorem dL_law_3038 : decode cL_law 3038 = .ok (.ireturn, 1) := by decide +kernel
theorem dL_law_3039 : decode cL_law 3039 = .ok (.goto 361, 3) := by decide +kernel
theorem dL_law_3042 : decode cL_law 3042 = .ok (.aload_n 1, 1) := by decide +kernel
theorem dL_law_3043 : decode cL_law 3043 = .ok (.aload_n 0, 1) := by decide +kernel
theorem dL_law_3044 : decode cL_law 3044 = .ok (.iload 5, 2) := by decide +kernel
theorem dL_law_3046 : decode cL_law 3046 = .ok (.iconst 1, 1) := by decide +kernel
theorem dL_law_3047 : decode cL_law 3047 = .ok (.iadd, 1) := by decide +kernel
theorem dL_law_3048 : decode cL_law 3048 = .ok (.iaload, 1) := by decide +kernel
theorem dL_law_3049 : decode cL_law 3049 = .ok (.aload_n 0, 1) := by decide +kernel
theorem dL_law_3050 : decode cL_law 3050 = .ok (.iload 5, 2) := by decide +kernel
theorem dL_law_3052 : decode cL_law 3052 = .ok (.iconst 2, 1) := by decide +kernel
theorem dL_law_3053 : decode cL_law 3053 = .ok (.iadd, 1) := by decide +kernel
theorem dL_law_3054 : decode cL_law 3054 = .ok (.iaload, 1) := by decide +kernel
theorem dL_law_3055 : decode cL_law 3055 = .ok (.aload_n 3, 1) := by decide +kernel
theorem dL_law_3056 : decode cL_law 3056 = .ok (.invokestatic 301, 3) := by decide +kernel
theorem dL_law_3059 : decode cL_law 3059 = .ok (.istore 6, 2) := by decide +kernel
theorem dL_law_3061 : decode cL_law 3061 = .ok (.aload_n 2, 1) := by decide +kernel
theorem dL_law_3062 : decode cL_law 3062 = .ok (.aload_n 0, 1) := by decide +kernel
theorem dL_law_3063 : decode cL_law 3063 = .ok (.iload 5, 2) := by decide +kernel
theorem dL_law_3065 : decode cL_law 3065 = .ok (.iconst 1, 1) := by decide +kernel
theorem dL_law_3066 : decode cL_law 3066 = .ok (.iadd, 1) := by decide +kernel
theorem dL_law_3067 : decode cL_law 3067 = .ok (.iaload, 1) := by decide +kernel
theorem dL_law_3068 : decode cL_law 3068 = .ok (.aload_n 0, 1) := by decide +kernel
theorem dL_law_3069 : decode cL_law 3069 = .ok (.iload 5, 2) := by decide +kernel
theorem dL_law_3071 : decode cL_law 3071 = .ok (.iconst 2, 1) := by decide +kernel
theorem dL_law_3072 : decode cL_law 3072 = .ok (.iadd, 1) := by decide +kernel
theorem dL_law_3073 : decode cL_law 3073 = .ok (.iaload, 1) := by decide +kernel
theorem dL_law_3074 : decode cL_law 3074 = .ok (.invokevirtual 303, 3) := by decide +kernel
theorem dL_law_3077 : decode cL_law 3077 = .ok (.istore 7, 2) := by decide +kernel
theorem dL_law_3079 : decode cL_law 3079 = .ok (.aload_n 2, 1) := by decide +kernel
theorem dL_law_3080 : decode cL_law 3080 = .ok (.invokevirtual 172, 3) := by decide +kernel
theorem dL_law_3083 : decode cL_law 3083 = .ok (.iload 6, 2) := by decide +kernel
theorem dL_law_3085 : decode cL_law 3085 = .ok (.if_icmp .eq 5, 3) := by decide +kernel
theorem dL_law_3088 : decode cL_law 3088 = .ok (.iconst 0, 1) := by decide +kernel
theorem dL_law_3089 : decode cL_law 3089 = .ok (.ireturn, 1) := by decide +kernel
theorem dL_law_3090 : decode cL_law 3090 = .ok (.iload 6, 2) := by decide +kernel
theorem dL_law_3092 : decode cL_law 3092 = .ok (.ifCond .ne 15, 3) := by decide +kernel
theorem dL_law_3095 : decode cL_law 3095 = .ok (.aload_n 3, 1) := by decide +kernel
theorem dL_law_3096 : decode cL_law 3096 = .ok (.iconst 0, 1) := by decide +kernel
theorem dL_law_3097 : decode cL_law 3097 = .ok (.laload, 1) := by decide +kernel
theorem dL_law_3098 : decode cL_law 3098 = .ok (.iload 7, 2) := by decide +kernel
theorem dL_law_3100 : decode cL_law 3100 = .ok (.i2l, 1) := by decide +kernel
theorem dL_law_3101 : decode cL_law 3101 = .ok (.lcmp, 1) := by decide +kernel
theorem dL_law_3102 : decode cL_law 3102 = .ok (.ifCond .eq 5, 3) := by decide +kernel
theorem dL_law_3105 : decode cL_law 3105 = .ok (.iconst 0, 1) := by decide +kernel
theorem dL_law_3106 : decode cL_law 3106 = .ok (.ireturn, 1) := by decide +kernel
theorem dL_law_3107 : decode cL_law 3107 = .ok (.goto 293, 3) := by decide +kernel
theorem dL_law_3110 : decode cL_law 3110 = .ok (.aload_n 1, 1) := by decide +kernel
theorem dL_law_3111 : decode cL_law 3111 = .ok (.aload_n 0, 1) := by decide +kernel
theorem dL_law_3112 : decode cL_law 3112 = .ok (.iload 5, 2) := by decide +kernel
theorem dL_law_3114 : decode cL_law 3114 = .ok (.iconst 1, 1) := by decide +kernel
theorem dL_law_3115 : decode cL_law 3115 = .ok (.iadd, 1) := by decide +kernel
theorem dL_law_3116 : decode cL_law 3116 = .ok (.iaload, 1) := by decide +kernel
theorem dL_law_3117 : decode cL_law 3117 = .ok (.aload_n 3, 1) := by decide +kernel
theorem dL_law_3118 : decode cL_law 3118 = .ok (.invokestatic 304, 3) := by decide +kernel
theorem dL_law_3121 : decode cL_law 3121 = .ok (.istore 6, 2) := by decide +kernel
theorem dL_law_3123 : decode cL_law 3123 = .ok (.aload_n 2, 1) := by decide +kernel
theorem dL_law_3124 : decode cL_law 3124 = .ok (.aload_n 0, 1) := by decide +kernel
theorem dL_law_3125 : decode cL_law 3125 = .ok (.iload 5, 2) := by decide +kernel
theorem dL_law_3127 : decode cL_law 3127 = .ok (.iconst 1, 1) := by decide +kernel
theorem dL_law_3128 : decode cL_law 3128 = .ok (.iadd, 1) := by decide +kernel
theorem dL_law_3129 : decode cL_law 3129 = .ok (.iaload, 1) := by decide +kernel
theorem dL_law_3130 : decode cL_law 3130 = .ok (.invokevirtual 306, 3) := by decide +kernel
theorem dL_law_3133 : decode cL_law 3133 = .ok (.istore 7, 2) := by decide +kernel
theorem dL_law_3135 : decode cL_law 3135 = .ok (.aload_n 2, 1) := by decide +kernel
theorem dL_law_3136 : decode cL_law 3136 = .ok (.invokevirtual 172, 3) := by decide +kernel
theorem dL_law_3139 : decode cL_law 3139 = .ok (.iload 6, 2) := by decide +kernel
theorem dL_law_3141 : decode cL_law 3141 = .ok (.if_icmp .eq 5, 3) := by decide +kernel
theorem dL_law_3144 : decode cL_law 3144 = .ok (.iconst 0, 1) := by decide +kernel
theorem dL_law_3145 : decode cL_law 3145 = .ok (.ireturn, 1) := by decide +kernel
theorem dL_law_3146 : decode cL_law 3146 = .ok (.iload 6, 2) := by decide +kernel
theorem dL_law_3148 : decode cL_law 3148 = .ok (.ifCond .ne 22, 3) := by decide +kernel
theorem dL_law_3151 : decode cL_law 3151 = .ok (.aload_n 3, 1) := by decide +kernel
theorem dL_law_3152 : decode cL_law 3152 = .ok (.iconst 0, 1) := by decide +kernel
theorem dL_law_3153 : decode cL_law 3153 = .ok (.laload, 1) := by decide +kernel
theorem dL_law_3154 : decode cL_law 3154 = .ok (.iload 7, 2) := by decide +kernel
theorem dL_law_3156 : decode cL_law 3156 = .ok (.ifCond .eq 7, 3) := by decide +kernel
theorem dL_law_3159 : decode cL_law 3159 = .ok (.lconst 1, 1) := by decide +kernel
theorem dL_law_3160 : decode cL_law 3160 = .ok (.goto 4, 3) := by decide +kernel
theorem dL_law_3163 : decode cL_law 3163 = .ok (.lconst 0, 1) := by decide +kernel
theorem dL_law_3164 : decode cL_law 3164 = .ok (.lcmp, 1) := by decide +kernel
theorem dL_law_3165 : decode cL_law 3165 = .ok (.ifCond .eq 5, 3) := by decide +kernel
theorem dL_law_3168 : decode cL_law 3168 = .ok (.iconst 0, 1) := by decide +kernel
theorem dL_law_3169 : decode cL_law 3169 = .ok (.ireturn, 1) := by decide +kernel
theorem dL_law_3170 : decode cL_law 3170 = .ok (.goto 230, 3) := by decide +kernel
theorem dL_law_3173 : decode cL_law 3173 = .ok (.aload_n 1, 1) := by decide +kernel
theorem dL_law_3174 : decode cL_law 3174 = .ok (.aload_n 0, 1) := by decide +kernel
theorem dL_law_3175 : decode cL_law 3175 = .ok (.iload 5, 2) := by decide +kernel
theorem dL_law_3177 : decode cL_law 3177 = .ok (.iconst 1, 1) := by decide +kernel
theorem dL_law_3178 : decode cL_law 3178 = .ok (.iadd, 1) := by decide +kernel
theorem dL_law_3179 : decode cL_law 3179 = .ok (.iaload, 1) := by decide +kernel
theorem dL_law_3180 : decode cL_law 3180 = .ok (.aload_n 0, 1) := by decide +kernel
theorem dL_law_3181 : decode cL_law 3181 = .ok (.iload 5, 2) := by decide +kernel
theorem dL_law_3183 : decode cL_law 3183 = .ok (.iconst 2, 1) := by decide +kernel
theorem dL_law_3184 : decode cL_law 3184 = .ok (.iadd, 1) := by decide +kernel
theorem dL_law_3185 : decode cL_law 3185 = .ok (.iaload, 1) := by decide +kernel
theorem dL_law_3186 : decode cL_law 3186 = .ok (.aload_n 3, 1) := by decide +kernel
theorem dL_law_3187 : decode cL_law 3187 = .ok (.invokestatic 307, 3) := by decide +kernel
theorem dL_law_3190 : decode cL_law 3190 = .ok (.istore 6, 2) := by decide +kernel
theorem dL_law_3192 : decode cL_law 3192 = .ok (.aload_n 2, 1) := by decide +kernel
theorem dL_law_3193 : decode cL_law 3193 = .ok (.aload_n 0, 1) := by decide +kernel
theorem dL_law_3194 : decode cL_law 3194 = .ok (.iload 5, 2) := by decide +kernel
theorem dL_law_3196 : decode cL_law 3196 = .ok (.iconst 1, 1) := by decide +kernel
theorem dL_law_3197 : decode cL_law 3197 = .ok (.iadd, 1) := by decide +kernel
theorem dL_law_3198 : decode cL_law 3198 = .ok (.iaload, 1) := by decide +kernel
theorem dL_law_3199 : decode cL_law 3199 = .ok (.aload_n 0, 1) := by decide +kernel
theorem dL_law_3200 : decode cL_law 3200 = .ok (.iload 5, 2) := by decide +kernel
theorem dL_law_3202 : decode cL_law 3202 = .ok (.iconst 2, 1) := by decide +kernel
theorem dL_law_3203 : decode cL_law 3203 = .ok (.iadd, 1) := by decide +kernel
theorem dL_law_3204 : decode cL_law 3204 = .ok (.iaload, 1) := by decide +kernel
theorem dL_law_3205 : decode cL_law 3205 = .ok (.invokevirtual 309, 3) := by decide +kernel
theorem dL_law_3208 : decode cL_law 3208 = .ok (.istore 7, 2) := by decide +kernel
theorem dL_law_3210 : decode cL_law 3210 = .ok (.aload_n 2, 1) := by decide +kernel
theorem dL_law_3211 : decode cL_law 3211 = .ok (.invokevirtual 172, 3) := by decide +kernel
theorem dL_law_3214 : decode cL_law 3214 = .ok (.iload 6, 2) := by decide +kernel
theorem dL_law_3216 : decode cL_law 3216 = .ok (.if_icmp .eq 5, 3) := by decide +kernel
theorem dL_law_3219 : decode cL_law 3219 = .ok (.iconst 0, 1) := by decide +kernel
theorem dL_law_3220 : decode cL_law 3220 = .ok (.ireturn, 1) := by decide +kernel
theorem dL_law_3221 : decode cL_law 3221 = .ok (.iload 6, 2) := by decide +kernel
theorem dL_law_3223 : decode cL_law 3223 = .ok (.ifCond .ne 15, 3) := by decide +kernel
theorem dL_law_3226 : decode cL_law 3226 = .ok (.aload_n 3, 1) := by decide +kernel
theorem dL_law_3227 : decode cL_law 3227 = .ok (.iconst 0, 1) := by decide +kernel
theorem dL_law_3228 : decode cL_law 3228 = .ok (.laload, 1) := by decide +kernel
theorem dL_law_3229 : decode cL_law 3229 = .ok (.iload 7, 2) := by decide +kernel
theorem dL_law_3231 : decode cL_law 3231 = .ok (.i2l, 1) := by decide +kernel
theorem dL_law_3232 : decode cL_law 3232 = .ok (.lcmp, 1) := by decide +kernel
theorem dL_law_3233 : decode cL_law 3233 = .ok (.ifCond .eq 5, 3) := by decide +kernel
theorem dL_law_3236 : decode cL_law 3236 = .ok (.iconst 0, 1) := by decide +kernel
theorem dL_law_3237 : decode cL_law 3237 = .ok (.ireturn, 1) := by decide +kernel
theorem dL_law_3238 : decode cL_law 3238 = .ok (.goto 162, 3) := by decide +kernel
theorem dL_law_3241 : decode cL_law 3241 = .ok (.aload_n 1, 1) := by decide +kernel
theorem dL_law_3242 : decode cL_law 3242 = .ok (.aload_n 0, 1) := by decide +kernel
theorem dL_law_3243 : decode cL_law 3243 = .ok (.iload 5, 2) := by decide +kernel
theorem dL_law_3245 : decode cL_law 3245 = .ok (.iconst 1, 1) := by decide +kernel
theorem dL_law_3246 : decode cL_law 3246 = .ok (.iadd, 1) := by decide +kernel
theorem dL_law_3247 : decode cL_law 3247 = .ok (.iaload, 1) := by decide +kernel
theorem dL_law_3248 : decode cL_law 3248 = .ok (.aload_n 0, 1) := by decide +kernel
theorem dL_law_3249 : decode cL_law 3249 = .ok (.iload 5, 2) := by decide +kernel
theorem dL_law_3251 : decode cL_law 3251 = .ok (.iconst 2, 1) := by decide +kernel
theorem dL_law_3252 : decode cL_law 3252 = .ok (.iadd, 1) := by decide +kernel
theorem dL_law_3253 : decode cL_law 3253 = .ok (.iaload, 1) := by decide +kernel
theorem dL_law_3254 : decode cL_law 3254 = .ok (.aload_n 3, 1) := by decide +kernel
theorem dL_law_3255 : decode cL_law 3255 = .ok (.invokestatic 310, 3) := by decide +kernel
theorem dL_law_3258 : decode cL_law 3258 = .ok (.istore 6, 2) := by decide +kernel
theorem dL_law_3260 : decode cL_law 3260 = .ok (.aload_n 2, 1) := by decide +kernel
theorem dL_law_3261 : decode cL_law 3261 = .ok (.aload_n 0, 1) := by decide +kernel
theorem dL_law_3262 : decode cL_law 3262 = .ok (.iload 5, 2) := by decide +kernel
theorem dL_law_3264 : decode cL_law 3264 = .ok (.iconst 1, 1) := by decide +kernel
theorem dL_law_3265 : decode cL_law 3265 = .ok (.iadd, 1) := by decide +kernel
theorem dL_law_3266 : decode cL_law 3266 = .ok (.iaload, 1) := by decide +kernel
theorem dL_law_3267 : decode cL_law 3267 = .ok (.aload_n 0, 1) := by decide +kernel
theorem dL_law_3268 : decode cL_law 3268 = .ok (.iload 5, 2) := by decide +kernel
theorem dL_law_3270 : decode cL_law 3270 = .ok (.iconst 2, 1) := by decide +kernel
theorem dL_law_3271 : decode cL_law 3271 = .ok (.iadd, 1) := by decide +kernel
theorem dL_law_3272 : decode cL_law 3272 = .ok (.iaload, 1) := by decide +kernel
theorem dL_law_3273 : decode cL_law 3273 = .ok (.invokevirtual 312, 3) := by decide +kernel
theorem dL_law_3276 : decode cL_law 3276 = .ok (.istore 7, 2) := by decide +kernel
theorem dL_law_3278 : decode cL_law 3278 = .ok (.aload_n 2, 1) := by decide +kernel
theorem dL_law_3279 : decode cL_law 3279 = .ok (.invokevirtual 172, 3) := by decide +kernel
theorem dL_law_3282 : decode cL_law 3282 = .ok (.iload 6, 2) := by decide +kernel
theorem dL_law_3284 : decode cL_law 3284 = .ok (.if_icmp .eq 5, 3) := by decide +kernel
theorem dL_law_3287 : decode cL_law 3287 = .ok (.iconst 0, 1) := by decide +kernel
theorem dL_law_3288 : decode cL_law 3288 = .ok (.ireturn, 1) := by decide +kernel
theorem dL_law_3289 : decode cL_law 3289 = .ok (.iload 6, 2) := by decide +kernel
theorem dL_law_3291 : decode cL_law 3291 = .ok (.ifCond .ne 15, 3) := by decide +kernel
theorem dL_law_3294 : decode cL_law 3294 = .ok (.aload_n 3, 1) := by decide +kernel
theorem dL_law_3295 : decode cL_law 3295 = .ok (.iconst 0, 1) := by decide +kernel
theorem dL_law_3296 : decode cL_law 3296 = .ok (.laload, 1) := by decide +kernel
theorem dL_law_3297 : decode cL_law 3297 = .ok (.iload 7, 2) := by decide +kernel
theorem dL_law_3299 : decode cL_law 3299 = .ok (.i2l, 1) := by decide +kernel
theorem dL_law_3300 : decode cL_law 3300 = .ok (.lcmp, 1) := by decide +kernel
theorem dL_law_3301 : decode cL_law 3301 = .ok (.ifCond .eq 5, 3) := by decide +kernel
theorem dL_law_3304 : decode cL_law 3304 = .ok (.iconst 0, 1) := by decide +kernel
theorem dL_law_3305 : decode cL_law 3305 = .ok (.ireturn, 1) := by decide +kernel
theorem dL_law_3306 : decode cL_law 3306 = .ok (.goto 94, 3) := by decide +kernel
theorem dL_law_3309 : decode cL_law 3309 = .ok (.aload_n 1, 1) := by decide +kernel
theorem dL_law_3310 : decode cL_law 3310 = .ok (.aload_n 0, 1) := by decide +kernel
theorem dL_law_3311 : decode cL_law 3311 = .ok (.iload 5, 2) := by decide +kernel
theorem dL_law_3313 : decode cL_law 3313 = .ok (.iconst 1, 1) := by decide +kernel
theorem dL_law_3314 : decode cL_law 3314 = .ok (.iadd, 1) := by decide +kernel
theorem dL_law_3315 : decode cL_law 3315 = .ok (.iaload, 1) := by decide +kernel
theorem dL_law_3316 : decode cL_law 3316 = .ok (.aload 4, 2) := by decide +kernel
theorem dL_law_3318 : decode cL_law 3318 = .ok (.invokestatic 313, 3) := by decide +kernel
theorem dL_law_3321 : decode cL_law 3321 = .ok (.istore 6, 2) := by decide +kernel
theorem dL_law_3323 : decode cL_law 3323 = .ok (.aload_n 2, 1) := by decide +kernel
theorem dL_law_3324 : decode cL_law 3324 = .ok (.aload_n 0, 1) := by decide +kernel
theorem dL_law_3325 : decode cL_law 3325 = .ok (.iload 5, 2) := by decide +kernel
theorem dL_law_3327 : decode cL_law 3327 = .ok (.iconst 1, 1) := by decide +kernel
theorem dL_law_3328 : decode cL_law 3328 = .ok (.iadd, 1) := by decide +kernel
theorem dL_law_3329 : decode cL_law 3329 = .ok (.iaload, 1) := by decide +kernel
theorem dL_law_3330 : decode cL_law 3330 = .ok (.invokevirtual 316, 3) := by decide +kernel
theorem dL_law_3333 : decode cL_law 3333 = .ok (.dstore 7, 2) := by decide +kernel
theorem dL_law_3335 : decode cL_law 3335 = .ok (.aload_n 2, 1) := by decide +kernel
theorem dL_law_3336 : decode cL_law 3336 = .ok (.invokevirtual 172, 3) := by decide +kernel
theorem dL_law_3339 : decode cL_law 3339 = .ok (.iload 6, 2) := by decide +kernel
theorem dL_law_3341 : decode cL_law 3341 = .ok (.if_icmp .eq 5, 3) := by decide +kernel
theorem dL_law_3344 : decode cL_law 3344 = .ok (.iconst 0, 1) := by decide +kernel
theorem dL_law_3345 : decode cL_law 3345 = .ok (.ireturn, 1) := by decide +kernel
theorem dL_law_3346 : decode cL_law 3346 = .ok (.iload 6, 2) := by decide +kernel
theorem dL_law_3348 : decode cL_law 3348 = .ok (.ifCond .ne 35, 3) := by decide +kernel
theorem dL_law_3351 : decode cL_law 3351 = .ok (.aload 4, 2) := by decide +kernel
theorem dL_law_3353 : decode cL_law 3353 = .ok (.iconst 0, 1) := by decide +kernel
theorem dL_law_3354 : decode cL_law 3354 = .ok (.daload, 1) := by decide +kernel
theorem dL_law_3355 : decode cL_law 3355 = .ok (.dload 7, 2) := by decide +kernel
theorem dL_law_3357 : decode cL_law 3357 = .ok (.dcmp .l, 1) := by decide +kernel
theorem dL_law_3358 : decode cL_law 3358 = .ok (.ifCond .eq 25, 3) := by decide +kernel
theorem dL_law_3361 : decode cL_law 3361 = .ok (.aload 4, 2) := by decide +kernel
theorem dL_law_3363 : decode cL_law 3363 = .ok (.iconst 0, 1) := by decide +kernel
theorem dL_law_3364 : decode cL_law 3364 = .ok (.daload, 1) := by decide +kernel
theorem dL_law_3365 : decode cL_law 3365 = .ok (.aload 4, 2) := by decide +kernel
theorem dL_law_3367 : decode cL_law 3367 = .ok (.iconst 0, 1) := by decide +kernel
theorem dL_law_3368 : decode cL_law 3368 = .ok (.daload, 1) := by decide +kernel
theorem dL_law_3369 : decode cL_law 3369 = .ok (.dcmp .l, 1) := by decide +kernel
theorem dL_law_3370 : decode cL_law 3370 = .ok (.ifCond .eq 11, 3) := by decide +kernel
theorem dL_law_3373 : decode cL_law 3373 = .ok (.dload 7, 2) := by decide +kernel
theorem dL_law_3375 : decode cL_law 3375 = .ok (.dload 7, 2) := by decide +kernel
theorem dL_law_3377 : decode cL_law 3377 = .ok (.dcmp .l, 1) := by decide +kernel
theorem dL_law_3378 : decode cL_law 3378 = .ok (.ifCond .ne 5, 3) := by decide +kernel
theorem dL_law_3381 : decode cL_law 3381 = .ok (.iconst 0, 1) := by decide +kernel
theorem dL_law_3382 : decode cL_law 3382 = .ok (.ireturn, 1) := by decide +kernel
theorem dL_law_3383 : decode cL_law 3383 = .ok (.goto 17, 3) := by decide +kernel
theorem dL_law_3386 : decode cL_law 3386 = .ok (.aload_n 1, 1) := by decide +kernel
theorem dL_law_3387 : decode cL_law 3387 = .ok (.invokevirtual 317, 3) := by decide +kernel
theorem dL_law_3390 : decode cL_law 3390 = .ok (.aload_n 2, 1) := by decide +kernel
theorem dL_law_3391 : decode cL_law 3391 = .ok (.invokevirtual 321, 3) := by decide +kernel
theorem dL_law_3394 : decode cL_law 3394 = .ok (.lcmp, 1) := by decide +kernel
theorem dL_law_3395 : decode cL_law 3395 = .ok (.ifCond .eq 5, 3) := by decide +kernel
theorem dL_law_3398 : decode cL_law 3398 = .ok (.iconst 0, 1) := by decide +kernel
theorem dL_law_3399 : decode cL_law 3399 = .ok (.ireturn, 1) := by decide +kernel
theorem dL_law_3400 : decode cL_law 3400 = .ok (.iinc 5 8, 3) := by decide +kernel
theorem dL_law_3403 : decode cL_law 3403 = .ok (.goto (-3375), 3) := by decide +kernel
theorem dL_law_3406 : decode cL_law 3406 = .ok (.iconst 1, 1) := by decide +kernel
theorem dL_law_3407 : decode cL_law 3407 = .ok (.ireturn, 1) := by decide +kernel
