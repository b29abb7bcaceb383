theorem dX6_init_0 : decode cX6_init 0 = .ok (.aload_n 0, 1) := by decide +kernel
theorem dX6_init_1 : decode cX6_init 1 = .ok (.invokespecial 1, 3) := by decide +kernel
theorem dX6_init_4 : decode cX6_init 4 = .ok (.aload_n 0, 1) := by decide +kernel
theorem dX6_init_5 : decode cX6_init 5 = .ok (.iconst 5, 1) := by decide +kernel
theorem dX6_init_6 : decode cX6_init 6 = .ok (.anewarray 7, 3) := by decide +kernel
theorem dX6_init_9 : decode cX6_init 9 = .ok (.dup, 1) := by decide +kernel
theorem dX6_init_10 : decode cX6_init 10 = .ok (.iconst 0, 1) := by decide +kernel
theorem dX6_init_11 : decode cX6_init 11 = .ok (.ldc 9, 2) := by decide +kernel
theorem dX6_init_13 : decode cX6_init 13 = .ok (.aastore, 1) := by decide +kernel
theorem dX6_init_14 : decode cX6_init 14 = .ok (.dup, 1) := by decide +kernel
theorem dX6_init_15 : decode cX6_init 15 = .ok (.iconst 1, 1) := by decide +kernel
theorem dX6_init_16 : decode cX6_init 16 = .ok (.ldc 11, 2) := by decide +kernel
theorem dX6_init_18 : decode cX6_init 18 = .ok (.aastore, 1) := by decide +kernel
theorem dX6_init_19 : decode cX6_init 19 = .ok (.dup, 1) := by decide +kernel
theorem dX6_init_20 : decode cX6_init 20 = .ok (.iconst 2, 1) := by decide +kernel
theorem dX6_init_21 : decode cX6_init 21 = .ok (.ldc 13, 2) := by decide +kernel
theorem dX6_init_23 : decode cX6_init 23 = .ok (.aastore, 1) := by decide +kernel
theorem dX6_init_24 : decode cX6_init 24 = .ok (.dup, 1) := by decide +kernel
theorem dX6_init_25 : decode cX6_init 25 = .ok (.iconst 3, 1) := by decide +kernel
theorem dX6_init_26 : decode cX6_init 26 = .ok (.ldc 15, 2) := by decide +kernel
theorem dX6_init_28 : decode cX6_init 28 = .ok (.aastore, 1) := by decide +kernel
theorem dX6_init_29 : decode cX6_init 29 = .ok (.dup, 1) := by decide +kernel
theorem dX6_init_30 : decode cX6_init 30 = .ok (.iconst 4, 1) := by decide +kernel
theorem dX6_init_31 : decode cX6_init 31 = .ok (.ldc 17, 2) := by decide +kernel
theorem dX6_init_33 : decode cX6_init 33 = .ok (.aastore, 1) := by decide +kernel
theorem dX6_init_34 : decode cX6_init 34 = .ok (.putfield 19, 3) := by decide +kernel
theorem dX6_init_37 : decode cX6_init 37 = .ok (.aload_n 0, 1) := by decide +kernel
theorem dX6_init_38 : decode cX6_init 38 = .ok (.bipush 8, 2) := by decide +kernel
theorem dX6_init_40 : decode cX6_init 40 = .ok (.newarray .int, 2) := by decide +kernel
theorem dX6_init_42 : decode cX6_init 42 = .ok (.putfield 25, 3) := by decide +kernel
theorem dX6_init_45 : decode cX6_init 45 = .ok (.aload_n 0, 1) := by decide +kernel
theorem dX6_init_46 : decode cX6_init 46 = .ok (.bipush 12, 2) := by decide +kernel
theorem dX6_init_48 : decode cX6_init 48 = .ok (.newarray .int, 2) := by decide +kernel
theorem dX6_init_50 : decode cX6_init 50 = .ok (.putfield 29, 3) := by decide +kernel
theorem dX6_init_53 : decode cX6_init 53 = .ok (.aload_n 0, 1) := by decide +kernel
theorem dX6_init_54 : decode cX6_init 54 = .ok (.bipush 12, 2) := by decide +kernel
theorem dX6_init_56 : decode cX6_init 56 = .ok (.newarray .int, 2) := by decide +kernel
theorem dX6_init_58 : decode cX6_init 58 = .ok (.putfield 32, 3) := by decide +kernel
theorem dX6_init_61 : decode cX6_init 61 = .ok (.aload_n 0, 1) := by decide +kernel
theorem dX6_init_62 : decode cX6_init 62 = .ok (.bipush 24, 2) := by decide +kernel
theorem dX6_init_64 : decode cX6_init 64 = .ok (.newarray .int, 2) := by decide +kernel
theorem dX6_init_66 : decode cX6_init 66 = .ok (.putfield 35, 3) := by decide +kernel
theorem dX6_init_69 : decode cX6_init 69 = .ok (.aload_n 0, 1) := by decide +kernel
theorem dX6_init_70 : decode cX6_init 70 = .ok (.iconst 2, 1) := by decide +kernel
theorem dX6_init_71 : decode cX6_init 71 = .ok (.newarray .int, 2) := by decide +kernel
theorem dX6_init_73 : decode cX6_init 73 = .ok (.putfield 38, 3) := by decide +kernel
theorem dX6_init_76 : decode cX6_init 76 = .ok (.aload_n 0, 1) := by decide +kernel
theorem dX6_init_77 : decode cX6_init 77 = .ok (.bipush 30, 2) := by decide +kernel
theorem dX6_init_79 : decode cX6_init 79 = .ok (.newarray .int, 2) := by decide +kernel
theorem dX6_init_81 : decode cX6_init 81 = .ok (.putfield 41, 3) := by decide +kernel
theorem dX6_init_84 : decode cX6_init 84 = .ok (.aload_n 0, 1) := by decide +kernel
theorem dX6_init_85 : decode cX6_init 85 = .ok (.bipush 30, 2) := by decide +kernel
theorem dX6_init_87 : decode cX6_init 87 = .ok (.newarray .int, 2) := by decide +kernel
theorem dX6_init_89 : decode cX6_init 89 = .ok (.putfield 44, 3) := by decide +kernel
theorem dX6_init_92 : decode cX6_init 92 = .ok (.aload_n 0, 1) := by decide +kernel
theorem dX6_init_93 : decode cX6_init 93 = .ok (.bipush 12, 2) := by decide +kernel
theorem dX6_init_95 : decode cX6_init 95 = .ok (.newarray .int, 2) := by decide +kernel
theorem dX6_init_97 : decode cX6_init 97 = .ok (.putfield 47, 3) := by decide +kernel
theorem dX6_init_100 : decode cX6_init 100 = .ok (.aload_n 0, 1) := by decide +kernel
theorem dX6_init_101 : decode cX6_init 101 = .ok (.bipush 12, 2) := by decide +kernel
theorem dX6_init_103 : decode cX6_init 103 = .ok (.newarray .int, 2) := by decide +kernel
theorem dX6_init_105 : decode cX6_init 105 = .ok (.putfield 50, 3) := by decide +kernel
theorem dX6_init_108 : decode cX6_init 108 = .ok (.aload_n 0, 1) := by decide +kernel
theorem dX6_init_109 : decode cX6_init 109 = .ok (.bipush 24, 2) := by decide +kernel
theorem dX6_init_111 : decode cX6_init 111 = .ok (.newarray .boolean, 2) := by decide +kernel
theorem dX6_init_113 : decode cX6_init 113 = .ok (.putfield 53, 3) := by decide +kernel
theorem dX6_init_116 : decode cX6_init 116 = .ok (.aload_n 0, 1) := by decide +kernel
theorem dX6_init_117 : decode cX6_init 117 = .ok (.sipush 700, 3) := by decide +kernel
theorem dX6_init_120 : decode cX6_init 120 = .ok (.newarray .int, 2) := by decide +kernel
theorem dX6_init_122 : decode cX6_init 122 = .ok (.putfield 57, 3) := by decide +kernel
theorem dX6_init_125 : decode cX6_init 125 = .ok (.aload_n 0, 1) := by decide +kernel
theorem dX6_init_126 : decode cX6_init 126 = .ok (.iconst (-1), 1) := by decide +kernel
theorem dX6_init_127 : decode cX6_init 127 = .ok (.putfield 60, 3) := by decide +kernel
theorem dX6_init_130 : decode cX6_init 130 = .ok (.aload_n 0, 1) := by decide +kernel
theorem dX6_init_131 : decode cX6_init 131 = .ok (.sipush 1800, 3) := by decide +kernel
theorem dX6_init_134 : decode cX6_init 134 = .ok (.newarray .int, 2) := by decide +kernel
theorem dX6_init_136 : decode cX6_init 136 = .ok (.putfield 64, 3) := by decide +kernel
theorem dX6_init_139 : decode cX6_init 139 = .ok (.aload_n 0, 1) := by decide +kernel
theorem dX6_init_140 : decode cX6_init 140 = .ok (.sipush 210, 3) := by decide +kernel
theorem dX6_init_143 : decode cX6_init 143 = .ok (.newarray .int, 2) := by decide +kernel
theorem dX6_init_145 : decode cX6_init 145 = .ok (.putfield 67, 3) := by decide +kernel
theorem dX6_init_148 : decode cX6_init 148 = .ok (.aload_n 0, 1) := by decide +kernel
theorem dX6_init_149 : decode cX6_init 149 = .ok (.bipush 30, 2) := by decide +kernel
theorem dX6_init_151 : decode cX6_init 151 = .ok (.newarray .int, 2) := by decide +kernel
theorem dX6_init_153 : decode cX6_init 153 = .ok (.putfield 70, 3) := by decide +kernel
theorem dX6_init_156 : decode cX6_init 156 = .ok (.aload_n 0, 1) := by decide +kernel
theorem dX6_init_157 : decode cX6_init 157 = .ok (.bipush 6, 2) := by decide +kernel
theorem dX6_init_159 : decode cX6_init 159 = .ok (.newarray .int, 2) := by decide +kernel
theorem dX6_init_161 : decode cX6_init 161 = .ok (.putfield 73, 3) := by decide +kernel
theorem dX6_init_164 : decode cX6_init 164 = .ok (.aload_n 0, 1) := by decide +kernel
theorem dX6_init_165 : decode cX6_init 165 = .ok (.bipush 6, 2) := by decide +kernel
theorem dX6_init_167 : decode cX6_init 167 = .ok (.newarray .int, 2) := by decide +kernel
theorem dX6_init_169 : decode cX6_init 169 = .ok (.putfield 76, 3) := by decide +kernel
theorem dX6_init_172 : decode cX6_init 172 = .ok (.aload_n 0, 1) := by decide +kernel
theorem dX6_init_173 : decode cX6_init 173 = .ok (.bipush 6, 2) := by decide +kernel
theorem dX6_init_175 : decode cX6_init 175 = .ok (.newarray .int, 2) := by decide +kernel
theorem dX6_init_177 : decode cX6_init 177 = .ok (.putfield 79, 3) := by decide +kernel
theorem dX6_init_180 : decode cX6_init 180 = .ok (.aload_n 0, 1) := by decide +kernel
theorem dX6_init_181 : decode cX6_init 181 = .ok (.bipush 6, 2) := by decide +kernel
theorem dX6_init_183 : decode cX6_init 183 = .ok (.newarray .int, 2) := by decide +kernel
theorem dX6_init_185 : decode cX6_init 185 = .ok (.putfield 82, 3) := by decide +kernel
theorem dX6_init_188 : decode cX6_init 188 = .ok (.aload_n 0, 1) := by decide +kernel
theorem dX6_init_189 : decode cX6_init 189 = .ok (.iconst (-1), 1) := by decide +kernel
theorem dX6_init_190 : decode cX6_init 190 = .ok (.putfield 85, 3) := by decide +kernel
theorem dX6_init_193 : decode cX6_init 193 = .ok (.aload_n 0, 1) := by decide +kernel
theorem dX6_init_194 : decode cX6_init 194 = .ok (.sipush 30000, 3) := by decide +kernel
theorem dX6_init_197 : decode cX6_init 197 = .ok (.newarray .int, 2) := by decide +kernel
theorem dX6_init_199 : decode cX6_init 199 = .ok (.putfield 88, 3) := by decide +kernel
theorem dX6_init_202 : decode cX6_init 202 = .ok (.aload_n 0, 1) := by decide +kernel
theorem dX6_init_203 : decode cX6_init 203 = .ok (.sipush 1000, 3) := by decide +kernel
theorem dX6_init_206 : decode cX6_init 206 = .ok (.newarray .int, 2) := by decide +kernel
theorem dX6_init_208 : decode cX6_init 208 = .ok (.putfield 91, 3) := by decide +kernel
theorem dX6_init_211 : decode cX6_init 211 = .ok (.aload_n 0, 1) := by decide +kernel
theorem dX6_init_212 : decode cX6_init 212 = .ok (.sipush 1000, 3) := by decide +kernel
theorem dX6_init_215 : decode cX6_init 215 = .ok (.newarray .int, 2) := by decide +kernel
theorem dX6_init_217 : decode cX6_init 217 = .ok (.putfield 94, 3) := by decide +kernel
theorem dX6_init_220 : decode cX6_init 220 = .ok (.aload_n 0, 1) := by decide +kernel
theorem dX6_init_221 : decode cX6_init 221 = .ok (.sipush 4096, 3) := by decide +kernel
theorem dX6_init_224 : decode cX6_init 224 = .ok (.newarray .int, 2) := by decide +kernel
theorem dX6_init_226 : decode cX6_init 226 = .ok (.putfield 97, 3) := by decide +kernel
theorem dX6_init_229 : decode cX6_init 229 = .ok (.aload_n 0, 1) := by decide +kernel
theorem dX6_init_230 : decode cX6_init 230 = .ok (.bipush 30, 2) := by decide +kernel
theorem dX6_init_232 : decode cX6_init 232 = .ok (.newarray .int, 2) := by decide +kernel
theorem dX6_init_234 : decode cX6_init 234 = .ok (.putfield 100, 3) := by decide +kernel
theorem dX6_init_237 : decode cX6_init 237 = .ok (.aload_n 0, 1) := by decide +kernel
theorem dX6_init_238 : decode cX6_init 238 = .ok (.bipush 30, 2) := by decide +kernel
theorem dX6_init_240 : decode cX6_init 240 = .ok (.newarray .int, 2) := by decide +kernel
theorem dX6_init_242 : decode cX6_init 242 = .ok (.putfield 103, 3) := by decide +kernel
theorem dX6_init_245 : decode cX6_init 245 = .ok (.aload_n 0, 1) := by decide +kernel
theorem dX6_init_246 : decode cX6_init 246 = .ok (.sipush 4000, 3) := by decide +kernel
theorem dX6_init_249 : decode cX6_init 249 = .ok (.newarray .boolean, 2) := by decide +kernel
theorem dX6_init_251 : decode cX6_init 251 = .ok (.putfield 106, 3) := by decide +kernel
theorem dX6_init_254 : decode cX6_init 254 = .ok (.aload_n 0, 1) := by decide +kernel
theorem dX6_init_255 : decode cX6_init 255 = .ok (.bipush 12, 2) := by decide +kernel
theorem dX6_init_257 : decode cX6_init 257 = .ok (.newarray .int, 2) := by decide +kernel
theorem dX6_init_259 : decode cX6_init 259 = .ok (.putfield 109, 3) := by decide +kernel
theorem dX6_init_262 : decode cX6_init 262 = .ok (.aload_n 0, 1) := by decide +kernel
theorem dX6_init_263 : decode cX6_init 263 = .ok (.bipush 30, 2) := by decide +kernel
theorem dX6_init_265 : decode cX6_init 265 = .ok (.newarray .int, 2) := by decide +kernel
theorem dX6_init_267 : decode cX6_init 267 = .ok (.putfield 112, 3) := by decide +kernel
theorem dX6_init_270 : decode cX6_init 270 = .ok (.aload_n 0, 1) := by decide +kernel
theorem dX6_init_271 : decode cX6_init 271 = .ok (.bipush 12, 2) := by decide +kernel
theorem dX6_init_273 : decode cX6_init 273 = .ok (.newarray .int, 2) := by decide +kernel
theorem dX6_init_275 : decode cX6_init 275 = .ok (.putfield 115, 3) := by decide +kernel
theorem dX6_init_278 : decode cX6_init 278 = .ok (.aload_n 0, 1) := by decide +kernel
theorem dX6_init_279 : decode cX6_init 279 = .ok (.sipush 1800, 3) := by decide +kernel
theorem dX6_init_282 : decode cX6_init 282 = .ok (.newarray .int, 2) := by decide +kernel
theorem dX6_init_284 : decode cX6_init 284 = .ok (.putfield 118, 3) := by decide +kernel
theorem dX6_init_287 : decode cX6_init 287 = .ok (.aload_n 0, 1) := by decide +kernel
theorem dX6_init_288 : decode cX6_init 288 = .ok (.iconst 2, 1) := by decide +kernel
theorem dX6_init_289 : decode cX6_init 289 = .ok (.newarray .int, 2) := by decide +kernel
theorem dX6_init_291 : decode cX6_init 291 = .ok (.putfield 121, 3) := by decide +kernel
theorem dX6_init_294 : decode cX6_init 294 = .ok (.aload_n 0, 1) := by decide +kernel
theorem dX6_init_295 : decode cX6_init 295 = .ok (.getfield 41, 3) := by decide +kernel
theorem dX6_init_298 : decode cX6_init 298 = .ok (.invokestatic 124, 3) := by decide +kernel
theorem dX6_init_301 : decode cX6_init 301 = .ok (.return_, 1) := by decide +kernel
theorem dX6_thrown_0 : decode cX6_thrown 0 = .ok (.aload_n 0, 1) := by decide +kernel
theorem dX6_thrown_1 : decode cX6_thrown 1 = .ok (.getfield 128, 3) := by decide +kernel
theorem dX6_thrown_4 : decode cX6_thrown 4 = .ok (.ireturn, 1) := by decide +kernel
theorem dX6_fail_0 : decode cX6_fail 0 = .ok (.aload_n 0, 1) := by decide +kernel
theorem dX6_fail_1 : decode cX6_fail 1 = .ok (.iload_n 1, 1) := by decide +kernel
theorem dX6_fail_2 : decode cX6_fail 2 = .ok (.putfield 128, 3) := by decide +kernel
theorem dX6_fail_5 : decode cX6_fail 5 = .ok (.iconst 0, 1) := by decide +kernel
theorem dX6_fail_6 : decode cX6_fail 6 = .ok (.ireturn, 1) := by decide +kernel
theorem dX6_isIn_0 : decode cX6_isIn 0 = .ok (.iload_n 0, 1) := by decide +kernel
theorem dX6_isIn_1 : decode cX6_isIn 1 = .ok (.iload_n 1, 1) := by decide +kernel
theorem dX6_isIn_2 : decode cX6_isIn 2 = .ok (.if_icmp .lt 12, 3) := by decide +kernel
theorem dX6_isIn_5 : decode cX6_isIn 5 = .ok (.iload_n 0, 1) := by decide +kernel
theorem dX6_isIn_6 : decode cX6_isIn 6 = .ok (.iload_n 2, 1) := by decide +kernel
theorem dX6_isIn_7 : decode cX6_isIn 7 = .ok (.if_icmp .gt 7, 3) := by decide +kernel
theorem dX6_isIn_10 : decode cX6_isIn 10 = .ok (.iconst 1, 1) := by decide +kernel
theorem dX6_isIn_11 : decode cX6_isIn 11 = .ok (.goto 4, 3) := by decide +kernel
theorem dX6_isIn_14 : decode cX6_isIn 14 = .ok (.iconst 0, 1) := by decide +kernel
theorem dX6_isIn_15 : decode cX6_isIn 15 = .ok (.ireturn, 1) := by decide +kernel
theorem dX6_begin_0 : decode cX6_begin 0 = .ok (.iconst 0, 1) := by decide +kernel
theorem dX6_begin_1 : decode cX6_begin 1 = .ok (.istore_n 1, 1) := by decide +kernel
theorem dX6_begin_2 : decode cX6_begin 2 = .ok (.iload_n 1, 1) := by decide +kernel
theorem dX6_begin_3 : decode cX6_begin 3 = .ok (.bipush 30, 2) := by decide +kernel
theorem dX6_begin_5 : decode cX6_begin 5 = .ok (.if_icmp .ge 29, 3) := by decide +kernel
theorem dX6_begin_8 : decode cX6_begin 8 = .ok (.aload_n 0, 1) := by decide +kernel
theorem dX6_begin_9 : decode cX6_begin 9 = .ok (.iload_n 1, 1) := by decide +kernel
theorem dX6_begin_10 : decode cX6_begin 10 = .ok (.iload_n 1, 1) := by decide +kernel
theorem dX6_begin_11 : decode cX6_begin 11 = .ok (.bipush 12, 2) := by decide +kernel
theorem dX6_begin_13 : decode cX6_begin 13 = .ok (.if_icmp .lt 9, 3) := by decide +kernel
theorem dX6_begin_16 : decode cX6_begin 16 = .ok (.iload_n 1, 1) := by decide +kernel
theorem dX6_begin_17 : decode cX6_begin 17 = .ok (.bipush 24, 2) := by decide +kernel
theorem dX6_begin_19 : decode cX6_begin 19 = .ok (.if_icmp .lt 7, 3) := by decide +kernel
theorem dX6_begin_22 : decode cX6_begin 22 = .ok (.iconst (-1), 1) := by decide +kernel
theorem dX6_begin_23 : decode cX6_begin 23 = .ok (.goto 4, 3) := by decide +kernel
theorem dX6_begin_26 : decode cX6_begin 26 = .ok (.iconst 0, 1) := by decide +kernel
theorem dX6_begin_27 : decode cX6_begin 27 = .ok (.iastore, 1) := by decide +kernel
theorem dX6_begin_28 : decode cX6_begin 28 = .ok (.iinc 1 1, 3) := by decide +kernel
theorem dX6_begin_31 : decode cX6_begin 31 = .ok (.goto (-29), 3) := by decide +kernel
theorem dX6_begin_34 : decode cX6_begin 34 = .ok (.return_, 1) := by decide +kernel
theorem dX6_isPerson_0 : decode cX6_isPerson 0 = .ok (.iload_n 1, 1) := by decide +kernel
theorem dX6_isPerson_1 : decode cX6_isPerson 1 = .ok (.iconst 0, 1) := by decide +kernel
theorem dX6_isPerson_2 : decode cX6_isPerson 2 = .ok (.aload_n 0, 1) := by decide +kernel
theorem dX6_isPerson_3 : decode cX6_isPerson 3 = .ok (.getfield 25, 3) := by decide +kernel
theorem dX6_isPerson_6 : decode cX6_isPerson 6 = .ok (.iconst 0, 1) := by decide +kernel
theorem dX6_isPerson_7 : decode cX6_isPerson 7 = .ok (.iaload, 1) := by decide +kernel
theorem dX6_isPerson_8 : decode cX6_isPerson 8 = .ok (.iconst 1, 1) := by decide +kernel
theorem dX6_isPerson_9 : decode cX6_isPerson 9 = .ok (.isub, 1) := by decide +kernel
theorem dX6_isPerson_10 : decode cX6_isPerson 10 = .ok (.invokestatic 131, 3) := by decide +kernel
theorem dX6_isPerson_13 : decode cX6_isPerson 13 = .ok (.ireturn, 1) := by decide +kernel
theorem dX6_isThing_0 : decode cX6_isThing 0 = .ok (.iload_n 1, 1) := by decide +kernel
theorem dX6_isThing_1 : decode cX6_isThing 1 = .ok (.iconst 0, 1) := by decide +kernel
theorem dX6_isThing_2 : decode cX6_isThing 2 = .ok (.aload_n 0, 1) := by decide +kernel
theorem dX6_isThing_3 : decode cX6_isThing 3 = .ok (.getfield 25, 3) := by decide +kernel
theorem dX6_isThing_6 : decode cX6_isThing 6 = .ok (.iconst 1, 1) := by decide +kernel
theorem dX6_isThing_7 : decode cX6_isThing 7 = .ok (.iaload, 1) := by decide +kernel
theorem dX6_isThing_8 : decode cX6_isThing 8 = .ok (.iconst 1, 1) := by decide +kernel
theorem dX6_isThing_9 : decode cX6_isThing 9 = .ok (.isub, 1) := by decide +kernel
theorem dX6_isThing_10 : decode cX6_isThing 10 = .ok (.invokestatic 131, 3) := by decide +kernel
theorem dX6_isThing_13 : decode cX6_isThing 13 = .ok (.ireturn, 1) := by decide +kernel
theorem dX6_feed_0 : decode cX6_feed 0 = .ok (.aload_n 0, 1) := by decide +kernel
theorem dX6_feed_1 : decode cX6_feed 1 = .ok (.iconst 0, 1) := by decide +kernel
theorem dX6_feed_2 : decode cX6_feed 2 = .ok (.putfield 128, 3) := by decide +kernel
theorem dX6_feed_5 : decode cX6_feed 5 = .ok (.aload_n 0, 1) := by decide +kernel
theorem dX6_feed_6 : decode cX6_feed 6 = .ok (.getfield 135, 3) := by decide +kernel
theorem dX6_feed_9 : decode cX6_feed 9 = .ok (.bipush 20, 2) := by decide +kernel
theorem dX6_feed_11 : decode cX6_feed 11 = .ok (.iadd, 1) := by decide +kernel
theorem dX6_feed_12 : decode cX6_feed 12 = .ok (.sipush 700, 3) := by decide +kernel
theorem dX6_feed_15 : decode cX6_feed 15 = .ok (.if_icmp .le 5, 3) := by decide +kernel
theorem dX6_feed_18 : decode cX6_feed 18 = .ok (.iconst (-1), 1) := by decide +kernel
theorem dX6_feed_19 : decode cX6_feed 19 = .ok (.ireturn, 1) := by decide +kernel
theorem dX6_feed_20 : decode cX6_feed 20 = .ok (.iconst 0, 1) := by decide +kernel
theorem dX6_feed_21 : decode cX6_feed 21 = .ok (.istore 6, 2) := by decide +kernel
theorem dX6_feed_23 : decode cX6_feed 23 = .ok (.iload 6, 2) := by decide +kernel
theorem dX6_feed_25 : decode cX6_feed 25 = .ok (.bipush 20, 2) := by decide +kernel
theorem dX6_feed_27 : decode cX6_feed 27 = .ok (.if_icmp .ge 93, 3) := by decide +kernel
theorem dX6_feed_30 : decode cX6_feed 30 = .ok (.iload 6, 2) := by decide +kernel
theorem dX6_feed_32 : decode cX6_feed 32 = .ok (.iconst 4, 1) := by decide +kernel
theorem dX6_feed_33 : decode cX6_feed 33 = .ok (.if_icmp .ge 7, 3) := by decide +kernel
theorem dX6_feed_36 : decode cX6_feed 36 = .ok (.iload_n 1, 1) := by decide +kernel
theorem dX6_feed_37 : decode cX6_feed 37 = .ok (.goto 39, 3) := by decide +kernel
theorem dX6_feed_40 : decode cX6_feed 40 = .ok (.iload 6, 2) := by decide +kernel
theorem dX6_feed_42 : decode cX6_feed 42 = .ok (.bipush 8, 2) := by decide +kernel
theorem dX6_feed_44 : decode cX6_feed 44 = .ok (.if_icmp .ge 7, 3) := by decide +kernel
theorem dX6_feed_47 : decode cX6_feed 47 = .ok (.iload_n 2, 1) := by decide +kernel
theorem dX6_feed_48 : decode cX6_feed 48 = .ok (.goto 28, 3) := by decide +kernel
theorem dX6_feed_51 : decode cX6_feed 51 = .ok (.iload 6, 2) := by decide +kernel
theorem dX6_feed_53 : decode cX6_feed 53 = .ok (.bipush 12, 2) := by decide +kernel
theorem dX6_feed_55 : decode cX6_feed 55 = .ok (.if_icmp .ge 7, 3) := by decide +kernel
theorem dX6_feed_58 : decode cX6_feed 58 = .ok (.iload_n 3, 1) := by decide +kernel
theorem dX6_feed_59 : decode cX6_feed 59 = .ok (.goto 17, 3) := by decide +kernel
theorem dX6_feed_62 : decode cX6_feed 62 = .ok (.iload 6, 2) := by decide +kernel
theorem dX6_feed_64 : decode cX6_feed 64 = .ok (.bipush 16, 2) := by decide +kernel
theorem dX6_feed_66 : decode cX6_feed 66 = .ok (.if_icmp .ge 8, 3) := by decide +kernel
theorem dX6_feed_69 : decode cX6_feed 69 = .ok (.iload 4, 2) := by decide +kernel
theorem dX6_feed_71 : decode cX6_feed 71 = .ok (.goto 5, 3) := by decide +kernel
theorem dX6_feed_74 : decode cX6_feed 74 = .ok (.iload 5, 2) := by decide +kernel
theorem dX6_feed_76 : decode cX6_feed 76 = .ok (.istore 7, 2) := by decide +kernel
theorem dX6_feed_78 : decode cX6_feed 78 = .ok (.aload_n 0, 1) := by decide +kernel
theorem dX6_feed_79 : decode cX6_feed 79 = .ok (.getfield 57, 3) := by decide +kernel
theorem dX6_feed_82 : decode cX6_feed 82 = .ok (.aload_n 0, 1) := by decide +kernel
theorem dX6_feed_83 : decode cX6_feed 83 = .ok (.getfield 135, 3) := by decide +kernel
theorem dX6_feed_86 : decode cX6_feed 86 = .ok (.iload 7, 2) := by decide +kernel
theorem dX6_feed_88 : decode cX6_feed 88 = .ok (.bipush 24, 2) := by decide +kernel
theorem dX6_feed_90 : decode cX6_feed 90 = .ok (.bipush 8, 2) := by decide +kernel
theorem dX6_feed_92 : decode cX6_feed 92 = .ok (.iload 6, 2) := by decide +kernel
theorem dX6_feed_94 : decode cX6_feed 94 = .ok (.iconst 4, 1) := by decide +kernel
theorem dX6_feed_95 : decode cX6_feed 95 = .ok (.irem, 1) := by decide +kernel
theorem dX6_feed_96 : decode cX6_feed 96 = .ok (.imul, 1) := by decide +kernel
theorem dX6_feed_97 : decode cX6_feed 97 = .ok (.isub, 1) := by decide +kernel
theorem dX6_feed_98 : decode cX6_feed 98 = .ok (.ishr, 1) := by decide +kernel
theorem dX6_feed_99 : decode cX6_feed 99 = .ok (.sipush 255, 3) := by decide +kernel
theorem dX6_feed_102 : decode cX6_feed 102 = .ok (.iand, 1) := by decide +kernel
theorem dX6_feed_103 : decode cX6_feed 103 = .ok (.iastore, 1) := by decide +kernel
theorem dX6_feed_104 : decode cX6_feed 104 = .ok (.aload_n 0, 1) := by decide +kernel
theorem dX6_feed_105 : decode cX6_feed 105 = .ok (.dup, 1) := by decide +kernel
theorem dX6_feed_106 : decode cX6_feed 106 = .ok (.getfield 135, 3) := by decide +kernel
theorem dX6_feed_109 : decode cX6_feed 109 = .ok (.iconst 1, 1) := by decide +kernel
theorem dX6_feed_110 : decode cX6_feed 110 = .ok (.iadd, 1) := by decide +kernel
theorem dX6_feed_111 : decode cX6_feed 111 = .ok (.putfield 135, 3) := by decide +kernel
theorem dX6_feed_114 : decode cX6_feed 114 = .ok (.iinc 6 1, 3) := by decide +kernel
theorem dX6_feed_117 : decode cX6_feed 117 = .ok (.goto (-94), 3) := by decide +kernel
theorem dX6_feed_120 : decode cX6_feed 120 = .ok (.aload_n 0, 1) := by decide +kernel
theorem dX6_feed_121 : decode cX6_feed 121 = .ok (.getfield 135, 3) := by decide +kernel
theorem dX6_feed_124 : decode cX6_feed 124 = .ok (.ireturn, 1) := by decide +kernel
theorem dX6_byteAt_0 : decode cX6_byteAt 0 = .ok (.iload_n 1, 1) := by decide +kernel
theorem dX6_byteAt_1 : decode cX6_byteAt 1 = .ok (.aload_n 0, 1) := by decide +kernel
theorem dX6_byteAt_2 : decode cX6_byteAt 2 = .ok (.getfield 138, 3) := by decide +kernel
theorem dX6_byteAt_5 : decode cX6_byteAt 5 = .ok (.if_icmp .ge 12, 3) := by decide +kernel
theorem dX6_byteAt_8 : decode cX6_byteAt 8 = .ok (.aload_n 0, 1) := by decide +kernel
theorem dX6_byteAt_9 : decode cX6_byteAt 9 = .ok (.getfield 57, 3) := by decide +kernel
theorem dX6_byteAt_12 : decode cX6_byteAt 12 = .ok (.iload_n 1, 1) := by decide +kernel
theorem dX6_byteAt_13 : decode cX6_byteAt 13 = .ok (.iaload, 1) := by decide +kernel
theorem dX6_byteAt_14 : decode cX6_byteAt 14 = .ok (.goto 4, 3) := by decide +kernel
theorem dX6_byteAt_17 : decode cX6_byteAt 17 = .ok (.iconst (-1), 1) := by decide +kernel
theorem dX6_byteAt_18 : decode cX6_byteAt 18 = .ok (.ireturn, 1) := by decide +kernel
theorem dX6_isLetter_0 : decode cX6_isLetter 0 = .ok (.iload_n 0, 1) := by decide +kernel
theorem dX6_isLetter_1 : decode cX6_isLetter 1 = .ok (.bipush 97, 2) := by decide +kernel
theorem dX6_isLetter_3 : decode cX6_isLetter 3 = .ok (.if_icmp .lt 13, 3) := by decide +kernel
theorem dX6_isLetter_6 : decode cX6_isLetter 6 = .ok (.iload_n 0, 1) := by decide +kernel
theorem dX6_isLetter_7 : decode cX6_isLetter 7 = .ok (.bipush 122, 2) := by decide +kernel
theorem dX6_isLetter_9 : decode cX6_isLetter 9 = .ok (.if_icmp .gt 7, 3) := by decide +kernel
theorem dX6_isLetter_12 : decode cX6_isLetter 12 = .ok (.iconst 1, 1) := by decide +kernel
theorem dX6_isLetter_13 : decode cX6_isLetter 13 = .ok (.goto 4, 3) := by decide +kernel
theorem dX6_isLetter_16 : decode cX6_isLetter 16 = .ok (.iconst 0, 1) := by decide +kernel
theorem dX6_isLetter_17 : decode cX6_isLetter 17 = .ok (.ireturn, 1) := by decide +kernel
theorem dX6_isDigit_0 : decode cX6_isDigit 0 = .ok (.iload_n 0, 1) := by decide +kernel
theorem dX6_isDigit_1 : decode cX6_isDigit 1 = .ok (.bipush 48, 2) := by decide +kernel
theorem dX6_isDigit_3 : decode cX6_isDigit 3 = .ok (.if_icmp .lt 13, 3) := by decide +kernel
theorem dX6_isDigit_6 : decode cX6_isDigit 6 = .ok (.iload_n 0, 1) := by decide +kernel
theorem dX6_isDigit_7 : decode cX6_isDigit 7 = .ok (.bipush 57, 2) := by decide +kernel
theorem dX6_isDigit_9 : decode cX6_isDigit 9 = .ok (.if_icmp .gt 7, 3) := by decide +kernel
theorem dX6_isDigit_12 : decode cX6_isDigit 12 = .ok (.iconst 1, 1) := by decide +kernel
theorem dX6_isDigit_13 : decode cX6_isDigit 13 = .ok (.goto 4, 3) := by decide +kernel
theorem dX6_isDigit_16 : decode cX6_isDigit 16 = .ok (.iconst 0, 1) := by decide +kernel
theorem dX6_isDigit_17 : decode cX6_isDigit 17 = .ok (.ireturn, 1) := by decide +kernel
theorem dX6_stepOn_0 : decode cX6_stepOn 0 = .ok (.aload_n 0, 1) := by decide +kernel
theorem dX6_stepOn_1 : decode cX6_stepOn 1 = .ok (.aload_n 0, 1) := by decide +kernel
theorem dX6_stepOn_2 : decode cX6_stepOn 2 = .ok (.getfield 141, 3) := by decide +kernel
theorem dX6_stepOn_5 : decode cX6_stepOn 5 = .ok (.invokevirtual 144, 3) := by decide +kernel
theorem dX6_stepOn_8 : decode cX6_stepOn 8 = .ok (.bipush 32, 2) := by decide +kernel
theorem dX6_stepOn_10 : decode cX6_stepOn 10 = .ok (.if_icmp .eq 16, 3) := by decide +kernel
theorem dX6_stepOn_13 : decode cX6_stepOn 13 = .ok (.aload_n 0, 1) := by decide +kernel
theorem dX6_stepOn_14 : decode cX6_stepOn 14 = .ok (.aload_n 0, 1) := by decide +kernel
theorem dX6_stepOn_15 : decode cX6_stepOn 15 = .ok (.getfield 141, 3) := by decide +kernel
theorem dX6_stepOn_18 : decode cX6_stepOn 18 = .ok (.invokevirtual 144, 3) := by decide +kernel
theorem dX6_stepOn_21 : decode cX6_stepOn 21 = .ok (.bipush 10, 2) := by decide +kernel
theorem dX6_stepOn_23 : decode cX6_stepOn 23 = .ok (.if_icmp .ne 16, 3) := by decide +kernel
theorem dX6_stepOn_26 : decode cX6_stepOn 26 = .ok (.aload_n 0, 1) := by decide +kernel
theorem dX6_stepOn_27 : decode cX6_stepOn 27 = .ok (.dup, 1) := by decide +kernel
theorem dX6_stepOn_28 : decode cX6_stepOn 28 = .ok (.getfield 141, 3) := by decide +kernel
theorem dX6_stepOn_31 : decode cX6_stepOn 31 = .ok (.iconst 1, 1) := by decide +kernel
theorem dX6_stepOn_32 : decode cX6_stepOn 32 = .ok (.iadd, 1) := by decide +kernel
theorem dX6_stepOn_33 : decode cX6_stepOn 33 = .ok (.putfield 141, 3) := by decide +kernel
theorem dX6_stepOn_36 : decode cX6_stepOn 36 = .ok (.goto (-36), 3) := by decide +kernel
theorem dX6_stepOn_39 : decode cX6_stepOn 39 = .ok (.aload_n 0, 1) := by decide +kernel
theorem dX6_stepOn_40 : decode cX6_stepOn 40 = .ok (.aload_n 0, 1) := by decide +kernel
theorem dX6_stepOn_41 : decode cX6_stepOn 41 = .ok (.getfield 141, 3) := by decide +kernel
theorem dX6_stepOn_44 : decode cX6_stepOn 44 = .ok (.putfield 148, 3) := by decide +kernel
theorem dX6_stepOn_47 : decode cX6_stepOn 47 = .ok (.aload_n 0, 1) := by decide +kernel
theorem dX6_stepOn_48 : decode cX6_stepOn 48 = .ok (.aload_n 0, 1) := by decide +kernel
theorem dX6_stepOn_49 : decode cX6_stepOn 49 = .ok (.getfield 141, 3) := by decide +kernel
theorem dX6_stepOn_52 : decode cX6_stepOn 52 = .ok (.invokevirtual 144, 3) := by decide +kernel
theorem dX6_stepOn_55 : decode cX6_stepOn 55 = .ok (.istore_n 1, 1) := by decide +kernel
theorem dX6_stepOn_56 : decode cX6_stepOn 56 = .ok (.iload_n 1, 1) := by decide +kernel
theorem dX6_stepOn_57 : decode cX6_stepOn 57 = .ok (.iconst (-1), 1) := by decide +kernel
theorem dX6_stepOn_58 : decode cX6_stepOn 58 = .ok (.if_icmp .ne 11, 3) := by decide +kernel
theorem dX6_stepOn_61 : decode cX6_stepOn 61 = .ok (.aload_n 0, 1) := by decide +kernel
theorem dX6_stepOn_62 : decode cX6_stepOn 62 = .ok (.iconst 0, 1) := by decide +kernel
theorem dX6_stepOn_63 : decode cX6_stepOn 63 = .ok (.putfield 151, 3) := by decide +kernel
theorem dX6_stepOn_66 : decode cX6_stepOn 66 = .ok (.goto 145, 3) := by decide +kernel
theorem dX6_stepOn_69 : decode cX6_stepOn 69 = .ok (.iload_n 1, 1) := by decide +kernel
theorem dX6_stepOn_70 : decode cX6_stepOn 70 = .ok (.invokestatic 154, 3) := by decide +kernel
theorem dX6_stepOn_73 : decode cX6_stepOn 73 = .ok (.ifCond .eq 38, 3) := by decide +kernel
theorem dX6_stepOn_76 : decode cX6_stepOn 76 = .ok (.aload_n 0, 1) := by decide +kernel
theorem dX6_stepOn_77 : decode cX6_stepOn 77 = .ok (.aload_n 0, 1) := by decide +kernel
theorem dX6_stepOn_78 : decode cX6_stepOn 78 = .ok (.getfield 141, 3) := by decide +kernel
theorem dX6_stepOn_81 : decode cX6_stepOn 81 = .ok (.invokevirtual 144, 3) := by decide +kernel
theorem dX6_stepOn_84 : decode cX6_stepOn 84 = .ok (.invokestatic 154, 3) := by decide +kernel
theorem dX6_stepOn_87 : decode cX6_stepOn 87 = .ok (.ifCond .eq 16, 3) := by decide +kernel
theorem dX6_stepOn_90 : decode cX6_stepOn 90 = .ok (.aload_n 0, 1) := by decide +kernel
theorem dX6_stepOn_91 : decode cX6_stepOn 91 = .ok (.dup, 1) := by decide +kernel
theorem dX6_stepOn_92 : decode cX6_stepOn 92 = .ok (.getfield 141, 3) := by decide +kernel
theorem dX6_stepOn_95 : decode cX6_stepOn 95 = .ok (.iconst 1, 1) := by decide +kernel
theorem dX6_stepOn_96 : decode cX6_stepOn 96 = .ok (.iadd, 1) := by decide +kernel
theorem dX6_stepOn_97 : decode cX6_stepOn 97 = .ok (.putfield 141, 3) := by decide +kernel
theorem dX6_stepOn_100 : decode cX6_stepOn 100 = .ok (.goto (-24), 3) := by decide +kernel
theorem dX6_stepOn_103 : decode cX6_stepOn 103 = .ok (.aload_n 0, 1) := by decide +kernel
theorem dX6_stepOn_104 : decode cX6_stepOn 104 = .ok (.iconst 1, 1) := by decide +kernel
theorem dX6_stepOn_105 : decode cX6_stepOn 105 = .ok (.putfield 151, 3) := by decide +kernel
theorem dX6_stepOn_108 : decode cX6_stepOn 108 = .ok (.goto 103, 3) := by decide +kernel
theorem dX6_stepOn_111 : decode cX6_stepOn 111 = .ok (.iload_n 1, 1) := by decide +kernel
theorem dX6_stepOn_112 : decode cX6_stepOn 112 = .ok (.invokestatic 158, 3) := by decide +kernel
theorem dX6_stepOn_115 : decode cX6_stepOn 115 = .ok (.ifCond .eq 71, 3) := by decide +kernel
theorem dX6_stepOn_118 : decode cX6_stepOn 118 = .ok (.aload_n 0, 1) := by decide +kernel
theorem dX6_stepOn_119 : decode cX6_stepOn 119 = .ok (.iconst 0, 1) := by decide +kernel
theorem dX6_stepOn_120 : decode cX6_stepOn 120 = .ok (.putfield 161, 3) := by decide +kernel
theorem dX6_stepOn_123 : decode cX6_stepOn 123 = .ok (.aload_n 0, 1) := by decide +kernel
theorem dX6_stepOn_124 : decode cX6_stepOn 124 = .ok (.aload_n 0, 1) := by decide +kernel
theorem dX6_stepOn_125 : decode cX6_stepOn 125 = .ok (.getfield 141, 3) := by decide +kernel
theorem dX6_stepOn_128 : decode cX6_stepOn 128 = .ok (.invokevirtual 144, 3) := by decide +kernel
theorem dX6_stepOn_131 : decode cX6_stepOn 131 = .ok (.invokestatic 158, 3) := by decide +kernel
theorem dX6_stepOn_134 : decode cX6_stepOn 134 = .ok (.ifCond .eq 44, 3) := by decide +kernel
theorem dX6_stepOn_137 : decode cX6_stepOn 137 = .ok (.aload_n 0, 1) := by decide +kernel
theorem dX6_stepOn_138 : decode cX6_stepOn 138 = .ok (.ldc 164, 2) := by decide +kernel
theorem dX6_stepOn_140 : decode cX6_stepOn 140 = .ok (.bipush 10, 2) := by decide +kernel
theorem dX6_stepOn_142 : decode cX6_stepOn 142 = .ok (.aload_n 0, 1) := by decide +kernel
theorem dX6_stepOn_143 : decode cX6_stepOn 143 = .ok (.getfield 161, 3) := by decide +kernel
theorem dX6_stepOn_146 : decode cX6_stepOn 146 = .ok (.imul, 1) := by decide +kernel
theorem dX6_stepOn_147 : decode cX6_stepOn 147 = .ok (.aload_n 0, 1) := by decide +kernel
theorem dX6_stepOn_148 : decode cX6_stepOn 148 = .ok (.aload_n 0, 1) := by decide +kernel
theorem dX6_stepOn_149 : decode cX6_stepOn 149 = .ok (.getfield 141, 3) := by decide +kernel
theorem dX6_stepOn_152 : decode cX6_stepOn 152 = .ok (.invokevirtual 144, 3) := by decide +kernel
theorem dX6_stepOn_155 : decode cX6_stepOn 155 = .ok (.iadd, 1) := by decide +kernel
theorem dX6_stepOn_156 : decode cX6_stepOn 156 = .ok (.bipush 48, 2) := by decide +kernel
theorem dX6_stepOn_158 : decode cX6_stepOn 158 = .ok (.isub, 1) := by decide +kernel
theorem dX6_stepOn_159 : decode cX6_stepOn 159 = .ok (.invokestatic 165, 3) := by decide +kernel
theorem dX6_stepOn_162 : decode cX6_stepOn 162 = .ok (.putfield 161, 3) := by decide +kernel
theorem dX6_stepOn_165 : decode cX6_stepOn 165 = .ok (.aload_n 0, 1) := by decide +kernel
theorem dX6_stepOn_166 : decode cX6_stepOn 166 = .ok (.dup, 1) := by decide +kernel
theorem dX6_stepOn_167 : decode cX6_stepOn 167 = .ok (.getfield 141, 3) := by decide +kernel
theorem dX6_stepOn_170 : decode cX6_stepOn 170 = .ok (.iconst 1, 1) := by decide +kernel
theorem dX6_stepOn_171 : decode cX6_stepOn 171 = .ok (.iadd, 1) := by decide +kernel
theorem dX6_stepOn_172 : decode cX6_stepOn 172 = .ok (.putfield 141, 3) := by decide +kernel
theorem dX6_stepOn_175 : decode cX6_stepOn 175 = .ok (.goto (-52), 3) := by decide +kernel
theorem dX6_stepOn_178 : decode cX6_stepOn 178 = .ok (.aload_n 0, 1) := by decide +kernel
theorem dX6_stepOn_179 : decode cX6_stepOn 179 = .ok (.iconst 2, 1) := by decide +kernel
theorem dX6_stepOn_180 : decode cX6_stepOn 180 = .ok (.putfield 151, 3) := by decide +kernel
theorem dX6_stepOn_183 : decode cX6_stepOn 183 = .ok (.goto 28, 3) := by decide +kernel
theorem dX6_stepOn_186 : decode cX6_stepOn 186 = .ok (.aload_n 0, 1) := by decide +kernel
theorem dX6_stepOn_187 : decode cX6_stepOn 187 = .ok (.dup, 1) := by decide +kernel
theorem dX6_stepOn_188 : decode cX6_stepOn 188 = .ok (.getfield 141, 3) := by decide +kernel
theorem dX6_stepOn_191 : decode cX6_stepOn 191 = .ok (.iconst 1, 1) := by decide +kernel
theorem dX6_stepOn_192 : decode cX6_stepOn 192 = .ok (.iadd, 1) := by decide +kernel
theorem dX6_stepOn_193 : decode cX6_stepOn 193 = .ok (.putfield 141, 3) := by decide +kernel
theorem dX6_stepOn_196 : decode cX6_stepOn 196 = .ok (.aload_n 0, 1) := by decide +kernel
theorem dX6_stepOn_197 : decode cX6_stepOn 197 = .ok (.iload_n 1, 1) := by decide +kernel
theorem dX6_stepOn_198 : decode cX6_stepOn 198 = .ok (.bipush 59, 2) := by decide +kernel
theorem dX6_stepOn_200 : decode cX6_stepOn 200 = .ok (.if_icmp .ne 7, 3) := by decide +kernel
theorem dX6_stepOn_203 : decode cX6_stepOn 203 = .ok (.iconst 3, 1) := by decide +kernel
theorem dX6_stepOn_204 : decode cX6_stepOn 204 = .ok (.goto 4, 3) := by decide +kernel
theorem dX6_stepOn_207 : decode cX6_stepOn 207 = .ok (.iconst 4, 1) := by decide +kernel
theorem dX6_stepOn_208 : decode cX6_stepOn 208 = .ok (.putfield 151, 3) := by decide +kernel
theorem dX6_stepOn_211 : decode cX6_stepOn 211 = .ok (.aload_n 0, 1) := by decide +kernel
theorem dX6_stepOn_212 : decode cX6_stepOn 212 = .ok (.aload_n 0, 1) := by decide +kernel
theorem dX6_stepOn_213 : decode cX6_stepOn 213 = .ok (.getfield 141, 3) := by decide +kernel
theorem dX6_stepOn_216 : decode cX6_stepOn 216 = .ok (.putfield 171, 3) := by decide +kernel
theorem dX6_stepOn_219 : decode cX6_stepOn 219 = .ok (.return_, 1) := by decide +kernel
theorem dX6_wrong_0 : decode cX6_wrong 0 = .ok (.aload_n 0, 1) := by decide +kernel
theorem dX6_wrong_1 : decode cX6_wrong 1 = .ok (.getfield 174, 3) := by decide +kernel
theorem dX6_wrong_4 : decode cX6_wrong 4 = .ok (.ifCond .eq 4, 3) := by decide +kernel
theorem dX6_wrong_7 : decode cX6_wrong 7 = .ok (.return_, 1) := by decide +kernel
theorem dX6_wrong_8 : decode cX6_wrong 8 = .ok (.aload_n 0, 1) := by decide +kernel
theorem dX6_wrong_9 : decode cX6_wrong 9 = .ok (.iload_n 1, 1) := by decide +kernel
theorem dX6_wrong_10 : decode cX6_wrong 10 = .ok (.putfield 174, 3) := by decide +kernel
theorem dX6_wrong_13 : decode cX6_wrong 13 = .ok (.aload_n 0, 1) := by decide +kernel
theorem dX6_wrong_14 : decode cX6_wrong 14 = .ok (.aload_n 0, 1) := by decide +kernel
theorem dX6_wrong_15 : decode cX6_wrong 15 = .ok (.getfield 148, 3) := by decide +kernel
theorem dX6_wrong_18 : decode cX6_wrong 18 = .ok (.putfield 177, 3) := by decide +kernel
theorem dX6_wrong_21 : decode cX6_wrong 21 = .ok (.return_, 1) := by decide +kernel
theorem dX6_is_0 : decode cX6_is 0 = .ok (.aload_n 0, 1) := by decide +kernel
theorem dX6_is_1 : decode cX6_is 1 = .ok (.getfield 174, 3) := by decide +kernel
theorem dX6_is_4 : decode cX6_is 4 = .ok (.ifCond .ne 31, 3) := by decide +kernel
theorem dX6_is_7 : decode cX6_is 7 = .ok (.aload_n 0, 1) := by decide +kernel
theorem dX6_is_8 : decode cX6_is 8 = .ok (.getfield 151, 3) := by decide +kernel
theorem dX6_is_11 : decode cX6_is 11 = .ok (.iconst 1, 1) := by decide +kernel
theorem dX6_is_12 : decode cX6_is 12 = .ok (.if_icmp .ne 23, 3) := by decide +kernel
theorem dX6_is_15 : decode cX6_is 15 = .ok (.aload_n 1, 1) := by decide +kernel
theorem dX6_is_16 : decode cX6_is 16 = .ok (.invokevirtual 180, 3) := by decide +kernel
theorem dX6_is_19 : decode cX6_is 19 = .ok (.aload_n 0, 1) := by decide +kernel
theorem dX6_is_20 : decode cX6_is 20 = .ok (.getfield 171, 3) := by decide +kernel
theorem dX6_is_23 : decode cX6_is 23 = .ok (.aload_n 0, 1) := by decide +kernel
theorem dX6_is_24 : decode cX6_is 24 = .ok (.getfield 148, 3) := by decide +kernel
theorem dX6_is_27 : decode cX6_is 27 = .ok (.isub, 1) := by decide +kernel
theorem dX6_is_28 : decode cX6_is 28 = .ok (.if_icmp .ne 7, 3) := by decide +kernel
theorem dX6_is_31 : decode cX6_is 31 = .ok (.iconst 1, 1) := by decide +kernel
theorem dX6_is_32 : decode cX6_is 32 = .ok (.goto 4, 3) := by decide +kernel
theorem dX6_is_35 : decode cX6_is 35 = .ok (.iconst 0, 1) := by decide +kernel
theorem dX6_is_36 : decode cX6_is 36 = .ok (.istore_n 2, 1) := by decide +kernel
theorem dX6_is_37 : decode cX6_is 37 = .ok (.iconst 0, 1) := by decide +kernel
theorem dX6_is_38 : decode cX6_is 38 = .ok (.istore_n 3, 1) := by decide +kernel
theorem dX6_is_39 : decode cX6_is 39 = .ok (.iload_n 2, 1) := by decide +kernel
theorem dX6_is_40 : decode cX6_is 40 = .ok (.ifCond .eq 42, 3) := by decide +kernel
theorem dX6_is_43 : decode cX6_is 43 = .ok (.iload_n 3, 1) := by decide +kernel
theorem dX6_is_44 : decode cX6_is 44 = .ok (.aload_n 1, 1) := by decide +kernel
theorem dX6_is_45 : decode cX6_is 45 = .ok (.invokevirtual 180, 3) := by decide +kernel
theorem dX6_is_48 : decode cX6_is 48 = .ok (.if_icmp .ge 34, 3) := by decide +kernel
theorem dX6_is_51 : decode cX6_is 51 = .ok (.aload_n 1, 1) := by decide +kernel
theorem dX6_is_52 : decode cX6_is 52 = .ok (.iload_n 3, 1) := by decide +kernel
theorem dX6_is_53 : decode cX6_is 53 = .ok (.invokevirtual 184, 3) := by decide +kernel
theorem dX6_is_56 : decode cX6_is 56 = .ok (.aload_n 0, 1) := by decide +kernel
theorem dX6_is_57 : decode cX6_is 57 = .ok (.getfield 57, 3) := by decide +kernel
theorem dX6_is_60 : decode cX6_is 60 = .ok (.aload_n 0, 1) := by decide +kernel
theorem dX6_is_61 : decode cX6_is 61 = .ok (.getfield 148, 3) := by decide +kernel
theorem dX6_is_64 : decode cX6_is 64 = .ok (.iload_n 3, 1) := by decide +kernel
theorem dX6_is_65 : decode cX6_is 65 = .ok (.iadd, 1) := by decide +kernel
theorem dX6_is_66 : decode cX6_is 66 = .ok (.iaload, 1) := by decide +kernel
theorem dX6_is_67 : decode cX6_is 67 = .ok (.if_icmp .ne 7, 3) := by decide +kernel
theorem dX6_is_70 : decode cX6_is 70 = .ok (.iconst 1, 1) := by decide +kernel
theorem dX6_is_71 : decode cX6_is 71 = .ok (.goto 4, 3) := by decide +kernel
theorem dX6_is_74 : decode cX6_is 74 = .ok (.iconst 0, 1) := by decide +kernel
theorem dX6_is_75 : decode cX6_is 75 = .ok (.istore_n 2, 1) := by decide +kernel
theorem dX6_is_76 : decode cX6_is 76 = .ok (.iinc 3 1, 3) := by decide +kernel
theorem dX6_is_79 : decode cX6_is 79 = .ok (.goto (-40), 3) := by decide +kernel
theorem dX6_is_82 : decode cX6_is 82 = .ok (.iload_n 2, 1) := by decide +kernel
theorem dX6_is_83 : decode cX6_is 83 = .ok (.ireturn, 1) := by decide +kernel
theorem dX6_passes_0 : decode cX6_passes 0 = .ok (.aload_n 0, 1) := by decide +kernel
theorem dX6_passes_1 : decode cX6_passes 1 = .ok (.aload_n 1, 1) := by decide +kernel
theorem dX6_passes_2 : decode cX6_passes 2 = .ok (.invokevirtual 188, 3) := by decide +kernel
theorem dX6_passes_5 : decode cX6_passes 5 = .ok (.istore_n 2, 1) := by decide +kernel
theorem dX6_passes_6 : decode cX6_passes 6 = .ok (.iload_n 2, 1) := by decide +kernel
theorem dX6_passes_7 : decode cX6_passes 7 = .ok (.ifCond .eq 7, 3) := by decide +kernel
theorem dX6_passes_10 : decode cX6_passes 10 = .ok (.aload_n 0, 1) := by decide +kernel
theorem dX6_passes_11 : decode cX6_passes 11 = .ok (.invokevirtual 192, 3) := by decide +kernel
theorem dX6_passes_14 : decode cX6_passes 14 = .ok (.iload_n 2, 1) := by decide +kernel
theorem dX6_passes_15 : decode cX6_passes 15 = .ok (.ireturn, 1) := by decide +kernel
theorem dX6_readNumber_0 : decode cX6_readNumber 0 = .ok (.aload_n 0, 1) := by decide +kernel
theorem dX6_readNumber_1 : decode cX6_readNumber 1 = .ok (.getfield 174, 3) := by decide +kernel
theorem dX6_readNumber_4 : decode cX6_readNumber 4 = .ok (.ifCond .eq 5, 3) := by decide +kernel
theorem dX6_readNumber_7 : decode cX6_readNumber 7 = .ok (.iconst 0, 1) := by decide +kernel
theorem dX6_readNumber_8 : decode cX6_readNumber 8 = .ok (.ireturn, 1) := by decide +kernel
theorem dX6_readNumber_9 : decode cX6_readNumber 9 = .ok (.aload_n 0, 1) := by decide +kernel
theorem dX6_readNumber_10 : decode cX6_readNumber 10 = .ok (.getfield 151, 3) := by decide +kernel
theorem dX6_readNumber_13 : decode cX6_readNumber 13 = .ok (.iconst 2, 1) := by decide +kernel
theorem dX6_readNumber_14 : decode cX6_readNumber 14 = .ok (.if_icmp .eq 11, 3) := by decide +kernel
theorem dX6_readNumber_17 : decode cX6_readNumber 17 = .ok (.aload_n 0, 1) := by decide +kernel
theorem dX6_readNumber_18 : decode cX6_readNumber 18 = .ok (.iconst 1, 1) := by decide +kernel
theorem dX6_readNumber_19 : decode cX6_readNumber 19 = .ok (.invokevirtual 195, 3) := by decide +kernel
theorem dX6_readNumber_22 : decode cX6_readNumber 22 = .ok (.goto 37, 3) := by decide +kernel
theorem dX6_readNumber_25 : decode cX6_readNumber 25 = .ok (.aload_n 0, 1) := by decide +kernel
theorem dX6_readNumber_26 : decode cX6_readNumber 26 = .ok (.getfield 171, 3) := by decide +kernel
theorem dX6_readNumber_29 : decode cX6_readNumber 29 = .ok (.aload_n 0, 1) := by decide +kernel
theorem dX6_readNumber_30 : decode cX6_readNumber 30 = .ok (.getfield 148, 3) := by decide +kernel
theorem dX6_readNumber_33 : decode cX6_readNumber 33 = .ok (.isub, 1) := by decide +kernel
theorem dX6_readNumber_34 : decode cX6_readNumber 34 = .ok (.iconst 4, 1) := by decide +kernel
theorem dX6_readNumber_35 : decode cX6_readNumber 35 = .ok (.if_icmp .gt 19, 3) := by decide +kernel
theorem dX6_readNumber_38 : decode cX6_readNumber 38 = .ok (.aload_n 0, 1) := by decide +kernel
theorem dX6_readNumber_39 : decode cX6_readNumber 39 = .ok (.getfield 161, 3) := by decide +kernel
theorem dX6_readNumber_42 : decode cX6_readNumber 42 = .ok (.iload_n 1, 1) := by decide +kernel
theorem dX6_readNumber_43 : decode cX6_readNumber 43 = .ok (.if_icmp .lt 11, 3) := by decide +kernel
theorem dX6_readNumber_46 : decode cX6_readNumber 46 = .ok (.aload_n 0, 1) := by decide +kernel
theorem dX6_readNumber_47 : decode cX6_readNumber 47 = .ok (.getfield 161, 3) := by decide +kernel
theorem dX6_readNumber_50 : decode cX6_readNumber 50 = .ok (.iload_n 2, 1) := by decide +kernel
theorem dX6_readNumber_51 : decode cX6_readNumber 51 = .ok (.if_icmp .le 8, 3) := by decide +kernel
theorem dX6_readNumber_54 : decode cX6_readNumber 54 = .ok (.aload_n 0, 1) := by decide +kernel
theorem dX6_readNumber_55 : decode cX6_readNumber 55 = .ok (.iconst 2, 1) := by decide +kernel
theorem dX6_readNumber_56 : decode cX6_readNumber 56 = .ok (.invokevirtual 195, 3) := by decide +kernel
theorem dX6_readNumber_59 : decode cX6_readNumber 59 = .ok (.aload_n 0, 1) := by decide +kernel
theorem dX6_readNumber_60 : decode cX6_readNumber 60 = .ok (.getfield 161, 3) := by decide +kernel
theorem dX6_readNumber_63 : decode cX6_readNumber 63 = .ok (.istore_n 3, 1) := by decide +kernel
theorem dX6_readNumber_64 : decode cX6_readNumber 64 = .ok (.aload_n 0, 1) := by decide +kernel
theorem dX6_readNumber_65 : decode cX6_readNumber 65 = .ok (.getfield 174, 3) := by decide +kernel
theorem dX6_readNumber_68 : decode cX6_readNumber 68 = .ok (.ifCond .ne 7, 3) := by decide +kernel
theorem dX6_readNumber_71 : decode cX6_readNumber 71 = .ok (.aload_n 0, 1) := by decide +kernel
theorem dX6_readNumber_72 : decode cX6_readNumber 72 = .ok (.invokevirtual 192, 3) := by decide +kernel
theorem dX6_readNumber_75 : decode cX6_readNumber 75 = .ok (.iload_n 3, 1) := by decide +kernel
theorem dX6_readNumber_76 : decode cX6_readNumber 76 = .ok (.ireturn, 1) := by decide +kernel
theorem dX6_personNow_0 : decode cX6_personNow 0 = .ok (.aload_n 0, 1) := by decide +kernel
theorem dX6_personNow_1 : decode cX6_personNow 1 = .ok (.getfield 174, 3) := by decide +kernel
theorem dX6_personNow_4 : decode cX6_personNow 4 = .ok (.ifCond .eq 5, 3) := by decide +kernel
theorem dX6_personNow_7 : decode cX6_personNow 7 = .ok (.iconst 0, 1) := by decide +kernel
theorem dX6_personNow_8 : decode cX6_personNow 8 = .ok (.ireturn, 1) := by decide +kernel
theorem dX6_personNow_9 : decode cX6_personNow 9 = .ok (.aload_n 0, 1) := by decide +kernel
theorem dX6_personNow_10 : decode cX6_personNow 10 = .ok (.getfield 151, 3) := by decide +kernel
theorem dX6_personNow_13 : decode cX6_personNow 13 = .ok (.iconst 2, 1) := by decide +kernel
theorem dX6_personNow_14 : decode cX6_personNow 14 = .ok (.if_icmp .eq 11, 3) := by decide +kernel
theorem dX6_personNow_17 : decode cX6_personNow 17 = .ok (.aload_n 0, 1) := by decide +kernel
theorem dX6_personNow_18 : decode cX6_personNow 18 = .ok (.iconst 1, 1) := by decide +kernel
theorem dX6_personNow_19 : decode cX6_personNow 19 = .ok (.invokevirtual 195, 3) := by decide +kernel
theorem dX6_personNow_22 : decode cX6_personNow 22 = .ok (.goto 42, 3) := by decide +kernel
theorem dX6_personNow_25 : decode cX6_personNow 25 = .ok (.aload_n 0, 1) := by decide +kernel
theorem dX6_personNow_26 : decode cX6_personNow 26 = .ok (.getfield 171, 3) := by decide +kernel
theorem dX6_personNow_29 : decode cX6_personNow 29 = .ok (.aload_n 0, 1) := by decide +kernel
theorem dX6_personNow_30 : decode cX6_personNow 30 = .ok (.getfield 148, 3) := by decide +kernel
theorem dX6_personNow_33 : decode cX6_personNow 33 = .ok (.isub, 1) := by decide +kernel
theorem dX6_personNow_34 : decode cX6_personNow 34 = .ok (.iconst 4, 1) := by decide +kernel
theorem dX6_personNow_35 : decode cX6_personNow 35 = .ok (.if_icmp .le 11, 3) := by decide +kernel
theorem dX6_personNow_38 : decode cX6_personNow 38 = .ok (.aload_n 0, 1) := by decide +kernel
theorem dX6_personNow_39 : decode cX6_personNow 39 = .ok (.iconst 2, 1) := by decide +kernel
theorem dX6_personNow_40 : decode cX6_personNow 40 = .ok (.invokevirtual 195, 3) := by decide +kernel
theorem dX6_personNow_43 : decode cX6_personNow 43 = .ok (.goto 21, 3) := by decide +kernel
theorem dX6_personNow_46 : decode cX6_personNow 46 = .ok (.aload_n 0, 1) := by decide +kernel
theorem dX6_personNow_47 : decode cX6_personNow 47 = .ok (.getfield 161, 3) := by decide +kernel
theorem dX6_personNow_50 : decode cX6_personNow 50 = .ok (.aload_n 0, 1) := by decide +kernel
theorem dX6_personNow_51 : decode cX6_personNow 51 = .ok (.getfield 25, 3) := by decide +kernel
theorem dX6_personNow_54 : decode cX6_personNow 54 = .ok (.iconst 4, 1) := by decide +kernel
theorem dX6_personNow_55 : decode cX6_personNow 55 = .ok (.iaload, 1) := by decide +kernel
theorem dX6_personNow_56 : decode cX6_personNow 56 = .ok (.if_icmp .lt 8, 3) := by decide +kernel
theorem dX6_personNow_59 : decode cX6_personNow 59 = .ok (.aload_n 0, 1) := by decide +kernel
theorem dX6_personNow_60 : decode cX6_personNow 60 = .ok (.iconst 3, 1) := by decide +kernel
theorem dX6_personNow_61 : decode cX6_personNow 61 = .ok (.invokevirtual 195, 3) := by decide +kernel
theorem dX6_personNow_64 : decode cX6_personNow 64 = .ok (.aload_n 0, 1) := by decide +kernel
theorem dX6_personNow_65 : decode cX6_personNow 65 = .ok (.getfield 174, 3) := by decide +kernel
theorem dX6_personNow_68 : decode cX6_personNow 68 = .ok (.ifCond .ne 10, 3) := by decide +kernel
theorem dX6_personNow_71 : decode cX6_personNow 71 = .ok (.aload_n 0, 1) := by decide +kernel
theorem dX6_personNow_72 : decode cX6_personNow 72 = .ok (.getfield 161, 3) := by decide +kernel
theorem dX6_personNow_75 : decode cX6_personNow 75 = .ok (.goto 4, 3) := by decide +kernel
theorem dX6_personNow_78 : decode cX6_personNow 78 = .ok (.iconst 0, 1) := by decide +kernel
theorem dX6_personNow_79 : decode cX6_personNow 79 = .ok (.ireturn, 1) := by decide +kernel
theorem dX6_readPerson_0 : decode cX6_readPerson 0 = .ok (.aload_n 0, 1) := by decide +kernel
theorem dX6_readPerson_1 : decode cX6_readPerson 1 = .ok (.invokevirtual 199, 3) := by decide +kernel
theorem dX6_readPerson_4 : decode cX6_readPerson 4 = .ok (.istore_n 1, 1) := by decide +kernel
theorem dX6_readPerson_5 : decode cX6_readPerson 5 = .ok (.aload_n 0, 1) := by decide +kernel
theorem dX6_readPerson_6 : decode cX6_readPerson 6 = .ok (.getfield 174, 3) := by decide +kernel
theorem dX6_readPerson_9 : decode cX6_readPerson 9 = .ok (.ifCond .ne 7, 3) := by decide +kernel
theorem dX6_readPerson_12 : decode cX6_readPerson 12 = .ok (.aload_n 0, 1) := by decide +kernel
theorem dX6_readPerson_13 : decode cX6_readPerson 13 = .ok (.invokevirtual 192, 3) := by decide +kernel
theorem dX6_readPerson_16 : decode cX6_readPerson 16 = .ok (.iload_n 1, 1) := by decide +kernel
theorem dX6_readPerson_17 : decode cX6_readPerson 17 = .ok (.ireturn, 1) := by decide +kernel
theorem dX6_readOne_0 : decode cX6_readOne 0 = .ok (.aload_n 0, 1) := by decide +kernel
theorem dX6_readOne_1 : decode cX6_readOne 1 = .ok (.getfield 25, 3) := by decide +kernel
theorem dX6_readOne_4 : decode cX6_readOne 4 = .ok (.iconst 4, 1) := by decide +kernel
theorem dX6_readOne_5 : decode cX6_readOne 5 = .ok (.iaload, 1) := by decide +kernel
theorem dX6_readOne_6 : decode cX6_readOne 6 = .ok (.bipush 6, 2) := by decide +kernel
theorem dX6_readOne_8 : decode cX6_readOne 8 = .ok (.if_icmp .ne 8, 3) := by decide +kernel
theorem dX6_readOne_11 : decode cX6_readOne 11 = .ok (.aload_n 0, 1) := by decide +kernel
theorem dX6_readOne_12 : decode cX6_readOne 12 = .ok (.iconst 2, 1) := by decide +kernel
theorem dX6_readOne_13 : decode cX6_readOne 13 = .ok (.invokevirtual 195, 3) := by decide +kernel
theorem dX6_readOne_16 : decode cX6_readOne 16 = .ok (.aload_n 0, 1) := by decide +kernel
theorem dX6_readOne_17 : decode cX6_readOne 17 = .ok (.getfield 174, 3) := by decide +kernel
theorem dX6_readOne_20 : decode cX6_readOne 20 = .ok (.ifCond .eq 4, 3) := by decide +kernel
theorem dX6_readOne_23 : decode cX6_readOne 23 = .ok (.return_, 1) := by decide +kernel
theorem dX6_readOne_24 : decode cX6_readOne 24 = .ok (.aload_n 0, 1) := by decide +kernel
theorem dX6_readOne_25 : decode cX6_readOne 25 = .ok (.invokevirtual 192, 3) := by decide +kernel
theorem dX6_readOne_28 : decode cX6_readOne 28 = .ok (.aload_n 0, 1) := by decide +kernel
theorem dX6_readOne_29 : decode cX6_readOne 29 = .ok (.getfield 25, 3) := by decide +kernel
theorem dX6_readOne_32 : decode cX6_readOne 32 = .ok (.iconst 4, 1) := by decide +kernel
theorem dX6_readOne_33 : decode cX6_readOne 33 = .ok (.iaload, 1) := by decide +kernel
theorem dX6_readOne_34 : decode cX6_readOne 34 = .ok (.istore_n 1, 1) := by decide +kernel
theorem dX6_readOne_35 : decode cX6_readOne 35 = .ok (.aload_n 0, 1) := by decide +kernel
theorem dX6_readOne_36 : decode cX6_readOne 36 = .ok (.getfield 44, 3) := by decide +kernel
theorem dX6_readOne_39 : decode cX6_readOne 39 = .ok (.bipush 12, 2) := by decide +kernel
theorem dX6_readOne_41 : decode cX6_readOne 41 = .ok (.iload_n 1, 1) := by decide +kernel
theorem dX6_readOne_42 : decode cX6_readOne 42 = .ok (.iadd, 1) := by decide +kernel
theorem dX6_readOne_43 : decode cX6_readOne 43 = .ok (.aload_n 0, 1) := by decide +kernel
theorem dX6_readOne_44 : decode cX6_readOne 44 = .ok (.ldc 202, 2) := by decide +kernel
theorem dX6_readOne_46 : decode cX6_readOne 46 = .ok (.invokevirtual 204, 3) := by decide +kernel
theorem dX6_readOne_49 : decode cX6_readOne 49 = .ok (.ifCond .eq 13, 3) := by decide +kernel
theorem dX6_readOne_52 : decode cX6_readOne 52 = .ok (.aload_n 0, 1) := by decide +kernel
theorem dX6_readOne_53 : decode cX6_readOne 53 = .ok (.iconst 0, 1) := by decide +kernel
theorem dX6_readOne_54 : decode cX6_readOne 54 = .ok (.bipush 99, 2) := by decide +kernel
theorem dX6_readOne_56 : decode cX6_readOne 56 = .ok (.invokevirtual 207, 3) := by decide +kernel
theorem dX6_readOne_59 : decode cX6_readOne 59 = .ok (.goto 4, 3) := by decide +kernel
theorem dX6_readOne_62 : decode cX6_readOne 62 = .ok (.iconst 0, 1) := by decide +kernel
theorem dX6_readOne_63 : decode cX6_readOne 63 = .ok (.iastore, 1) := by decide +kernel
theorem dX6_readOne_64 : decode cX6_readOne 64 = .ok (.iconst (-1), 1) := by decide +kernel
theorem dX6_readOne_65 : decode cX6_readOne 65 = .ok (.istore_n 2, 1) := by decide +kernel
theorem dX6_readOne_66 : decode cX6_readOne 66 = .ok (.iconst 0, 1) := by decide +kernel
theorem dX6_readOne_67 : decode cX6_readOne 67 = .ok (.istore_n 3, 1) := by decide +kernel
theorem dX6_readOne_68 : decode cX6_readOne 68 = .ok (.iload_n 3, 1) := by decide +kernel
theorem dX6_readOne_69 : decode cX6_readOne 69 = .ok (.aload_n 0, 1) := by decide +kernel
theorem dX6_readOne_70 : decode cX6_readOne 70 = .ok (.getfield 19, 3) := by decide +kernel
theorem dX6_readOne_73 : decode cX6_readOne 73 = .ok (.arraylength, 1) := by decide +kernel
theorem dX6_readOne_74 : decode cX6_readOne 74 = .ok (.if_icmp .ge 24, 3) := by decide +kernel
theorem dX6_readOne_77 : decode cX6_readOne 77 = .ok (.aload_n 0, 1) := by decide +kernel
theorem dX6_readOne_78 : decode cX6_readOne 78 = .ok (.aload_n 0, 1) := by decide +kernel
theorem dX6_readOne_79 : decode cX6_readOne 79 = .ok (.getfield 19, 3) := by decide +kernel
theorem dX6_readOne_82 : decode cX6_readOne 82 = .ok (.iload_n 3, 1) := by decide +kernel
theorem dX6_readOne_83 : decode cX6_readOne 83 = .ok (.aaload, 1) := by decide +kernel
theorem dX6_readOne_84 : decode cX6_readOne 84 = .ok (.invokevirtual 188, 3) := by decide +kernel
theorem dX6_readOne_87 : decode cX6_readOne 87 = .ok (.ifCond .eq 5, 3) := by decide +kernel
theorem dX6_readOne_90 : decode cX6_readOne 90 = .ok (.iload_n 3, 1) := by decide +kernel
theorem dX6_readOne_91 : decode cX6_readOne 91 = .ok (.istore_n 2, 1) := by decide +kernel
theorem dX6_readOne_92 : decode cX6_readOne 92 = .ok (.iinc 3 1, 3) := by decide +kernel
theorem dX6_readOne_95 : decode cX6_readOne 95 = .ok (.goto (-27), 3) := by decide +kernel
theorem dX6_readOne_98 : decode cX6_readOne 98 = .ok (.iload_n 2, 1) := by decide +kernel
theorem dX6_readOne_99 : decode cX6_readOne 99 = .ok (.iconst (-1), 1) := by decide +kernel
theorem dX6_readOne_100 : decode cX6_readOne 100 = .ok (.if_icmp .ne 8, 3) := by decide +kernel
theorem dX6_readOne_103 : decode cX6_readOne 103 = .ok (.aload_n 0, 1) := by decide +kernel
theorem dX6_readOne_104 : decode cX6_readOne 104 = .ok (.iconst 1, 1) := by decide +kernel
theorem dX6_readOne_105 : decode cX6_readOne 105 = .ok (.invokevirtual 195, 3) := by decide +kernel
theorem dX6_readOne_108 : decode cX6_readOne 108 = .ok (.aload_n 0, 1) := by decide +kernel
theorem dX6_readOne_109 : decode cX6_readOne 109 = .ok (.getfield 174, 3) := by decide +kernel
theorem dX6_readOne_112 : decode cX6_readOne 112 = .ok (.ifCond .eq 4, 3) := by decide +kernel
theorem dX6_readOne_115 : decode cX6_readOne 115 = .ok (.return_, 1) := by decide +kernel
theorem dX6_readOne_116 : decode cX6_readOne 116 = .ok (.aload_n 0, 1) := by decide +kernel
theorem dX6_readOne_117 : decode cX6_readOne 117 = .ok (.invokevirtual 192, 3) := by decide +kernel
theorem dX6_readOne_120 : decode cX6_readOne 120 = .ok (.aload_n 0, 1) := by decide +kernel
theorem dX6_readOne_121 : decode cX6_readOne 121 = .ok (.getfield 29, 3) := by decide +kernel
theorem dX6_readOne_124 : decode cX6_readOne 124 = .ok (.bipush 6, 2) := by decide +kernel
theorem dX6_readOne_126 : decode cX6_readOne 126 = .ok (.iload_n 1, 1) := by decide +kernel
theorem dX6_readOne_127 : decode cX6_readOne 127 = .ok (.iadd, 1) := by decide +kernel
theorem dX6_readOne_128 : decode cX6_readOne 128 = .ok (.iload_n 2, 1) := by decide +kernel
theorem dX6_readOne_129 : decode cX6_readOne 129 = .ok (.iastore, 1) := by decide +kernel
theorem dX6_readOne_130 : decode cX6_readOne 130 = .ok (.aload_n 0, 1) := by decide +kernel
theorem dX6_readOne_131 : decode cX6_readOne 131 = .ok (.getfield 32, 3) := by decide +kernel
theorem dX6_readOne_134 : decode cX6_readOne 134 = .ok (.bipush 6, 2) := by decide +kernel
theorem dX6_readOne_136 : decode cX6_readOne 136 = .ok (.iload_n 1, 1) := by decide +kernel
theorem dX6_readOne_137 : decode cX6_readOne 137 = .ok (.iadd, 1) := by decide +kernel
theorem dX6_readOne_138 : decode cX6_readOne 138 = .ok (.iload_n 2, 1) := by decide +kernel
theorem dX6_readOne_139 : decode cX6_readOne 139 = .ok (.iconst 3, 1) := by decide +kernel
theorem dX6_readOne_140 : decode cX6_readOne 140 = .ok (.if_icmp .ne 13, 3) := by decide +kernel
theorem dX6_readOne_143 : decode cX6_readOne 143 = .ok (.aload_n 0, 1) := by decide +kernel
theorem dX6_readOne_144 : decode cX6_readOne 144 = .ok (.iconst 0, 1) := by decide +kernel
theorem dX6_readOne_145 : decode cX6_readOne 145 = .ok (.bipush 11, 2) := by decide +kernel
theorem dX6_readOne_147 : decode cX6_readOne 147 = .ok (.invokevirtual 207, 3) := by decide +kernel
theorem dX6_readOne_150 : decode cX6_readOne 150 = .ok (.goto 19, 3) := by decide +kernel
theorem dX6_readOne_153 : decode cX6_readOne 153 = .ok (.iload_n 2, 1) := by decide +kernel
theorem dX6_readOne_154 : decode cX6_readOne 154 = .ok (.iconst 4, 1) := by decide +kernel
theorem dX6_readOne_155 : decode cX6_readOne 155 = .ok (.if_icmp .ne 13, 3) := by decide +kernel
theorem dX6_readOne_158 : decode cX6_readOne 158 = .ok (.aload_n 0, 1) := by decide +kernel
theorem dX6_readOne_159 : decode cX6_readOne 159 = .ok (.iconst 0, 1) := by decide +kernel
theorem dX6_readOne_160 : decode cX6_readOne 160 = .ok (.bipush 99, 2) := by decide +kernel
theorem dX6_readOne_162 : decode cX6_readOne 162 = .ok (.invokevirtual 207, 3) := by decide +kernel
theorem dX6_readOne_165 : decode cX6_readOne 165 = .ok (.goto 4, 3) := by decide +kernel
theorem dX6_readOne_168 : decode cX6_readOne 168 = .ok (.iconst 0, 1) := by decide +kernel
theorem dX6_readOne_169 : decode cX6_readOne 169 = .ok (.iastore, 1) := by decide +kernel
theorem dX6_readOne_170 : decode cX6_readOne 170 = .ok (.aload_n 0, 1) := by decide +kernel
theorem dX6_readOne_171 : decode cX6_readOne 171 = .ok (.getfield 25, 3) := by decide +kernel
theorem dX6_readOne_174 : decode cX6_readOne 174 = .ok (.iconst 4, 1) := by decide +kernel
theorem dX6_readOne_175 : decode cX6_readOne 175 = .ok (.dup2, 1) := by decide +kernel
theorem dX6_readOne_176 : decode cX6_readOne 176 = .ok (.iaload, 1) := by decide +kernel
theorem dX6_readOne_177 : decode cX6_readOne 177 = .ok (.iconst 1, 1) := by decide +kernel
theorem dX6_readOne_178 : decode cX6_readOne 178 = .ok (.iadd, 1) := by decide +kernel
theorem dX6_readOne_179 : decode cX6_readOne 179 = .ok (.iastore, 1) := by decide +kernel
theorem dX6_readOne_180 : decode cX6_readOne 180 = .ok (.return_, 1) := by decide +kernel
theorem dX6_readThing_0 : decode cX6_readThing 0 = .ok (.aload_n 0, 1) := by decide +kernel
theorem dX6_readThing_1 : decode cX6_readThing 1 = .ok (.getfield 25, 3) := by decide +kernel
theorem dX6_readThing_4 : decode cX6_readThing 4 = .ok (.iconst 5, 1) := by decide +kernel
theorem dX6_readThing_5 : decode cX6_readThing 5 = .ok (.iaload, 1) := by decide +kernel
theorem dX6_readThing_6 : decode cX6_readThing 6 = .ok (.bipush 12, 2) := by decide +kernel
theorem dX6_readThing_8 : decode cX6_readThing 8 = .ok (.if_icmp .ne 8, 3) := by decide +kernel
theorem dX6_readThing_11 : decode cX6_readThing 11 = .ok (.aload_n 0, 1) := by decide +kernel
theorem dX6_readThing_12 : decode cX6_readThing 12 = .ok (.iconst 2, 1) := by decide +kernel
theorem dX6_readThing_13 : decode cX6_readThing 13 = .ok (.invokevirtual 195, 3) := by decide +kernel
theorem dX6_readThing_16 : decode cX6_readThing 16 = .ok (.aload_n 0, 1) := by decide +kernel
theorem dX6_readThing_17 : decode cX6_readThing 17 = .ok (.getfield 174, 3) := by decide +kernel
theorem dX6_readThing_20 : decode cX6_readThing 20 = .ok (.ifCond .eq 4, 3) := by decide +kernel
theorem dX6_readThing_23 : decode cX6_readThing 23 = .ok (.return_, 1) := by decide +kernel
theorem dX6_readThing_24 : decode cX6_readThing 24 = .ok (.aload_n 0, 1) := by decide +kernel
theorem dX6_readThing_25 : decode cX6_readThing 25 = .ok (.invokevirtual 192, 3) := by decide +kernel
theorem dX6_readThing_28 : decode cX6_readThing 28 = .ok (.aload_n 0, 1) := by decide +kernel
theorem dX6_readThing_29 : decode cX6_readThing 29 = .ok (.getfield 25, 3) := by decide +kernel
theorem dX6_readThing_32 : decode cX6_readThing 32 = .ok (.iconst 5, 1) := by decide +kernel
theorem dX6_readThing_33 : decode cX6_readThing 33 = .ok (.iaload, 1) := by decide +kernel
theorem dX6_readThing_34 : decode cX6_readThing 34 = .ok (.istore_n 1, 1) := by decide +kernel
theorem dX6_readThing_35 : decode cX6_readThing 35 = .ok (.aload_n 0, 1) := by decide +kernel
theorem dX6_readThing_36 : decode cX6_readThing 36 = .ok (.getfield 50, 3) := by decide +kernel
theorem dX6_readThing_39 : decode cX6_readThing 39 = .ok (.iload_n 1, 1) := by decide +kernel
theorem dX6_readThing_40 : decode cX6_readThing 40 = .ok (.aload_n 0, 1) := by decide +kernel
theorem dX6_readThing_41 : decode cX6_readThing 41 = .ok (.iconst 1, 1) := by decide +kernel
theorem dX6_readThing_42 : decode cX6_readThing 42 = .ok (.bipush 99, 2) := by decide +kernel
theorem dX6_readThing_44 : decode cX6_readThing 44 = .ok (.invokevirtual 207, 3) := by decide +kernel
theorem dX6_readThing_47 : decode cX6_readThing 47 = .ok (.iastore, 1) := by decide +kernel
theorem dX6_readThing_48 : decode cX6_readThing 48 = .ok (.aload_n 0, 1) := by decide +kernel
theorem dX6_readThing_49 : decode cX6_readThing 49 = .ok (.getfield 35, 3) := by decide +kernel
theorem dX6_readThing_52 : decode cX6_readThing 52 = .ok (.bipush 12, 2) := by decide +kernel
theorem dX6_readThing_54 : decode cX6_readThing 54 = .ok (.iload_n 1, 1) := by decide +kernel
theorem dX6_readThing_55 : decode cX6_readThing 55 = .ok (.iadd, 1) := by decide +kernel
theorem dX6_readThing_56 : decode cX6_readThing 56 = .ok (.aload_n 0, 1) := by decide +kernel
theorem dX6_readThing_57 : decode cX6_readThing 57 = .ok (.iconst 0, 1) := by decide +kernel
theorem dX6_readThing_58 : decode cX6_readThing 58 = .ok (.sipush 999, 3) := by decide +kernel
theorem dX6_readThing_61 : decode cX6_readThing 61 = .ok (.invokevirtual 207, 3) := by decide +kernel
theorem dX6_readThing_64 : decode cX6_readThing 64 = .ok (.iastore, 1) := by decide +kernel
theorem dX6_readThing_65 : decode cX6_readThing 65 = .ok (.aload_n 0, 1) := by decide +kernel
theorem dX6_readThing_66 : decode cX6_readThing 66 = .ok (.getfield 44, 3) := by decide +kernel
theorem dX6_readThing_69 : decode cX6_readThing 69 = .ok (.iload_n 1, 1) := by decide +kernel
theorem dX6_readThing_70 : decode cX6_readThing 70 = .ok (.aload_n 0, 1) := by decide +kernel
theorem dX6_readThing_71 : decode cX6_readThing 71 = .ok (.invokevirtual 210, 3) := by decide +kernel
theorem dX6_readThing_74 : decode cX6_readThing 74 = .ok (.iastore, 1) := by decide +kernel
theorem dX6_readThing_75 : decode cX6_readThing 75 = .ok (.aload_n 0, 1) := by decide +kernel
theorem dX6_readThing_76 : decode cX6_readThing 76 = .ok (.getfield 53, 3) := by decide +kernel
theorem dX6_readThing_79 : decode cX6_readThing 79 = .ok (.bipush 12, 2) := by decide +kernel
theorem dX6_readThing_81 : decode cX6_readThing 81 = .ok (.iload_n 1, 1) := by decide +kernel
theorem dX6_readThing_82 : decode cX6_readThing 82 = .ok (.iadd, 1) := by decide +kernel
theorem dX6_readThing_83 : decode cX6_readThing 83 = .ok (.aload_n 0, 1) := by decide +kernel
theorem dX6_readThing_84 : decode cX6_readThing 84 = .ok (.ldc 213, 2) := by decide +kernel
theorem dX6_readThing_86 : decode cX6_readThing 86 = .ok (.invokevirtual 204, 3) := by decide +kernel
theorem dX6_readThing_89 : decode cX6_readThing 89 = .ok (.bastore, 1) := by decide +kernel
theorem dX6_readThing_90 : decode cX6_readThing 90 = .ok (.aload_n 0, 1) := by decide +kernel
theorem dX6_readThing_91 : decode cX6_readThing 91 = .ok (.getfield 25, 3) := by decide +kernel
theorem dX6_readThing_94 : decode cX6_readThing 94 = .ok (.iconst 5, 1) := by decide +kernel
theorem dX6_readThing_95 : decode cX6_readThing 95 = .ok (.dup2, 1) := by decide +kernel
theorem dX6_readThing_96 : decode cX6_readThing 96 = .ok (.iaload, 1) := by decide +kernel
theorem dX6_readThing_97 : decode cX6_readThing 97 = .ok (.iconst 1, 1) := by decide +kernel
theorem dX6_readThing_98 : decode cX6_readThing 98 = .ok (.iadd, 1) := by decide +kernel
theorem dX6_readThing_99 : decode cX6_readThing 99 = .ok (.iastore, 1) := by decide +kernel
theorem dX6_readThing_100 : decode cX6_readThing 100 = .ok (.return_, 1) := by decide +kernel
theorem dX6_readOwes_0 : decode cX6_readOwes 0 = .ok (.aload_n 0, 1) := by decide +kernel
theorem dX6_readOwes_1 : decode cX6_readOwes 1 = .ok (.invokevirtual 199, 3) := by decide +kernel
theorem dX6_readOwes_4 : decode cX6_readOwes 4 = .ok (.istore_n 1, 1) := by decide +kernel
theorem dX6_readOwes_5 : decode cX6_readOwes 5 = .ok (.aload_n 0, 1) := by decide +kernel
theorem dX6_readOwes_6 : decode cX6_readOwes 6 = .ok (.getfield 174, 3) := by decide +kernel
theorem dX6_readOwes_9 : decode cX6_readOwes 9 = .ok (.ifCond .ne 20, 3) := by decide +kernel
theorem dX6_readOwes_12 : decode cX6_readOwes 12 = .ok (.aload_n 0, 1) := by decide +kernel
theorem dX6_readOwes_13 : decode cX6_readOwes 13 = .ok (.getfield 44, 3) := by decide +kernel
theorem dX6_readOwes_16 : decode cX6_readOwes 16 = .ok (.bipush 18, 2) := by decide +kernel
theorem dX6_readOwes_18 : decode cX6_readOwes 18 = .ok (.iload_n 1, 1) := by decide +kernel
theorem dX6_readOwes_19 : decode cX6_readOwes 19 = .ok (.iadd, 1) := by decide +kernel
theorem dX6_readOwes_20 : decode cX6_readOwes 20 = .ok (.iaload, 1) := by decide +kernel
theorem dX6_readOwes_21 : decode cX6_readOwes 21 = .ok (.ifCond .le 8, 3) := by decide +kernel
theorem dX6_readOwes_24 : decode cX6_readOwes 24 = .ok (.aload_n 0, 1) := by decide +kernel
theorem dX6_readOwes_25 : decode cX6_readOwes 25 = .ok (.iconst 4, 1) := by decide +kernel
theorem dX6_readOwes_26 : decode cX6_readOwes 26 = .ok (.invokevirtual 195, 3) := by decide +kernel
theorem dX6_readOwes_29 : decode cX6_readOwes 29 = .ok (.aload_n 0, 1) := by decide +kernel
theorem dX6_readOwes_30 : decode cX6_readOwes 30 = .ok (.getfield 174, 3) := by decide +kernel
theorem dX6_readOwes_33 : decode cX6_readOwes 33 = .ok (.ifCond .eq 4, 3) := by decide +kernel
theorem dX6_readOwes_36 : decode cX6_readOwes 36 = .ok (.return_, 1) := by decide +kernel
theorem dX6_readOwes_37 : decode cX6_readOwes 37 = .ok (.aload_n 0, 1) := by decide +kernel
theorem dX6_readOwes_38 : decode cX6_readOwes 38 = .ok (.invokevirtual 192, 3) := by decide +kernel
theorem dX6_readOwes_41 : decode cX6_readOwes 41 = .ok (.aload_n 0, 1) := by decide +kernel
theorem dX6_readOwes_42 : decode cX6_readOwes 42 = .ok (.getfield 44, 3) := by decide +kernel
theorem dX6_readOwes_45 : decode cX6_readOwes 45 = .ok (.bipush 18, 2) := by decide +kernel
theorem dX6_readOwes_47 : decode cX6_readOwes 47 = .ok (.iload_n 1, 1) := by decide +kernel
theorem dX6_readOwes_48 : decode cX6_readOwes 48 = .ok (.iadd, 1) := by decide +kernel
theorem dX6_readOwes_49 : decode cX6_readOwes 49 = .ok (.aload_n 0, 1) := by decide +kernel
theorem dX6_readOwes_50 : decode cX6_readOwes 50 = .ok (.iconst 1, 1) := by decide +kernel
theorem dX6_readOwes_51 : decode cX6_readOwes 51 = .ok (.sipush 999, 3) := by decide +kernel
theorem dX6_readOwes_54 : decode cX6_readOwes 54 = .ok (.invokevirtual 207, 3) := by decide +kernel
theorem dX6_readOwes_57 : decode cX6_readOwes 57 = .ok (.iastore, 1) := by decide +kernel
theorem dX6_readOwes_58 : decode cX6_readOwes 58 = .ok (.aload_n 0, 1) := by decide +kernel
theorem dX6_readOwes_59 : decode cX6_readOwes 59 = .ok (.ldc 215, 2) := by decide +kernel
theorem dX6_readOwes_61 : decode cX6_readOwes 61 = .ok (.invokevirtual 204, 3) := by decide +kernel
theorem dX6_readOwes_64 : decode cX6_readOwes 64 = .ok (.ifCond .ne 4, 3) := by decide +kernel
theorem dX6_readOwes_67 : decode cX6_readOwes 67 = .ok (.return_, 1) := by decide +kernel
theorem dX6_readOwes_68 : decode cX6_readOwes 68 = .ok (.aload_n 0, 1) := by decide +kernel
theorem dX6_readOwes_69 : decode cX6_readOwes 69 = .ok (.invokevirtual 199, 3) := by decide +kernel
theorem dX6_readOwes_72 : decode cX6_readOwes 72 = .ok (.istore_n 2, 1) := by decide +kernel
theorem dX6_readOwes_73 : decode cX6_readOwes 73 = .ok (.aload_n 0, 1) := by decide +kernel
theorem dX6_readOwes_74 : decode cX6_readOwes 74 = .ok (.getfield 174, 3) := by decide +kernel
theorem dX6_readOwes_77 : decode cX6_readOwes 77 = .ok (.ifCond .ne 13, 3) := by decide +kernel
theorem dX6_readOwes_80 : decode cX6_readOwes 80 = .ok (.iload_n 2, 1) := by decide +kernel
theorem dX6_readOwes_81 : decode cX6_readOwes 81 = .ok (.iload_n 1, 1) := by decide +kernel
theorem dX6_readOwes_82 : decode cX6_readOwes 82 = .ok (.if_icmp .ne 8, 3) := by decide +kernel
theorem dX6_readOwes_85 : decode cX6_readOwes 85 = .ok (.aload_n 0, 1) := by decide +kernel
theorem dX6_readOwes_86 : decode cX6_readOwes 86 = .ok (.iconst 4, 1) := by decide +kernel
theorem dX6_readOwes_87 : decode cX6_readOwes 87 = .ok (.invokevirtual 195, 3) := by decide +kernel
theorem dX6_readOwes_90 : decode cX6_readOwes 90 = .ok (.aload_n 0, 1) := by decide +kernel
theorem dX6_readOwes_91 : decode cX6_readOwes 91 = .ok (.getfield 174, 3) := by decide +kernel
theorem dX6_readOwes_94 : decode cX6_readOwes 94 = .ok (.ifCond .ne 7, 3) := by decide +kernel
theorem dX6_readOwes_97 : decode cX6_readOwes 97 = .ok (.aload_n 0, 1) := by decide +kernel
theorem dX6_readOwes_98 : decode cX6_readOwes 98 = .ok (.invokevirtual 192, 3) := by decide +kernel
theorem dX6_readOwes_101 : decode cX6_readOwes 101 = .ok (.aload_n 0, 1) := by decide +kernel
theorem dX6_readOwes_102 : decode cX6_readOwes 102 = .ok (.getfield 44, 3) := by decide +kernel
theorem dX6_readOwes_105 : decode cX6_readOwes 105 = .ok (.bipush 24, 2) := by decide +kernel
theorem dX6_readOwes_107 : decode cX6_readOwes 107 = .ok (.iload_n 1, 1) := by decide +kernel
theorem dX6_readOwes_108 : decode cX6_readOwes 108 = .ok (.iadd, 1) := by decide +kernel
theorem dX6_readOwes_109 : decode cX6_readOwes 109 = .ok (.iload_n 2, 1) := by decide +kernel
theorem dX6_readOwes_110 : decode cX6_readOwes 110 = .ok (.iastore, 1) := by decide +kernel
theorem dX6_readOwes_111 : decode cX6_readOwes 111 = .ok (.return_, 1) := by decide +kernel
theorem dX6_readLaw_0 : decode cX6_readLaw 0 = .ok (.aload_n 0, 1) := by decide +kernel
theorem dX6_readLaw_1 : decode cX6_readLaw 1 = .ok (.ldc 217, 2) := by decide +kernel
theorem dX6_readLaw_3 : decode cX6_readLaw 3 = .ok (.invokevirtual 188, 3) := by decide +kernel
theorem dX6_readLaw_6 : decode cX6_readLaw 6 = .ok (.istore_n 1, 1) := by decide +kernel
theorem dX6_readLaw_7 : decode cX6_readLaw 7 = .ok (.iload_n 1, 1) := by decide +kernel
theorem dX6_readLaw_8 : decode cX6_readLaw 8 = .ok (.ifCond .ne 17, 3) := by decide +kernel
theorem dX6_readLaw_11 : decode cX6_readLaw 11 = .ok (.aload_n 0, 1) := by decide +kernel
theorem dX6_readLaw_12 : decode cX6_readLaw 12 = .ok (.ldc 219, 2) := by decide +kernel
theorem dX6_readLaw_14 : decode cX6_readLaw 14 = .ok (.invokevirtual 188, 3) := by decide +kernel
theorem dX6_readLaw_17 : decode cX6_readLaw 17 = .ok (.ifCond .ne 8, 3) := by decide +kernel
theorem dX6_readLaw_20 : decode cX6_readLaw 20 = .ok (.aload_n 0, 1) := by decide +kernel
theorem dX6_readLaw_21 : decode cX6_readLaw 21 = .ok (.iconst 1, 1) := by decide +kernel
theorem dX6_readLaw_22 : decode cX6_readLaw 22 = .ok (.invokevirtual 195, 3) := by decide +kernel
theorem dX6_readLaw_25 : decode cX6_readLaw 25 = .ok (.aload_n 0, 1) := by decide +kernel
theorem dX6_readLaw_26 : decode cX6_readLaw 26 = .ok (.getfield 174, 3) := by decide +kernel
theorem dX6_readLaw_29 : decode cX6_readLaw 29 = .ok (.ifCond .ne 7, 3) := by decide +kernel
theorem dX6_readLaw_32 : decode cX6_readLaw 32 = .ok (.aload_n 0, 1) := by decide +kernel
theorem dX6_readLaw_33 : decode cX6_readLaw 33 = .ok (.invokevirtual 192, 3) := by decide +kernel
theorem dX6_readLaw_36 : decode cX6_readLaw 36 = .ok (.aload_n 0, 1) := by decide +kernel
theorem dX6_readLaw_37 : decode cX6_readLaw 37 = .ok (.getfield 25, 3) := by decide +kernel
theorem dX6_readLaw_40 : decode cX6_readLaw 40 = .ok (.bipush 6, 2) := by decide +kernel
theorem dX6_readLaw_42 : decode cX6_readLaw 42 = .ok (.iload_n 1, 1) := by decide +kernel
theorem dX6_readLaw_43 : decode cX6_readLaw 43 = .ok (.ifCond .eq 7, 3) := by decide +kernel
theorem dX6_readLaw_46 : decode cX6_readLaw 46 = .ok (.iconst 0, 1) := by decide +kernel
theorem dX6_readLaw_47 : decode cX6_readLaw 47 = .ok (.goto 4, 3) := by decide +kernel
theorem dX6_readLaw_50 : decode cX6_readLaw 50 = .ok (.iconst 1, 1) := by decide +kernel
theorem dX6_readLaw_51 : decode cX6_readLaw 51 = .ok (.iastore, 1) := by decide +kernel
theorem dX6_readLaw_52 : decode cX6_readLaw 52 = .ok (.return_, 1) := by decide +kernel
theorem dX6_readLine_0 : decode cX6_readLine 0 = .ok (.aload_n 0, 1) := by decide +kernel
theorem dX6_readLine_1 : decode cX6_readLine 1 = .ok (.ldc 221, 2) := by decide +kernel
theorem dX6_readLine_3 : decode cX6_readLine 3 = .ok (.invokevirtual 188, 3) := by decide +kernel
theorem dX6_readLine_6 : decode cX6_readLine 6 = .ok (.ifCond .eq 7, 3) := by decide +kernel
theorem dX6_readLine_9 : decode cX6_readLine 9 = .ok (.iconst 1, 1) := by decide +kernel
theorem dX6_readLine_10 : decode cX6_readLine 10 = .ok (.goto 17, 3) := by decide +kernel
theorem dX6_readLine_13 : decode cX6_readLine 13 = .ok (.aload_n 0, 1) := by decide +kernel
theorem dX6_readLine_14 : decode cX6_readLine 14 = .ok (.ldc 223, 2) := by decide +kernel
theorem dX6_readLine_16 : decode cX6_readLine 16 = .ok (.invokevirtual 188, 3) := by decide +kernel
theorem dX6_readLine_19 : decode cX6_readLine 19 = .ok (.ifCond .eq 7, 3) := by decide +kernel
theorem dX6_readLine_22 : decode cX6_readLine 22 = .ok (.iconst 2, 1) := by decide +kernel
theorem dX6_readLine_23 : decode cX6_readLine 23 = .ok (.goto 4, 3) := by decide +kernel
theorem dX6_readLine_26 : decode cX6_readLine 26 = .ok (.iconst 0, 1) := by decide +kernel
theorem dX6_readLine_27 : decode cX6_readLine 27 = .ok (.istore_n 2, 1) := by decide +kernel
theorem dX6_readLine_28 : decode cX6_readLine 28 = .ok (.iload_n 1, 1) := by decide +kernel
theorem dX6_readLine_29 : decode cX6_readLine 29 = .ok (.iload_n 2, 1) := by decide +kernel
theorem dX6_readLine_30 : decode cX6_readLine 30 = .ok (.iand, 1) := by decide +kernel
theorem dX6_readLine_31 : decode cX6_readLine 31 = .ok (.ifCond .eq 8, 3) := by decide +kernel
theorem dX6_readLine_34 : decode cX6_readLine 34 = .ok (.aload_n 0, 1) := by decide +kernel
theorem dX6_readLine_35 : decode cX6_readLine 35 = .ok (.iconst 5, 1) := by decide +kernel
theorem dX6_readLine_36 : decode cX6_readLine 36 = .ok (.invokevirtual 195, 3) := by decide +kernel
theorem dX6_readLine_39 : decode cX6_readLine 39 = .ok (.aload_n 0, 1) := by decide +kernel
theorem dX6_readLine_40 : decode cX6_readLine 40 = .ok (.ldc 225, 2) := by decide +kernel
theorem dX6_readLine_42 : decode cX6_readLine 42 = .ok (.invokevirtual 188, 3) := by decide +kernel
theorem dX6_readLine_45 : decode cX6_readLine 45 = .ok (.ifCond .eq 10, 3) := by decide +kernel
theorem dX6_readLine_48 : decode cX6_readLine 48 = .ok (.aload_n 0, 1) := by decide +kernel
theorem dX6_readLine_49 : decode cX6_readLine 49 = .ok (.invokevirtual 227, 3) := by decide +kernel
theorem dX6_readLine_52 : decode cX6_readLine 52 = .ok (.goto 96, 3) := by decide +kernel
theorem dX6_readLine_55 : decode cX6_readLine 55 = .ok (.aload_n 0, 1) := by decide +kernel
theorem dX6_readLine_56 : decode cX6_readLine 56 = .ok (.ldc 230, 2) := by decide +kernel
theorem dX6_readLine_58 : decode cX6_readLine 58 = .ok (.invokevirtual 188, 3) := by decide +kernel
theorem dX6_readLine_61 : decode cX6_readLine 61 = .ok (.ifCond .eq 10, 3) := by decide +kernel
theorem dX6_readLine_64 : decode cX6_readLine 64 = .ok (.aload_n 0, 1) := by decide +kernel
theorem dX6_readLine_65 : decode cX6_readLine 65 = .ok (.invokevirtual 232, 3) := by decide +kernel
theorem dX6_readLine_68 : decode cX6_readLine 68 = .ok (.goto 80, 3) := by decide +kernel
theorem dX6_readLine_71 : decode cX6_readLine 71 = .ok (.aload_n 0, 1) := by decide +kernel
theorem dX6_readLine_72 : decode cX6_readLine 72 = .ok (.ldc 235, 2) := by decide +kernel
theorem dX6_readLine_74 : decode cX6_readLine 74 = .ok (.invokevirtual 204, 3) := by decide +kernel
theorem dX6_readLine_77 : decode cX6_readLine 77 = .ok (.ifCond .eq 10, 3) := by decide +kernel
theorem dX6_readLine_80 : decode cX6_readLine 80 = .ok (.aload_n 0, 1) := by decide +kernel
theorem dX6_readLine_81 : decode cX6_readLine 81 = .ok (.invokevirtual 237, 3) := by decide +kernel
theorem dX6_readLine_84 : decode cX6_readLine 84 = .ok (.goto 64, 3) := by decide +kernel
theorem dX6_readLine_87 : decode cX6_readLine 87 = .ok (.iload_n 2, 1) := by decide +kernel
theorem dX6_readLine_88 : decode cX6_readLine 88 = .ok (.iconst 1, 1) := by decide +kernel
theorem dX6_readLine_89 : decode cX6_readLine 89 = .ok (.if_icmp .ne 21, 3) := by decide +kernel
theorem dX6_readLine_92 : decode cX6_readLine 92 = .ok (.aload_n 0, 1) := by decide +kernel
theorem dX6_readLine_93 : decode cX6_readLine 93 = .ok (.getfield 174, 3) := by decide +kernel
theorem dX6_readLine_96 : decode cX6_readLine 96 = .ok (.ifCond .ne 7, 3) := by decide +kernel
theorem dX6_readLine_99 : decode cX6_readLine 99 = .ok (.aload_n 0, 1) := by decide +kernel
theorem dX6_readLine_100 : decode cX6_readLine 100 = .ok (.invokevirtual 192, 3) := by decide +kernel
theorem dX6_readLine_103 : decode cX6_readLine 103 = .ok (.aload_n 0, 1) := by decide +kernel
theorem dX6_readLine_104 : decode cX6_readLine 104 = .ok (.invokevirtual 240, 3) := by decide +kernel
theorem dX6_readLine_107 : decode cX6_readLine 107 = .ok (.goto 41, 3) := by decide +kernel
theorem dX6_readLine_110 : decode cX6_readLine 110 = .ok (.iload_n 2, 1) := by decide +kernel
theorem dX6_readLine_111 : decode cX6_readLine 111 = .ok (.iconst 2, 1) := by decide +kernel
theorem dX6_readLine_112 : decode cX6_readLine 112 = .ok (.if_icmp .ne 31, 3) := by decide +kernel
theorem dX6_readLine_115 : decode cX6_readLine 115 = .ok (.aload_n 0, 1) := by decide +kernel
theorem dX6_readLine_116 : decode cX6_readLine 116 = .ok (.getfield 174, 3) := by decide +kernel
theorem dX6_readLine_119 : decode cX6_readLine 119 = .ok (.ifCond .ne 7, 3) := by decide +kernel
theorem dX6_readLine_122 : decode cX6_readLine 122 = .ok (.aload_n 0, 1) := by decide +kernel
theorem dX6_readLine_123 : decode cX6_readLine 123 = .ok (.invokevirtual 192, 3) := by decide +kernel
theorem dX6_readLine_126 : decode cX6_readLine 126 = .ok (.aload_n 0, 1) := by decide +kernel
theorem dX6_readLine_127 : decode cX6_readLine 127 = .ok (.getfield 25, 3) := by decide +kernel
theorem dX6_readLine_130 : decode cX6_readLine 130 = .ok (.bipush 7, 2) := by decide +kernel
theorem dX6_readLine_132 : decode cX6_readLine 132 = .ok (.aload_n 0, 1) := by decide +kernel
theorem dX6_readLine_133 : decode cX6_readLine 133 = .ok (.iconst 0, 1) := by decide +kernel
theorem dX6_readLine_134 : decode cX6_readLine 134 = .ok (.bipush 9, 2) := by decide +kernel
theorem dX6_readLine_136 : decode cX6_readLine 136 = .ok (.invokevirtual 207, 3) := by decide +kernel
theorem dX6_readLine_139 : decode cX6_readLine 139 = .ok (.iastore, 1) := by decide +kernel
theorem dX6_readLine_140 : decode cX6_readLine 140 = .ok (.goto 8, 3) := by decide +kernel
theorem dX6_readLine_143 : decode cX6_readLine 143 = .ok (.aload_n 0, 1) := by decide +kernel
theorem dX6_readLine_144 : decode cX6_readLine 144 = .ok (.iconst 1, 1) := by decide +kernel
theorem dX6_readLine_145 : decode cX6_readLine 145 = .ok (.invokevirtual 195, 3) := by decide +kernel
theorem dX6_readLine_148 : decode cX6_readLine 148 = .ok (.aload_n 0, 1) := by decide +kernel
theorem dX6_readLine_149 : decode cX6_readLine 149 = .ok (.getfield 174, 3) := by decide +kernel
theorem dX6_readLine_152 : decode cX6_readLine 152 = .ok (.ifCond .ne 16, 3) := by decide +kernel
theorem dX6_readLine_155 : decode cX6_readLine 155 = .ok (.aload_n 0, 1) := by decide +kernel
theorem dX6_readLine_156 : decode cX6_readLine 156 = .ok (.getfield 151, 3) := by decide +kernel
theorem dX6_readLine_159 : decode cX6_readLine 159 = .ok (.iconst 3, 1) := by decide +kernel
theorem dX6_readLine_160 : decode cX6_readLine 160 = .ok (.if_icmp .eq 8, 3) := by decide +kernel
theorem dX6_readLine_163 : decode cX6_readLine 163 = .ok (.aload_n 0, 1) := by decide +kernel
theorem dX6_readLine_164 : decode cX6_readLine 164 = .ok (.iconst 1, 1) := by decide +kernel
theorem dX6_readLine_165 : decode cX6_readLine 165 = .ok (.invokevirtual 195, 3) := by decide +kernel
theorem dX6_readLine_168 : decode cX6_readLine 168 = .ok (.aload_n 0, 1) := by decide +kernel
theorem dX6_readLine_169 : decode cX6_readLine 169 = .ok (.getfield 174, 3) := by decide +kernel
theorem dX6_readLine_172 : decode cX6_readLine 172 = .ok (.ifCond .ne 7, 3) := by decide +kernel
theorem dX6_readLine_175 : decode cX6_readLine 175 = .ok (.aload_n 0, 1) := by decide +kernel
theorem dX6_readLine_176 : decode cX6_readLine 176 = .ok (.invokevirtual 192, 3) := by decide +kernel
theorem dX6_readLine_179 : decode cX6_readLine 179 = .ok (.iload_n 1, 1) := by decide +kernel
theorem dX6_readLine_180 : decode cX6_readLine 180 = .ok (.iload_n 2, 1) := by decide +kernel
theorem dX6_readLine_181 : decode cX6_readLine 181 = .ok (.ior, 1) := by decide +kernel
theorem dX6_readLine_182 : decode cX6_readLine 182 = .ok (.ireturn, 1) := by decide +kernel
theorem dX6_town_0 : decode cX6_town 0 = .ok (.aload_n 0, 1) := by decide +kernel
theorem dX6_town_1 : decode cX6_town 1 = .ok (.iconst 0, 1) := by decide +kernel
theorem dX6_town_2 : decode cX6_town 2 = .ok (.putfield 128, 3) := by decide +kernel
theorem dX6_town_5 : decode cX6_town 5 = .ok (.iload_n 1, 1) := by decide +kernel
theorem dX6_town_6 : decode cX6_town 6 = .ok (.ifCond .lt 11, 3) := by decide +kernel
theorem dX6_town_9 : decode cX6_town 9 = .ok (.iload_n 1, 1) := by decide +kernel
theorem dX6_town_10 : decode cX6_town 10 = .ok (.aload_n 0, 1) := by decide +kernel
theorem dX6_town_11 : decode cX6_town 11 = .ok (.getfield 135, 3) := by decide +kernel
theorem dX6_town_14 : decode cX6_town 14 = .ok (.if_icmp .le 9, 3) := by decide +kernel
theorem dX6_town_17 : decode cX6_town 17 = .ok (.aload_n 0, 1) := by decide +kernel
theorem dX6_town_18 : decode cX6_town 18 = .ok (.iconst 1, 1) := by decide +kernel
theorem dX6_town_19 : decode cX6_town 19 = .ok (.invokevirtual 243, 3) := by decide +kernel
theorem dX6_town_22 : decode cX6_town 22 = .ok (.ireturn, 1) := by decide +kernel
theorem dX6_town_23 : decode cX6_town 23 = .ok (.aload_n 0, 1) := by decide +kernel
theorem dX6_town_24 : decode cX6_town 24 = .ok (.iconst 0, 1) := by decide +kernel
theorem dX6_town_25 : decode cX6_town 25 = .ok (.putfield 135, 3) := by decide +kernel
theorem dX6_town_28 : decode cX6_town 28 = .ok (.aload_n 0, 1) := by decide +kernel
theorem dX6_town_29 : decode cX6_town 29 = .ok (.iload_n 1, 1) := by decide +kernel
theorem dX6_town_30 : decode cX6_town 30 = .ok (.putfield 138, 3) := by decide +kernel
theorem dX6_town_33 : decode cX6_town 33 = .ok (.aload_n 0, 1) := by decide +kernel
theorem dX6_town_34 : decode cX6_town 34 = .ok (.iconst 0, 1) := by decide +kernel
theorem dX6_town_35 : decode cX6_town 35 = .ok (.putfield 141, 3) := by decide +kernel
theorem dX6_town_38 : decode cX6_town 38 = .ok (.aload_n 0, 1) := by decide +kernel
theorem dX6_town_39 : decode cX6_town 39 = .ok (.iconst 0, 1) := by decide +kernel
theorem dX6_town_40 : decode cX6_town 40 = .ok (.putfield 174, 3) := by decide +kernel
theorem dX6_town_43 : decode cX6_town 43 = .ok (.aload_n 0, 1) := by decide +kernel
theorem dX6_town_44 : decode cX6_town 44 = .ok (.iconst (-1), 1) := by decide +kernel
theorem dX6_town_45 : decode cX6_town 45 = .ok (.putfield 60, 3) := by decide +kernel
theorem dX6_town_48 : decode cX6_town 48 = .ok (.iconst 4, 1) := by decide +kernel
theorem dX6_town_49 : decode cX6_town 49 = .ok (.istore_n 2, 1) := by decide +kernel
theorem dX6_town_50 : decode cX6_town 50 = .ok (.iload_n 2, 1) := by decide +kernel
theorem dX6_town_51 : decode cX6_town 51 = .ok (.bipush 8, 2) := by decide +kernel
theorem dX6_town_53 : decode cX6_town 53 = .ok (.if_icmp .ge 16, 3) := by decide +kernel
theorem dX6_town_56 : decode cX6_town 56 = .ok (.aload_n 0, 1) := by decide +kernel
theorem dX6_town_57 : decode cX6_town 57 = .ok (.getfield 25, 3) := by decide +kernel
theorem dX6_town_60 : decode cX6_town 60 = .ok (.iload_n 2, 1) := by decide +kernel
theorem dX6_town_61 : decode cX6_town 61 = .ok (.iconst 0, 1) := by decide +kernel
theorem dX6_town_62 : decode cX6_town 62 = .ok (.iastore, 1) := by decide +kernel
theorem dX6_town_63 : decode cX6_town 63 = .ok (.iinc 2 1, 3) := by decide +kernel
theorem dX6_town_66 : decode cX6_town 66 = .ok (.goto (-16), 3) := by decide +kernel
theorem dX6_town_69 : decode cX6_town 69 = .ok (.aload_n 0, 1) := by decide +kernel
theorem dX6_town_70 : decode cX6_town 70 = .ok (.getfield 44, 3) := by decide +kernel
theorem dX6_town_73 : decode cX6_town 73 = .ok (.invokestatic 124, 3) := by decide +kernel
theorem dX6_town_76 : decode cX6_town 76 = .ok (.aload_n 0, 1) := by decide +kernel
theorem dX6_town_77 : decode cX6_town 77 = .ok (.invokevirtual 192, 3) := by decide +kernel
theorem dX6_town_80 : decode cX6_town 80 = .ok (.iconst 0, 1) := by decide +kernel
theorem dX6_town_81 : decode cX6_town 81 = .ok (.istore_n 2, 1) := by decide +kernel
theorem dX6_town_82 : decode cX6_town 82 = .ok (.aload_n 0, 1) := by decide +kernel
theorem dX6_town_83 : decode cX6_town 83 = .ok (.getfield 174, 3) := by decide +kernel
theorem dX6_town_86 : decode cX6_town 86 = .ok (.ifCond .ne 19, 3) := by decide +kernel
theorem dX6_town_89 : decode cX6_town 89 = .ok (.aload_n 0, 1) := by decide +kernel
theorem dX6_town_90 : decode cX6_town 90 = .ok (.getfield 151, 3) := by decide +kernel
theorem dX6_town_93 : decode cX6_town 93 = .ok (.ifCond .eq 12, 3) := by decide +kernel
theorem dX6_town_96 : decode cX6_town 96 = .ok (.aload_n 0, 1) := by decide +kernel
theorem dX6_town_97 : decode cX6_town 97 = .ok (.iload_n 2, 1) := by decide +kernel
theorem dX6_town_98 : decode cX6_town 98 = .ok (.invokevirtual 246, 3) := by decide +kernel
theorem dX6_town_101 : decode cX6_town 101 = .ok (.istore_n 2, 1) := by decide +kernel
theorem dX6_town_102 : decode cX6_town 102 = .ok (.goto (-20), 3) := by decide +kernel
theorem dX6_town_105 : decode cX6_town 105 = .ok (.aload_n 0, 1) := by decide +kernel
theorem dX6_town_106 : decode cX6_town 106 = .ok (.getfield 174, 3) := by decide +kernel
theorem dX6_town_109 : decode cX6_town 109 = .ok (.ifCond .eq 26, 3) := by decide +kernel
theorem dX6_town_112 : decode cX6_town 112 = .ok (.aload_n 0, 1) := by decide +kernel
theorem dX6_town_113 : decode cX6_town 113 = .ok (.aload_n 0, 1) := by decide +kernel
theorem dX6_town_114 : decode cX6_town 114 = .ok (.getfield 177, 3) := by decide +kernel
theorem dX6_town_117 : decode cX6_town 117 = .ok (.putfield 60, 3) := by decide +kernel
theorem dX6_town_120 : decode cX6_town 120 = .ok (.aload_n 0, 1) := by decide +kernel
theorem dX6_town_121 : decode cX6_town 121 = .ok (.getfield 38, 3) := by decide +kernel
theorem dX6_town_124 : decode cX6_town 124 = .ok (.iconst 0, 1) := by decide +kernel
theorem dX6_town_125 : decode cX6_town 125 = .ok (.dup2, 1) := by decide +kernel
theorem dX6_town_126 : decode cX6_town 126 = .ok (.iaload, 1) := by decide +kernel
theorem dX6_town_127 : decode cX6_town 127 = .ok (.iconst 1, 1) := by decide +kernel
theorem dX6_town_128 : decode cX6_town 128 = .ok (.iadd, 1) := by decide +kernel
theorem dX6_town_129 : decode cX6_town 129 = .ok (.iastore, 1) := by decide +kernel
theorem dX6_town_130 : decode cX6_town 130 = .ok (.aload_n 0, 1) := by decide +kernel
theorem dX6_town_131 : decode cX6_town 131 = .ok (.getfield 174, 3) := by decide +kernel
theorem dX6_town_134 : decode cX6_town 134 = .ok (.ireturn, 1) := by decide +kernel
theorem dX6_town_135 : decode cX6_town 135 = .ok (.iconst 0, 1) := by decide +kernel
theorem dX6_town_136 : decode cX6_town 136 = .ok (.istore_n 3, 1) := by decide +kernel
theorem dX6_town_137 : decode cX6_town 137 = .ok (.iload_n 3, 1) := by decide +kernel
theorem dX6_town_138 : decode cX6_town 138 = .ok (.iconst 4, 1) := by decide +kernel
theorem dX6_town_139 : decode cX6_town 139 = .ok (.if_icmp .ge 23, 3) := by decide +kernel
theorem dX6_town_142 : decode cX6_town 142 = .ok (.aload_n 0, 1) := by decide +kernel
theorem dX6_town_143 : decode cX6_town 143 = .ok (.getfield 25, 3) := by decide +kernel
theorem dX6_town_146 : decode cX6_town 146 = .ok (.iload_n 3, 1) := by decide +kernel
theorem dX6_town_147 : decode cX6_town 147 = .ok (.aload_n 0, 1) := by decide +kernel
theorem dX6_town_148 : decode cX6_town 148 = .ok (.getfield 25, 3) := by decide +kernel
theorem dX6_town_151 : decode cX6_town 151 = .ok (.iconst 4, 1) := by decide +kernel
theorem dX6_town_152 : decode cX6_town 152 = .ok (.iload_n 3, 1) := by decide +kernel
theorem dX6_town_153 : decode cX6_town 153 = .ok (.iadd, 1) := by decide +kernel
theorem dX6_town_154 : decode cX6_town 154 = .ok (.iaload, 1) := by decide +kernel
theorem dX6_town_155 : decode cX6_town 155 = .ok (.iastore, 1) := by decide +kernel
theorem dX6_town_156 : decode cX6_town 156 = .ok (.iinc 3 1, 3) := by decide +kernel
theorem dX6_town_159 : decode cX6_town 159 = .ok (.goto (-22), 3) := by decide +kernel
theorem dX6_town_162 : decode cX6_town 162 = .ok (.iconst 0, 1) := by decide +kernel
theorem dX6_town_163 : decode cX6_town 163 = .ok (.istore_n 3, 1) := by decide +kernel
theorem dX6_town_164 : decode cX6_town 164 = .ok (.iload_n 3, 1) := by decide +kernel
theorem dX6_town_165 : decode cX6_town 165 = .ok (.bipush 6, 2) := by decide +kernel
theorem dX6_town_167 : decode cX6_town 167 = .ok (.if_icmp .ge 39, 3) := by decide +kernel
theorem dX6_town_170 : decode cX6_town 170 = .ok (.aload_n 0, 1) := by decide +kernel
theorem dX6_town_171 : decode cX6_town 171 = .ok (.getfield 29, 3) := by decide +kernel
theorem dX6_town_174 : decode cX6_town 174 = .ok (.iload_n 3, 1) := by decide +kernel
theorem dX6_town_175 : decode cX6_town 175 = .ok (.aload_n 0, 1) := by decide +kernel
theorem dX6_town_176 : decode cX6_town 176 = .ok (.getfield 29, 3) := by decide +kernel
theorem dX6_town_179 : decode cX6_town 179 = .ok (.bipush 6, 2) := by decide +kernel
theorem dX6_town_181 : decode cX6_town 181 = .ok (.iload_n 3, 1) := by decide +kernel
theorem dX6_town_182 : decode cX6_town 182 = .ok (.iadd, 1) := by decide +kernel
theorem dX6_town_183 : decode cX6_town 183 = .ok (.iaload, 1) := by decide +kernel
theorem dX6_town_184 : decode cX6_town 184 = .ok (.iastore, 1) := by decide +kernel
theorem dX6_town_185 : decode cX6_town 185 = .ok (.aload_n 0, 1) := by decide +kernel
theorem dX6_town_186 : decode cX6_town 186 = .ok (.getfield 32, 3) := by decide +kernel
theorem dX6_town_189 : decode cX6_town 189 = .ok (.iload_n 3, 1) := by decide +kernel
theorem dX6_town_190 : decode cX6_town 190 = .ok (.aload_n 0, 1) := by decide +kernel
theorem dX6_town_191 : decode cX6_town 191 = .ok (.getfield 32, 3) := by decide +kernel
theorem dX6_town_194 : decode cX6_town 194 = .ok (.bipush 6, 2) := by decide +kernel
theorem dX6_town_196 : decode cX6_town 196 = .ok (.iload_n 3, 1) := by decide +kernel
theorem dX6_town_197 : decode cX6_town 197 = .ok (.iadd, 1) := by decide +kernel
theorem dX6_town_198 : decode cX6_town 198 = .ok (.iaload, 1) := by decide +kernel
theorem dX6_town_199 : decode cX6_town 199 = .ok (.iastore, 1) := by decide +kernel
theorem dX6_town_200 : decode cX6_town 200 = .ok (.iinc 3 1, 3) := by decide +kernel
theorem dX6_town_203 : decode cX6_town 203 = .ok (.goto (-39), 3) := by decide +kernel
theorem dX6_town_206 : decode cX6_town 206 = .ok (.iconst 0, 1) := by decide +kernel
theorem dX6_town_207 : decode cX6_town 207 = .ok (.istore_n 3, 1) := by decide +kernel
theorem dX6_town_208 : decode cX6_town 208 = .ok (.iload_n 3, 1) := by decide +kernel
theorem dX6_town_209 : decode cX6_town 209 = .ok (.bipush 12, 2) := by decide +kernel
theorem dX6_town_211 : decode cX6_town 211 = .ok (.if_icmp .ge 51, 3) := by decide +kernel
theorem dX6_town_214 : decode cX6_town 214 = .ok (.aload_n 0, 1) := by decide +kernel
theorem dX6_town_215 : decode cX6_town 215 = .ok (.getfield 35, 3) := by decide +kernel
theorem dX6_town_218 : decode cX6_town 218 = .ok (.iload_n 3, 1) := by decide +kernel
theorem dX6_town_219 : decode cX6_town 219 = .ok (.aload_n 0, 1) := by decide +kernel
theorem dX6_town_220 : decode cX6_town 220 = .ok (.getfield 35, 3) := by decide +kernel
theorem dX6_town_223 : decode cX6_town 223 = .ok (.bipush 12, 2) := by decide +kernel
theorem dX6_town_225 : decode cX6_town 225 = .ok (.iload_n 3, 1) := by decide +kernel
theorem dX6_town_226 : decode cX6_town 226 = .ok (.iadd, 1) := by decide +kernel
theorem dX6_town_227 : decode cX6_town 227 = .ok (.iaload, 1) := by decide +kernel
theorem dX6_town_228 : decode cX6_town 228 = .ok (.iastore, 1) := by decide +kernel
theorem dX6_town_229 : decode cX6_town 229 = .ok (.aload_n 0, 1) := by decide +kernel
theorem dX6_town_230 : decode cX6_town 230 = .ok (.getfield 47, 3) := by decide +kernel
theorem dX6_town_233 : decode cX6_town 233 = .ok (.iload_n 3, 1) := by decide +kernel
theorem dX6_town_234 : decode cX6_town 234 = .ok (.aload_n 0, 1) := by decide +kernel
theorem dX6_town_235 : decode cX6_town 235 = .ok (.getfield 50, 3) := by decide +kernel
theorem dX6_town_238 : decode cX6_town 238 = .ok (.iload_n 3, 1) := by decide +kernel
theorem dX6_town_239 : decode cX6_town 239 = .ok (.iaload, 1) := by decide +kernel
theorem dX6_town_240 : decode cX6_town 240 = .ok (.iastore, 1) := by decide +kernel
theorem dX6_town_241 : decode cX6_town 241 = .ok (.aload_n 0, 1) := by decide +kernel
theorem dX6_town_242 : decode cX6_town 242 = .ok (.getfield 53, 3) := by decide +kernel
theorem dX6_town_245 : decode cX6_town 245 = .ok (.iload_n 3, 1) := by decide +kernel
theorem dX6_town_246 : decode cX6_town 246 = .ok (.aload_n 0, 1) := by decide +kernel
theorem dX6_town_247 : decode cX6_town 247 = .ok (.getfield 53, 3) := by decide +kernel
theorem dX6_town_250 : decode cX6_town 250 = .ok (.bipush 12, 2) := by decide +kernel
theorem dX6_town_252 : decode cX6_town 252 = .ok (.iload_n 3, 1) := by decide +kernel
theorem dX6_town_253 : decode cX6_town 253 = .ok (.iadd, 1) := by decide +kernel
theorem dX6_town_254 : decode cX6_town 254 = .ok (.baload, 1) := by decide +kernel
theorem dX6_town_255 : decode cX6_town 255 = .ok (.bastore, 1) := by decide +kernel
theorem dX6_town_256 : decode cX6_town 256 = .ok (.iinc 3 1, 3) := by decide +kernel
theorem dX6_town_259 : decode cX6_town 259 = .ok (.goto (-51), 3) := by decide +kernel
theorem dX6_town_262 : decode cX6_town 262 = .ok (.aload_n 0, 1) := by decide +kernel
theorem dX6_town_263 : decode cX6_town 263 = .ok (.getfield 44, 3) := by decide +kernel
theorem dX6_town_266 : decode cX6_town 266 = .ok (.aload_n 0, 1) := by decide +kernel
theorem dX6_town_267 : decode cX6_town 267 = .ok (.getfield 41, 3) := by decide +kernel
theorem dX6_town_270 : decode cX6_town 270 = .ok (.invokestatic 249, 3) := by decide +kernel
theorem dX6_town_273 : decode cX6_town 273 = .ok (.aload_n 0, 1) := by decide +kernel
theorem dX6_town_274 : decode cX6_town 274 = .ok (.iconst 0, 1) := by decide +kernel
theorem dX6_town_275 : decode cX6_town 275 = .ok (.putfield 253, 3) := by decide +kernel
theorem dX6_town_278 : decode cX6_town 278 = .ok (.aload_n 0, 1) := by decide +kernel
theorem dX6_town_279 : decode cX6_town 279 = .ok (.iconst 0, 1) := by decide +kernel
theorem dX6_town_280 : decode cX6_town 280 = .ok (.putfield 256, 3) := by decide +kernel
theorem dX6_town_283 : decode cX6_town 283 = .ok (.aload_n 0, 1) := by decide +kernel
theorem dX6_town_284 : decode cX6_town 284 = .ok (.iconst (-1), 1) := by decide +kernel
theorem dX6_town_285 : decode cX6_town 285 = .ok (.putfield 85, 3) := by decide +kernel
theorem dX6_town_288 : decode cX6_town 288 = .ok (.aload_n 0, 1) := by decide +kernel
theorem dX6_town_289 : decode cX6_town 289 = .ok (.iconst 0, 1) := by decide +kernel
theorem dX6_town_290 : decode cX6_town 290 = .ok (.putfield 259, 3) := by decide +kernel
theorem dX6_town_293 : decode cX6_town 293 = .ok (.iconst 0, 1) := by decide +kernel
theorem dX6_town_294 : decode cX6_town 294 = .ok (.ireturn, 1) := by decide +kernel
theorem dX6_copy_0 : decode cX6_copy 0 = .ok (.iconst 0, 1) := by decide +kernel
theorem dX6_copy_1 : decode cX6_copy 1 = .ok (.istore_n 2, 1) := by decide +kernel
theorem dX6_copy_2 : decode cX6_copy 2 = .ok (.iload_n 2, 1) := by decide +kernel
theorem dX6_copy_3 : decode cX6_copy 3 = .ok (.bipush 30, 2) := by decide +kernel
theorem dX6_copy_5 : decode cX6_copy 5 = .ok (.if_icmp .ge 15, 3) := by decide +kernel
theorem dX6_copy_8 : decode cX6_copy 8 = .ok (.aload_n 1, 1) := by decide +kernel
theorem dX6_copy_9 : decode cX6_copy 9 = .ok (.iload_n 2, 1) := by decide +kernel
theorem dX6_copy_10 : decode cX6_copy 10 = .ok (.aload_n 0, 1) := by decide +kernel
theorem dX6_copy_11 : decode cX6_copy 11 = .ok (.iload_n 2, 1) := by decide +kernel
theorem dX6_copy_12 : decode cX6_copy 12 = .ok (.iaload, 1) := by decide +kernel
theorem dX6_copy_13 : decode cX6_copy 13 = .ok (.iastore, 1) := by decide +kernel
theorem dX6_copy_14 : decode cX6_copy 14 = .ok (.iinc 2 1, 3) := by decide +kernel
theorem dX6_copy_17 : decode cX6_copy 17 = .ok (.goto (-15), 3) := by decide +kernel
theorem dX6_copy_20 : decode cX6_copy 20 = .ok (.return_, 1) := by decide +kernel
theorem dX6_fault_0 : decode cX6_fault 0 = .ok (.aload_n 0, 1) := by decide +kernel
theorem dX6_fault_1 : decode cX6_fault 1 = .ok (.iconst 0, 1) := by decide +kernel
theorem dX6_fault_2 : decode cX6_fault 2 = .ok (.putfield 128, 3) := by decide +kernel
theorem dX6_fault_5 : decode cX6_fault 5 = .ok (.aload_n 0, 1) := by decide +kernel
theorem dX6_fault_6 : decode cX6_fault 6 = .ok (.getfield 60, 3) := by decide +kernel
theorem dX6_fault_9 : decode cX6_fault 9 = .ok (.ireturn, 1) := by decide +kernel
theorem dX6_count_0 : decode cX6_count 0 = .ok (.aload_n 0, 1) := by decide +kernel
theorem dX6_count_1 : decode cX6_count 1 = .ok (.iconst 0, 1) := by decide +kernel
theorem dX6_count_2 : decode cX6_count 2 = .ok (.putfield 128, 3) := by decide +kernel
theorem dX6_count_5 : decode cX6_count 5 = .ok (.iload_n 1, 1) := by decide +kernel
theorem dX6_count_6 : decode cX6_count 6 = .ok (.iconst 0, 1) := by decide +kernel
theorem dX6_count_7 : decode cX6_count 7 = .ok (.iconst 3, 1) := by decide +kernel
theorem dX6_count_8 : decode cX6_count 8 = .ok (.invokestatic 131, 3) := by decide +kernel
theorem dX6_count_11 : decode cX6_count 11 = .ok (.ifCond .eq 10, 3) := by decide +kernel
theorem dX6_count_14 : decode cX6_count 14 = .ok (.aload_n 0, 1) := by decide +kernel
theorem dX6_count_15 : decode cX6_count 15 = .ok (.getfield 25, 3) := by decide +kernel
theorem dX6_count_18 : decode cX6_count 18 = .ok (.iload_n 1, 1) := by decide +kernel
theorem dX6_count_19 : decode cX6_count 19 = .ok (.iaload, 1) := by decide +kernel
theorem dX6_count_20 : decode cX6_count 20 = .ok (.ireturn, 1) := by decide +kernel
theorem dX6_count_21 : decode cX6_count 21 = .ok (.iload_n 1, 1) := by decide +kernel
theorem dX6_count_22 : decode cX6_count 22 = .ok (.tableswitch 59 4 8 #[34, 39, 44, 49, 49], 34) := by decide +kernel
theorem dX6_count_56 : decode cX6_count 56 = .ok (.aload_n 0, 1) := by decide +kernel
theorem dX6_count_57 : decode cX6_count 57 = .ok (.getfield 253, 3) := by decide +kernel
theorem dX6_count_60 : decode cX6_count 60 = .ok (.ireturn, 1) := by decide +kernel
theorem dX6_count_61 : decode cX6_count 61 = .ok (.aload_n 0, 1) := by decide +kernel
theorem dX6_count_62 : decode cX6_count 62 = .ok (.getfield 256, 3) := by decide +kernel
theorem dX6_count_65 : decode cX6_count 65 = .ok (.ireturn, 1) := by decide +kernel
theorem dX6_count_66 : decode cX6_count 66 = .ok (.aload_n 0, 1) := by decide +kernel
theorem dX6_count_67 : decode cX6_count 67 = .ok (.getfield 135, 3) := by decide +kernel
theorem dX6_count_70 : decode cX6_count 70 = .ok (.ireturn, 1) := by decide +kernel
theorem dX6_count_71 : decode cX6_count 71 = .ok (.aload_n 0, 1) := by decide +kernel
theorem dX6_count_72 : decode cX6_count 72 = .ok (.getfield 38, 3) := by decide +kernel
theorem dX6_count_75 : decode cX6_count 75 = .ok (.iload_n 1, 1) := by decide +kernel
theorem dX6_count_76 : decode cX6_count 76 = .ok (.bipush 7, 2) := by decide +kernel
theorem dX6_count_78 : decode cX6_count 78 = .ok (.isub, 1) := by decide +kernel
theorem dX6_count_79 : decode cX6_count 79 = .ok (.iaload, 1) := by decide +kernel
theorem dX6_count_80 : decode cX6_count 80 = .ok (.ireturn, 1) := by decide +kernel
theorem dX6_count_81 : decode cX6_count 81 = .ok (.aload_n 0, 1) := by decide +kernel
theorem dX6_count_82 : decode cX6_count 82 = .ok (.iconst 1, 1) := by decide +kernel
theorem dX6_count_83 : decode cX6_count 83 = .ok (.invokevirtual 243, 3) := by decide +kernel
theorem dX6_count_86 : decode cX6_count 86 = .ok (.ireturn, 1) := by decide +kernel
theorem dX6_hasOf_0 : decode cX6_hasOf 0 = .ok (.iconst 0, 1) := by decide +kernel
theorem dX6_hasOf_1 : decode cX6_hasOf 1 = .ok (.istore_n 3, 1) := by decide +kernel
theorem dX6_hasOf_2 : decode cX6_hasOf 2 = .ok (.iconst 0, 1) := by decide +kernel
theorem dX6_hasOf_3 : decode cX6_hasOf 3 = .ok (.istore 4, 2) := by decide +kernel
theorem dX6_hasOf_5 : decode cX6_hasOf 5 = .ok (.iload 4, 2) := by decide +kernel
theorem dX6_hasOf_7 : decode cX6_hasOf 7 = .ok (.aload_n 0, 1) := by decide +kernel
theorem dX6_hasOf_8 : decode cX6_hasOf 8 = .ok (.getfield 25, 3) := by decide +kernel
theorem dX6_hasOf_11 : decode cX6_hasOf 11 = .ok (.iconst 1, 1) := by decide +kernel
theorem dX6_hasOf_12 : decode cX6_hasOf 12 = .ok (.iaload, 1) := by decide +kernel
theorem dX6_hasOf_13 : decode cX6_hasOf 13 = .ok (.if_icmp .ge 28, 3) := by decide +kernel
theorem dX6_hasOf_16 : decode cX6_hasOf 16 = .ok (.iload_n 3, 1) := by decide +kernel
theorem dX6_hasOf_17 : decode cX6_hasOf 17 = .ok (.aload_n 1, 1) := by decide +kernel
theorem dX6_hasOf_18 : decode cX6_hasOf 18 = .ok (.iload 4, 2) := by decide +kernel
theorem dX6_hasOf_20 : decode cX6_hasOf 20 = .ok (.iaload, 1) := by decide +kernel
theorem dX6_hasOf_21 : decode cX6_hasOf 21 = .ok (.iload_n 2, 1) := by decide +kernel
theorem dX6_hasOf_22 : decode cX6_hasOf 22 = .ok (.if_icmp .ne 10, 3) := by decide +kernel
theorem dX6_hasOf_25 : decode cX6_hasOf 25 = .ok (.iconst 1, 1) := by decide +kernel
theorem dX6_hasOf_26 : decode cX6_hasOf 26 = .ok (.iload 4, 2) := by decide +kernel
theorem dX6_hasOf_28 : decode cX6_hasOf 28 = .ok (.ishl, 1) := by decide +kernel
theorem dX6_hasOf_29 : decode cX6_hasOf 29 = .ok (.goto 4, 3) := by decide +kernel
theorem dX6_hasOf_32 : decode cX6_hasOf 32 = .ok (.iconst 0, 1) := by decide +kernel
theorem dX6_hasOf_33 : decode cX6_hasOf 33 = .ok (.ior, 1) := by decide +kernel
theorem dX6_hasOf_34 : decode cX6_hasOf 34 = .ok (.istore_n 3, 1) := by decide +kernel
theorem dX6_hasOf_35 : decode cX6_hasOf 35 = .ok (.iinc 4 1, 3) := by decide +kernel
theorem dX6_hasOf_38 : decode cX6_hasOf 38 = .ok (.goto (-33), 3) := by decide +kernel
theorem dX6_hasOf_41 : decode cX6_hasOf 41 = .ok (.iload_n 3, 1) := by decide +kernel
theorem dX6_hasOf_42 : decode cX6_hasOf 42 = .ok (.ireturn, 1) := by decide +kernel
theorem dX6_weightOf_0 : decode cX6_weightOf 0 = .ok (.iconst 0, 1) := by decide +kernel
theorem dX6_weightOf_1 : decode cX6_weightOf 1 = .ok (.istore_n 2, 1) := by decide +kernel
theorem dX6_weightOf_2 : decode cX6_weightOf 2 = .ok (.iconst 0, 1) := by decide +kernel
theorem dX6_weightOf_3 : decode cX6_weightOf 3 = .ok (.istore_n 3, 1) := by decide +kernel
theorem dX6_weightOf_4 : decode cX6_weightOf 4 = .ok (.iload_n 3, 1) := by decide +kernel
theorem dX6_weightOf_5 : decode cX6_weightOf 5 = .ok (.aload_n 0, 1) := by decide +kernel
theorem dX6_weightOf_6 : decode cX6_weightOf 6 = .ok (.getfield 25, 3) := by decide +kernel
theorem dX6_weightOf_9 : decode cX6_weightOf 9 = .ok (.iconst 1, 1) := by decide +kernel
theorem dX6_weightOf_10 : decode cX6_weightOf 10 = .ok (.iaload, 1) := by decide +kernel
theorem dX6_weightOf_11 : decode cX6_weightOf 11 = .ok (.if_icmp .ge 31, 3) := by decide +kernel
theorem dX6_weightOf_14 : decode cX6_weightOf 14 = .ok (.iload_n 2, 1) := by decide +kernel
theorem dX6_weightOf_15 : decode cX6_weightOf 15 = .ok (.iload_n 1, 1) := by decide +kernel
theorem dX6_weightOf_16 : decode cX6_weightOf 16 = .ok (.iload_n 3, 1) := by decide +kernel
theorem dX6_weightOf_17 : decode cX6_weightOf 17 = .ok (.ishr, 1) := by decide +kernel
theorem dX6_weightOf_18 : decode cX6_weightOf 18 = .ok (.iconst 1, 1) := by decide +kernel
theorem dX6_weightOf_19 : decode cX6_weightOf 19 = .ok (.iand, 1) := by decide +kernel
theorem dX6_weightOf_20 : decode cX6_weightOf 20 = .ok (.iconst 1, 1) := by decide +kernel
theorem dX6_weightOf_21 : decode cX6_weightOf 21 = .ok (.if_icmp .ne 12, 3) := by decide +kernel
theorem dX6_weightOf_24 : decode cX6_weightOf 24 = .ok (.aload_n 0, 1) := by decide +kernel
theorem dX6_weightOf_25 : decode cX6_weightOf 25 = .ok (.getfield 47, 3) := by decide +kernel
theorem dX6_weightOf_28 : decode cX6_weightOf 28 = .ok (.iload_n 3, 1) := by decide +kernel
theorem dX6_weightOf_29 : decode cX6_weightOf 29 = .ok (.iaload, 1) := by decide +kernel
theorem dX6_weightOf_30 : decode cX6_weightOf 30 = .ok (.goto 4, 3) := by decide +kernel
theorem dX6_weightOf_33 : decode cX6_weightOf 33 = .ok (.iconst 0, 1) := by decide +kernel
theorem dX6_weightOf_34 : decode cX6_weightOf 34 = .ok (.iadd, 1) := by decide +kernel
theorem dX6_weightOf_35 : decode cX6_weightOf 35 = .ok (.istore_n 2, 1) := by decide +kernel
theorem dX6_weightOf_36 : decode cX6_weightOf 36 = .ok (.iinc 3 1, 3) := by decide +kernel
theorem dX6_weightOf_39 : decode cX6_weightOf 39 = .ok (.goto (-35), 3) := by decide +kernel
theorem dX6_weightOf_42 : decode cX6_weightOf 42 = .ok (.iload_n 2, 1) := by decide +kernel
theorem dX6_weightOf_43 : decode cX6_weightOf 43 = .ok (.ireturn, 1) := by decide +kernel
theorem dX6_worthOf_0 : decode cX6_worthOf 0 = .ok (.iconst 0, 1) := by decide +kernel
theorem dX6_worthOf_1 : decode cX6_worthOf 1 = .ok (.istore_n 2, 1) := by decide +kernel
theorem dX6_worthOf_2 : decode cX6_worthOf 2 = .ok (.iconst 0, 1) := by decide +kernel
theorem dX6_worthOf_3 : decode cX6_worthOf 3 = .ok (.istore_n 3, 1) := by decide +kernel
theorem dX6_worthOf_4 : decode cX6_worthOf 4 = .ok (.iload_n 3, 1) := by decide +kernel
theorem dX6_worthOf_5 : decode cX6_worthOf 5 = .ok (.aload_n 0, 1) := by decide +kernel
theorem dX6_worthOf_6 : decode cX6_worthOf 6 = .ok (.getfield 25, 3) := by decide +kernel
theorem dX6_worthOf_9 : decode cX6_worthOf 9 = .ok (.iconst 1, 1) := by decide +kernel
theorem dX6_worthOf_10 : decode cX6_worthOf 10 = .ok (.iaload, 1) := by decide +kernel
theorem dX6_worthOf_11 : decode cX6_worthOf 11 = .ok (.if_icmp .ge 31, 3) := by decide +kernel
theorem dX6_worthOf_14 : decode cX6_worthOf 14 = .ok (.iload_n 2, 1) := by decide +kernel
theorem dX6_worthOf_15 : decode cX6_worthOf 15 = .ok (.iload_n 1, 1) := by decide +kernel
theorem dX6_worthOf_16 : decode cX6_worthOf 16 = .ok (.iload_n 3, 1) := by decide +kernel
theorem dX6_worthOf_17 : decode cX6_worthOf 17 = .ok (.ishr, 1) := by decide +kernel
theorem dX6_worthOf_18 : decode cX6_worthOf 18 = .ok (.iconst 1, 1) := by decide +kernel
theorem dX6_worthOf_19 : decode cX6_worthOf 19 = .ok (.iand, 1) := by decide +kernel
theorem dX6_worthOf_20 : decode cX6_worthOf 20 = .ok (.iconst 1, 1) := by decide +kernel
theorem dX6_worthOf_21 : decode cX6_worthOf 21 = .ok (.if_icmp .ne 12, 3) := by decide +kernel
theorem dX6_worthOf_24 : decode cX6_worthOf 24 = .ok (.aload_n 0, 1) := by decide +kernel
theorem dX6_worthOf_25 : decode cX6_worthOf 25 = .ok (.getfield 35, 3) := by decide +kernel
theorem dX6_worthOf_28 : decode cX6_worthOf 28 = .ok (.iload_n 3, 1) := by decide +kernel
theorem dX6_worthOf_29 : decode cX6_worthOf 29 = .ok (.iaload, 1) := by decide +kernel
theorem dX6_worthOf_30 : decode cX6_worthOf 30 = .ok (.goto 4, 3) := by decide +kernel
theorem dX6_worthOf_33 : decode cX6_worthOf 33 = .ok (.iconst 0, 1) := by decide +kernel
theorem dX6_worthOf_34 : decode cX6_worthOf 34 = .ok (.iadd, 1) := by decide +kernel
theorem dX6_worthOf_35 : decode cX6_worthOf 35 = .ok (.istore_n 2, 1) := by decide +kernel
theorem dX6_worthOf_36 : decode cX6_worthOf 36 = .ok (.iinc 3 1, 3) := by decide +kernel
theorem dX6_worthOf_39 : decode cX6_worthOf 39 = .ok (.goto (-35), 3) := by decide +kernel
theorem dX6_worthOf_42 : decode cX6_worthOf 42 = .ok (.iload_n 2, 1) := by decide +kernel
theorem dX6_worthOf_43 : decode cX6_worthOf 43 = .ok (.ireturn, 1) := by decide +kernel
theorem dX6_person_0 : decode cX6_person 0 = .ok (.aload_n 0, 1) := by decide +kernel
theorem dX6_person_1 : decode cX6_person 1 = .ok (.iconst 0, 1) := by decide +kernel
theorem dX6_person_2 : decode cX6_person 2 = .ok (.putfield 128, 3) := by decide +kernel
theorem dX6_person_5 : decode cX6_person 5 = .ok (.aload_n 0, 1) := by decide +kernel
theorem dX6_person_6 : decode cX6_person 6 = .ok (.iload_n 1, 1) := by decide +kernel
theorem dX6_person_7 : decode cX6_person 7 = .ok (.invokevirtual 263, 3) := by decide +kernel
theorem dX6_person_10 : decode cX6_person 10 = .ok (.ifCond .ne 9, 3) := by decide +kernel
theorem dX6_person_13 : decode cX6_person 13 = .ok (.aload_n 0, 1) := by decide +kernel
theorem dX6_person_14 : decode cX6_person 14 = .ok (.iconst 1, 1) := by decide +kernel
theorem dX6_person_15 : decode cX6_person 15 = .ok (.invokevirtual 243, 3) := by decide +kernel
theorem dX6_person_18 : decode cX6_person 18 = .ok (.ireturn, 1) := by decide +kernel
theorem dX6_person_19 : decode cX6_person 19 = .ok (.iload_n 2, 1) := by decide +kernel
theorem dX6_person_20 : decode cX6_person 20 = .ok (.tableswitch 119 0 6 #[44, 51, 61, 71, 81, 91, 105], 44) := by decide +kernel
theorem dX6_person_64 : decode cX6_person 64 = .ok (.aload_n 0, 1) := by decide +kernel
theorem dX6_person_65 : decode cX6_person 65 = .ok (.getfield 29, 3) := by decide +kernel
theorem dX6_person_68 : decode cX6_person 68 = .ok (.iload_n 1, 1) := by decide +kernel
theorem dX6_person_69 : decode cX6_person 69 = .ok (.iaload, 1) := by decide +kernel
theorem dX6_person_70 : decode cX6_person 70 = .ok (.ireturn, 1) := by decide +kernel
theorem dX6_person_71 : decode cX6_person 71 = .ok (.aload_n 0, 1) := by decide +kernel
theorem dX6_person_72 : decode cX6_person 72 = .ok (.getfield 41, 3) := by decide +kernel
theorem dX6_person_75 : decode cX6_person 75 = .ok (.bipush 12, 2) := by decide +kernel
theorem dX6_person_77 : decode cX6_person 77 = .ok (.iload_n 1, 1) := by decide +kernel
theorem dX6_person_78 : decode cX6_person 78 = .ok (.iadd, 1) := by decide +kernel
theorem dX6_person_79 : decode cX6_person 79 = .ok (.iaload, 1) := by decide +kernel
theorem dX6_person_80 : decode cX6_person 80 = .ok (.ireturn, 1) := by decide +kernel
theorem dX6_person_81 : decode cX6_person 81 = .ok (.aload_n 0, 1) := by decide +kernel
theorem dX6_person_82 : decode cX6_person 82 = .ok (.getfield 41, 3) := by decide +kernel
theorem dX6_person_85 : decode cX6_person 85 = .ok (.bipush 18, 2) := by decide +kernel
theorem dX6_person_87 : decode cX6_person 87 = .ok (.iload_n 1, 1) := by decide +kernel
theorem dX6_person_88 : decode cX6_person 88 = .ok (.iadd, 1) := by decide +kernel
theorem dX6_person_89 : decode cX6_person 89 = .ok (.iaload, 1) := by decide +kernel
theorem dX6_person_90 : decode cX6_person 90 = .ok (.ireturn, 1) := by decide +kernel
theorem dX6_person_91 : decode cX6_person 91 = .ok (.aload_n 0, 1) := by decide +kernel
theorem dX6_person_92 : decode cX6_person 92 = .ok (.getfield 41, 3) := by decide +kernel
theorem dX6_person_95 : decode cX6_person 95 = .ok (.bipush 24, 2) := by decide +kernel
theorem dX6_person_97 : decode cX6_person 97 = .ok (.iload_n 1, 1) := by decide +kernel
theorem dX6_person_98 : decode cX6_person 98 = .ok (.iadd, 1) := by decide +kernel
theorem dX6_person_99 : decode cX6_person 99 = .ok (.iaload, 1) := by decide +kernel
theorem dX6_person_100 : decode cX6_person 100 = .ok (.ireturn, 1) := by decide +kernel
theorem dX6_person_101 : decode cX6_person 101 = .ok (.aload_n 0, 1) := by decide +kernel
theorem dX6_person_102 : decode cX6_person 102 = .ok (.aload_n 0, 1) := by decide +kernel
theorem dX6_person_103 : decode cX6_person 103 = .ok (.getfield 41, 3) := by decide +kernel
theorem dX6_person_106 : decode cX6_person 106 = .ok (.iload_n 1, 1) := by decide +kernel
theorem dX6_person_107 : decode cX6_person 107 = .ok (.invokevirtual 266, 3) := by decide +kernel
theorem dX6_person_110 : decode cX6_person 110 = .ok (.ireturn, 1) := by decide +kernel
theorem dX6_person_111 : decode cX6_person 111 = .ok (.aload_n 0, 1) := by decide +kernel
theorem dX6_person_112 : decode cX6_person 112 = .ok (.aload_n 0, 1) := by decide +kernel
theorem dX6_person_113 : decode cX6_person 113 = .ok (.aload_n 0, 1) := by decide +kernel
theorem dX6_person_114 : decode cX6_person 114 = .ok (.getfield 41, 3) := by decide +kernel
theorem dX6_person_117 : decode cX6_person 117 = .ok (.iload_n 1, 1) := by decide +kernel
theorem dX6_person_118 : decode cX6_person 118 = .ok (.invokevirtual 266, 3) := by decide +kernel
theorem dX6_person_121 : decode cX6_person 121 = .ok (.invokevirtual 270, 3) := by decide +kernel
theorem dX6_person_124 : decode cX6_person 124 = .ok (.ireturn, 1) := by decide +kernel
theorem dX6_person_125 : decode cX6_person 125 = .ok (.aload_n 0, 1) := by decide +kernel
theorem dX6_person_126 : decode cX6_person 126 = .ok (.aload_n 0, 1) := by decide +kernel
theorem dX6_person_127 : decode cX6_person 127 = .ok (.aload_n 0, 1) := by decide +kernel
theorem dX6_person_128 : decode cX6_person 128 = .ok (.getfield 41, 3) := by decide +kernel
theorem dX6_person_131 : decode cX6_person 131 = .ok (.iload_n 1, 1) := by decide +kernel
theorem dX6_person_132 : decode cX6_person 132 = .ok (.invokevirtual 266, 3) := by decide +kernel
theorem dX6_person_135 : decode cX6_person 135 = .ok (.invokevirtual 273, 3) := by decide +kernel
theorem dX6_person_138 : decode cX6_person 138 = .ok (.ireturn, 1) := by decide +kernel
theorem dX6_person_139 : decode cX6_person 139 = .ok (.aload_n 0, 1) := by decide +kernel
theorem dX6_person_140 : decode cX6_person 140 = .ok (.iconst 1, 1) := by decide +kernel
theorem dX6_person_141 : decode cX6_person 141 = .ok (.invokevirtual 243, 3) := by decide +kernel
theorem dX6_person_144 : decode cX6_person 144 = .ok (.ireturn, 1) := by decide +kernel
theorem dX6_thing_0 : decode cX6_thing 0 = .ok (.aload_n 0, 1) := by decide +kernel
theorem dX6_thing_1 : decode cX6_thing 1 = .ok (.iconst 0, 1) := by decide +kernel
