theorem dL_init_0 : decode cL_init 0 = .ok (.aload_n 0, 1) := by decide +kernel
theorem dL_init_1 : decode cL_init 1 = .ok (.invokespecial 1, 3) := by decide +kernel
theorem dL_init_4 : decode cL_init 4 = .ok (.aload_n 0, 1) := by decide +kernel
theorem dL_init_5 : decode cL_init 5 = .ok (.new 7, 3) := by decide +kernel
theorem dL_init_8 : decode cL_init 8 = .ok (.dup, 1) := by decide +kernel
theorem dL_init_9 : decode cL_init 9 = .ok (.invokespecial 9, 3) := by decide +kernel
theorem dL_init_12 : decode cL_init 12 = .ok (.putfield 10, 3) := by decide +kernel
theorem dL_init_15 : decode cL_init 15 = .ok (.aload_n 0, 1) := by decide +kernel
theorem dL_init_16 : decode cL_init 16 = .ok (.sipush 3072, 3) := by decide +kernel
theorem dL_init_19 : decode cL_init 19 = .ok (.newarray .boolean, 2) := by decide +kernel
theorem dL_init_21 : decode cL_init 21 = .ok (.putfield 16, 3) := by decide +kernel
theorem dL_init_24 : decode cL_init 24 = .ok (.return_, 1) := by decide +kernel
theorem dL_next_0 : decode cL_next 0 = .ok (.aload_n 0, 1) := by decide +kernel
theorem dL_next_1 : decode cL_next 1 = .ok (.aload_n 0, 1) := by decide +kernel
theorem dL_next_2 : decode cL_next 2 = .ok (.getfield 20, 3) := by decide +kernel
theorem dL_next_5 : decode cL_next 5 = .ok (.ldc 24, 2) := by decide +kernel
theorem dL_next_7 : decode cL_next 7 = .ok (.imul, 1) := by decide +kernel
theorem dL_next_8 : decode cL_next 8 = .ok (.sipush 12345, 3) := by decide +kernel
theorem dL_next_11 : decode cL_next 11 = .ok (.iadd, 1) := by decide +kernel
theorem dL_next_12 : decode cL_next 12 = .ok (.putfield 20, 3) := by decide +kernel
theorem dL_next_15 : decode cL_next 15 = .ok (.aload_n 0, 1) := by decide +kernel
theorem dL_next_16 : decode cL_next 16 = .ok (.getfield 20, 3) := by decide +kernel
theorem dL_next_19 : decode cL_next 19 = .ok (.bipush 16, 2) := by decide +kernel
theorem dL_next_21 : decode cL_next 21 = .ok (.iushr, 1) := by decide +kernel
theorem dL_next_22 : decode cL_next 22 = .ok (.iload_n 1, 1) := by decide +kernel
theorem dL_next_23 : decode cL_next 23 = .ok (.irem, 1) := by decide +kernel
theorem dL_next_24 : decode cL_next 24 = .ok (.ireturn, 1) := by decide +kernel
theorem dL_word_0 : decode cL_word 0 = .ok (.lconst 0, 1) := by decide +kernel
theorem dL_word_1 : decode cL_word 1 = .ok (.lstore_n 1, 1) := by decide +kernel
theorem dL_word_2 : decode cL_word 2 = .ok (.iconst 0, 1) := by decide +kernel
theorem dL_word_3 : decode cL_word 3 = .ok (.istore_n 3, 1) := by decide +kernel
theorem dL_word_4 : decode cL_word 4 = .ok (.iload_n 3, 1) := by decide +kernel
theorem dL_word_5 : decode cL_word 5 = .ok (.iconst 5, 1) := by decide +kernel
theorem dL_word_6 : decode cL_word 6 = .ok (.if_icmp .ge 22, 3) := by decide +kernel
theorem dL_word_9 : decode cL_word 9 = .ok (.lload_n 1, 1) := by decide +kernel
theorem dL_word_10 : decode cL_word 10 = .ok (.bipush 15, 2) := by decide +kernel
theorem dL_word_12 : decode cL_word 12 = .ok (.lshl, 1) := by decide +kernel
theorem dL_word_13 : decode cL_word 13 = .ok (.aload_n 0, 1) := by decide +kernel
theorem dL_word_14 : decode cL_word 14 = .ok (.ldc 25, 2) := by decide +kernel
theorem dL_word_16 : decode cL_word 16 = .ok (.invokevirtual 26, 3) := by decide +kernel
theorem dL_word_19 : decode cL_word 19 = .ok (.i2l, 1) := by decide +kernel
theorem dL_word_20 : decode cL_word 20 = .ok (.lxor, 1) := by decide +kernel
theorem dL_word_21 : decode cL_word 21 = .ok (.lstore_n 1, 1) := by decide +kernel
theorem dL_word_22 : decode cL_word 22 = .ok (.iinc 3 1, 3) := by decide +kernel
theorem dL_word_25 : decode cL_word 25 = .ok (.goto (-21), 3) := by decide +kernel
theorem dL_word_28 : decode cL_word 28 = .ok (.aload_n 0, 1) := by decide +kernel
theorem dL_word_29 : decode cL_word 29 = .ok (.iconst 3, 1) := by decide +kernel
theorem dL_word_30 : decode cL_word 30 = .ok (.invokevirtual 26, 3) := by decide +kernel
theorem dL_word_33 : decode cL_word 33 = .ok (.ifCond .ne 11, 3) := by decide +kernel
theorem dL_word_36 : decode cL_word 36 = .ok (.lload_n 1, 1) := by decide +kernel
theorem dL_word_37 : decode cL_word 37 = .ok (.ldc2_w 30, 3) := by decide +kernel
theorem dL_word_40 : decode cL_word 40 = .ok (.land, 1) := by decide +kernel
theorem dL_word_41 : decode cL_word 41 = .ok (.goto 4, 3) := by decide +kernel
theorem dL_word_44 : decode cL_word 44 = .ok (.lload_n 1, 1) := by decide +kernel
theorem dL_word_45 : decode cL_word 45 = .ok (.lreturn, 1) := by decide +kernel
theorem dL_number_0 : decode cL_number 0 = .ok (.aload_n 0, 1) := by decide +kernel
theorem dL_number_1 : decode cL_number 1 = .ok (.iconst 4, 1) := by decide +kernel
theorem dL_number_2 : decode cL_number 2 = .ok (.invokevirtual 26, 3) := by decide +kernel
theorem dL_number_5 : decode cL_number 5 = .ok (.istore_n 1, 1) := by decide +kernel
theorem dL_number_6 : decode cL_number 6 = .ok (.iload_n 1, 1) := by decide +kernel
theorem dL_number_7 : decode cL_number 7 = .ok (.ifCond .ne 13, 3) := by decide +kernel
theorem dL_number_10 : decode cL_number 10 = .ok (.aload_n 0, 1) := by decide +kernel
theorem dL_number_11 : decode cL_number 11 = .ok (.sipush 1025, 3) := by decide +kernel
theorem dL_number_14 : decode cL_number 14 = .ok (.invokevirtual 26, 3) := by decide +kernel
theorem dL_number_17 : decode cL_number 17 = .ok (.goto 45, 3) := by decide +kernel
theorem dL_number_20 : decode cL_number 20 = .ok (.iload_n 1, 1) := by decide +kernel
theorem dL_number_21 : decode cL_number 21 = .ok (.iconst 1, 1) := by decide +kernel
theorem dL_number_22 : decode cL_number 22 = .ok (.if_icmp .ne 33, 3) := by decide +kernel
theorem dL_number_25 : decode cL_number 25 = .ok (.iconst 0, 1) := by decide +kernel
theorem dL_number_26 : decode cL_number 26 = .ok (.sipush 1024, 3) := by decide +kernel
theorem dL_number_29 : decode cL_number 29 = .ok (.bipush 64, 2) := by decide +kernel
theorem dL_number_31 : decode cL_number 31 = .ok (.aload_n 0, 1) := by decide +kernel
theorem dL_number_32 : decode cL_number 32 = .ok (.bipush 17, 2) := by decide +kernel
theorem dL_number_34 : decode cL_number 34 = .ok (.invokevirtual 26, 3) := by decide +kernel
theorem dL_number_37 : decode cL_number 37 = .ok (.imul, 1) := by decide +kernel
theorem dL_number_38 : decode cL_number 38 = .ok (.aload_n 0, 1) := by decide +kernel
theorem dL_number_39 : decode cL_number 39 = .ok (.iconst 3, 1) := by decide +kernel
theorem dL_number_40 : decode cL_number 40 = .ok (.invokevirtual 26, 3) := by decide +kernel
theorem dL_number_43 : decode cL_number 43 = .ok (.iadd, 1) := by decide +kernel
theorem dL_number_44 : decode cL_number 44 = .ok (.iconst 1, 1) := by decide +kernel
theorem dL_number_45 : decode cL_number 45 = .ok (.isub, 1) := by decide +kernel
theorem dL_number_46 : decode cL_number 46 = .ok (.invokestatic 32, 3) := by decide +kernel
theorem dL_number_49 : decode cL_number 49 = .ok (.invokestatic 38, 3) := by decide +kernel
theorem dL_number_52 : decode cL_number 52 = .ok (.goto 10, 3) := by decide +kernel
theorem dL_number_55 : decode cL_number 55 = .ok (.aload_n 0, 1) := by decide +kernel
theorem dL_number_56 : decode cL_number 56 = .ok (.sipush 200, 3) := by decide +kernel
theorem dL_number_59 : decode cL_number 59 = .ok (.invokevirtual 26, 3) := by decide +kernel
theorem dL_number_62 : decode cL_number 62 = .ok (.ireturn, 1) := by decide +kernel
theorem dL_makes_0 : decode cL_makes 0 = .ok (.iconst 1, 1) := by decide +kernel
theorem dL_makes_1 : decode cL_makes 1 = .ok (.aload_n 0, 1) := by decide +kernel
theorem dL_makes_2 : decode cL_makes 2 = .ok (.bipush 6, 2) := by decide +kernel
theorem dL_makes_4 : decode cL_makes 4 = .ok (.invokevirtual 26, 3) := by decide +kernel
theorem dL_makes_7 : decode cL_makes 7 = .ok (.iadd, 1) := by decide +kernel
theorem dL_makes_8 : decode cL_makes 8 = .ok (.istore_n 2, 1) := by decide +kernel
theorem dL_makes_9 : decode cL_makes 9 = .ok (.iload_n 2, 1) := by decide +kernel
theorem dL_makes_10 : decode cL_makes 10 = .ok (.ifCond .le 312, 3) := by decide +kernel
theorem dL_makes_13 : decode cL_makes 13 = .ok (.aload_n 0, 1) := by decide +kernel
theorem dL_makes_14 : decode cL_makes 14 = .ok (.invokevirtual 41, 3) := by decide +kernel
theorem dL_makes_17 : decode cL_makes 17 = .ok (.istore_n 3, 1) := by decide +kernel
theorem dL_makes_18 : decode cL_makes 18 = .ok (.aload_n 0, 1) := by decide +kernel
theorem dL_makes_19 : decode cL_makes 19 = .ok (.invokevirtual 41, 3) := by decide +kernel
theorem dL_makes_22 : decode cL_makes 22 = .ok (.istore 4, 2) := by decide +kernel
theorem dL_makes_24 : decode cL_makes 24 = .ok (.iload_n 3, 1) := by decide +kernel
theorem dL_makes_25 : decode cL_makes 25 = .ok (.iload 4, 2) := by decide +kernel
theorem dL_makes_27 : decode cL_makes 27 = .ok (.invokestatic 32, 3) := by decide +kernel
theorem dL_makes_30 : decode cL_makes 30 = .ok (.istore 5, 2) := by decide +kernel
theorem dL_makes_32 : decode cL_makes 32 = .ok (.iload_n 3, 1) := by decide +kernel
theorem dL_makes_33 : decode cL_makes 33 = .ok (.iload 4, 2) := by decide +kernel
theorem dL_makes_35 : decode cL_makes 35 = .ok (.invokestatic 38, 3) := by decide +kernel
theorem dL_makes_38 : decode cL_makes 38 = .ok (.istore 6, 2) := by decide +kernel
theorem dL_makes_40 : decode cL_makes 40 = .ok (.aload_n 0, 1) := by decide +kernel
theorem dL_makes_41 : decode cL_makes 41 = .ok (.bipush 11, 2) := by decide +kernel
theorem dL_makes_43 : decode cL_makes 43 = .ok (.invokevirtual 26, 3) := by decide +kernel
theorem dL_makes_46 : decode cL_makes 46 = .ok (.tableswitch 230 0 9 #[54, 54, 70, 86, 102, 126, 140, 163, 184, 213], 54) := by decide +kernel
theorem dL_makes_100 : decode cL_makes 100 = .ok (.aload_n 0, 1) := by decide +kernel
theorem dL_makes_101 : decode cL_makes 101 = .ok (.getfield 10, 3) := by decide +kernel
theorem dL_makes_104 : decode cL_makes 104 = .ok (.iload_n 1, 1) := by decide +kernel
theorem dL_makes_105 : decode cL_makes 105 = .ok (.iload 5, 2) := by decide +kernel
theorem dL_makes_107 : decode cL_makes 107 = .ok (.iload 6, 2) := by decide +kernel
theorem dL_makes_109 : decode cL_makes 109 = .ok (.invokevirtual 45, 3) := by decide +kernel
theorem dL_makes_112 : decode cL_makes 112 = .ok (.pop, 1) := by decide +kernel
theorem dL_makes_113 : decode cL_makes 113 = .ok (.goto 203, 3) := by decide +kernel
theorem dL_makes_116 : decode cL_makes 116 = .ok (.aload_n 0, 1) := by decide +kernel
theorem dL_makes_117 : decode cL_makes 117 = .ok (.getfield 10, 3) := by decide +kernel
theorem dL_makes_120 : decode cL_makes 120 = .ok (.iload_n 1, 1) := by decide +kernel
theorem dL_makes_121 : decode cL_makes 121 = .ok (.iload 5, 2) := by decide +kernel
theorem dL_makes_123 : decode cL_makes 123 = .ok (.iload 6, 2) := by decide +kernel
theorem dL_makes_125 : decode cL_makes 125 = .ok (.invokevirtual 49, 3) := by decide +kernel
theorem dL_makes_128 : decode cL_makes 128 = .ok (.pop, 1) := by decide +kernel
theorem dL_makes_129 : decode cL_makes 129 = .ok (.goto 187, 3) := by decide +kernel
theorem dL_makes_132 : decode cL_makes 132 = .ok (.aload_n 0, 1) := by decide +kernel
theorem dL_makes_133 : decode cL_makes 133 = .ok (.getfield 10, 3) := by decide +kernel
theorem dL_makes_136 : decode cL_makes 136 = .ok (.iload_n 1, 1) := by decide +kernel
theorem dL_makes_137 : decode cL_makes 137 = .ok (.iload 5, 2) := by decide +kernel
theorem dL_makes_139 : decode cL_makes 139 = .ok (.iload 6, 2) := by decide +kernel
theorem dL_makes_141 : decode cL_makes 141 = .ok (.invokevirtual 52, 3) := by decide +kernel
theorem dL_makes_144 : decode cL_makes 144 = .ok (.pop, 1) := by decide +kernel
theorem dL_makes_145 : decode cL_makes 145 = .ok (.goto 171, 3) := by decide +kernel
theorem dL_makes_148 : decode cL_makes 148 = .ok (.aload_n 0, 1) := by decide +kernel
theorem dL_makes_149 : decode cL_makes 149 = .ok (.getfield 10, 3) := by decide +kernel
theorem dL_makes_152 : decode cL_makes 152 = .ok (.iload_n 1, 1) := by decide +kernel
theorem dL_makes_153 : decode cL_makes 153 = .ok (.aload_n 0, 1) := by decide +kernel
theorem dL_makes_154 : decode cL_makes 154 = .ok (.invokevirtual 55, 3) := by decide +kernel
theorem dL_makes_157 : decode cL_makes 157 = .ok (.aload_n 0, 1) := by decide +kernel
theorem dL_makes_158 : decode cL_makes 158 = .ok (.invokevirtual 55, 3) := by decide +kernel
theorem dL_makes_161 : decode cL_makes 161 = .ok (.aload_n 0, 1) := by decide +kernel
theorem dL_makes_162 : decode cL_makes 162 = .ok (.invokevirtual 55, 3) := by decide +kernel
theorem dL_makes_165 : decode cL_makes 165 = .ok (.invokevirtual 59, 3) := by decide +kernel
theorem dL_makes_168 : decode cL_makes 168 = .ok (.pop, 1) := by decide +kernel
theorem dL_makes_169 : decode cL_makes 169 = .ok (.goto 147, 3) := by decide +kernel
theorem dL_makes_172 : decode cL_makes 172 = .ok (.aload_n 0, 1) := by decide +kernel
theorem dL_makes_173 : decode cL_makes 173 = .ok (.getfield 10, 3) := by decide +kernel
theorem dL_makes_176 : decode cL_makes 176 = .ok (.iload_n 1, 1) := by decide +kernel
theorem dL_makes_177 : decode cL_makes 177 = .ok (.iload 6, 2) := by decide +kernel
theorem dL_makes_179 : decode cL_makes 179 = .ok (.invokevirtual 63, 3) := by decide +kernel
theorem dL_makes_182 : decode cL_makes 182 = .ok (.pop, 1) := by decide +kernel
theorem dL_makes_183 : decode cL_makes 183 = .ok (.goto 133, 3) := by decide +kernel
theorem dL_makes_186 : decode cL_makes 186 = .ok (.aload_n 0, 1) := by decide +kernel
theorem dL_makes_187 : decode cL_makes 187 = .ok (.getfield 10, 3) := by decide +kernel
theorem dL_makes_190 : decode cL_makes 190 = .ok (.iload_n 1, 1) := by decide +kernel
theorem dL_makes_191 : decode cL_makes 191 = .ok (.aload_n 0, 1) := by decide +kernel
theorem dL_makes_192 : decode cL_makes 192 = .ok (.sipush 2047, 3) := by decide +kernel
theorem dL_makes_195 : decode cL_makes 195 = .ok (.invokevirtual 26, 3) := by decide +kernel
theorem dL_makes_198 : decode cL_makes 198 = .ok (.sipush 1023, 3) := by decide +kernel
theorem dL_makes_201 : decode cL_makes 201 = .ok (.isub, 1) := by decide +kernel
theorem dL_makes_202 : decode cL_makes 202 = .ok (.invokevirtual 66, 3) := by decide +kernel
theorem dL_makes_205 : decode cL_makes 205 = .ok (.pop, 1) := by decide +kernel
theorem dL_makes_206 : decode cL_makes 206 = .ok (.goto 110, 3) := by decide +kernel
theorem dL_makes_209 : decode cL_makes 209 = .ok (.aload_n 0, 1) := by decide +kernel
theorem dL_makes_210 : decode cL_makes 210 = .ok (.getfield 10, 3) := by decide +kernel
theorem dL_makes_213 : decode cL_makes 213 = .ok (.iload_n 1, 1) := by decide +kernel
theorem dL_makes_214 : decode cL_makes 214 = .ok (.aload_n 0, 1) := by decide +kernel
theorem dL_makes_215 : decode cL_makes 215 = .ok (.iconst 3, 1) := by decide +kernel
theorem dL_makes_216 : decode cL_makes 216 = .ok (.invokevirtual 26, 3) := by decide +kernel
theorem dL_makes_219 : decode cL_makes 219 = .ok (.iload 5, 2) := by decide +kernel
theorem dL_makes_221 : decode cL_makes 221 = .ok (.iload 6, 2) := by decide +kernel
theorem dL_makes_223 : decode cL_makes 223 = .ok (.invokevirtual 69, 3) := by decide +kernel
theorem dL_makes_226 : decode cL_makes 226 = .ok (.pop, 1) := by decide +kernel
theorem dL_makes_227 : decode cL_makes 227 = .ok (.goto 89, 3) := by decide +kernel
theorem dL_makes_230 : decode cL_makes 230 = .ok (.aload_n 0, 1) := by decide +kernel
theorem dL_makes_231 : decode cL_makes 231 = .ok (.getfield 10, 3) := by decide +kernel
theorem dL_makes_234 : decode cL_makes 234 = .ok (.iload_n 1, 1) := by decide +kernel
theorem dL_makes_235 : decode cL_makes 235 = .ok (.iload 5, 2) := by decide +kernel
theorem dL_makes_237 : decode cL_makes 237 = .ok (.iload 6, 2) := by decide +kernel
theorem dL_makes_239 : decode cL_makes 239 = .ok (.aload_n 0, 1) := by decide +kernel
theorem dL_makes_240 : decode cL_makes 240 = .ok (.iconst 2, 1) := by decide +kernel
theorem dL_makes_241 : decode cL_makes 241 = .ok (.invokevirtual 26, 3) := by decide +kernel
theorem dL_makes_244 : decode cL_makes 244 = .ok (.ifCond .ne 7, 3) := by decide +kernel
theorem dL_makes_247 : decode cL_makes 247 = .ok (.iconst 1, 1) := by decide +kernel
theorem dL_makes_248 : decode cL_makes 248 = .ok (.goto 4, 3) := by decide +kernel
theorem dL_makes_251 : decode cL_makes 251 = .ok (.iconst 0, 1) := by decide +kernel
theorem dL_makes_252 : decode cL_makes 252 = .ok (.invokevirtual 73, 3) := by decide +kernel
theorem dL_makes_255 : decode cL_makes 255 = .ok (.pop, 1) := by decide +kernel
theorem dL_makes_256 : decode cL_makes 256 = .ok (.goto 60, 3) := by decide +kernel
theorem dL_makes_259 : decode cL_makes 259 = .ok (.aload_n 0, 1) := by decide +kernel
theorem dL_makes_260 : decode cL_makes 260 = .ok (.getfield 10, 3) := by decide +kernel
theorem dL_makes_263 : decode cL_makes 263 = .ok (.iload_n 1, 1) := by decide +kernel
theorem dL_makes_264 : decode cL_makes 264 = .ok (.aload_n 0, 1) := by decide +kernel
theorem dL_makes_265 : decode cL_makes 265 = .ok (.iconst 3, 1) := by decide +kernel
theorem dL_makes_266 : decode cL_makes 266 = .ok (.invokevirtual 26, 3) := by decide +kernel
theorem dL_makes_269 : decode cL_makes 269 = .ok (.invokevirtual 77, 3) := by decide +kernel
theorem dL_makes_272 : decode cL_makes 272 = .ok (.pop, 1) := by decide +kernel
theorem dL_makes_273 : decode cL_makes 273 = .ok (.goto 43, 3) := by decide +kernel
theorem dL_makes_276 : decode cL_makes 276 = .ok (.iconst 1, 1) := by decide +kernel
theorem dL_makes_277 : decode cL_makes 277 = .ok (.aload_n 0, 1) := by decide +kernel
theorem dL_makes_278 : decode cL_makes 278 = .ok (.bipush 8, 2) := by decide +kernel
theorem dL_makes_280 : decode cL_makes 280 = .ok (.invokevirtual 26, 3) := by decide +kernel
theorem dL_makes_283 : decode cL_makes 283 = .ok (.iadd, 1) := by decide +kernel
theorem dL_makes_284 : decode cL_makes 284 = .ok (.istore 7, 2) := by decide +kernel
theorem dL_makes_286 : decode cL_makes 286 = .ok (.iload 7, 2) := by decide +kernel
theorem dL_makes_288 : decode cL_makes 288 = .ok (.ifCond .le 28, 3) := by decide +kernel
theorem dL_makes_291 : decode cL_makes 291 = .ok (.aload_n 0, 1) := by decide +kernel
theorem dL_makes_292 : decode cL_makes 292 = .ok (.getfield 10, 3) := by decide +kernel
theorem dL_makes_295 : decode cL_makes 295 = .ok (.iload_n 1, 1) := by decide +kernel
theorem dL_makes_296 : decode cL_makes 296 = .ok (.sipush 1023, 3) := by decide +kernel
theorem dL_makes_299 : decode cL_makes 299 = .ok (.aload_n 0, 1) := by decide +kernel
theorem dL_makes_300 : decode cL_makes 300 = .ok (.invokevirtual 41, 3) := by decide +kernel
theorem dL_makes_303 : decode cL_makes 303 = .ok (.invokestatic 32, 3) := by decide +kernel
theorem dL_makes_306 : decode cL_makes 306 = .ok (.invokevirtual 80, 3) := by decide +kernel
theorem dL_makes_309 : decode cL_makes 309 = .ok (.pop, 1) := by decide +kernel
theorem dL_makes_310 : decode cL_makes 310 = .ok (.iinc 7 (-1), 3) := by decide +kernel
theorem dL_makes_313 : decode cL_makes 313 = .ok (.goto (-27), 3) := by decide +kernel
theorem dL_makes_316 : decode cL_makes 316 = .ok (.iinc 2 (-1), 3) := by decide +kernel
theorem dL_makes_319 : decode cL_makes 319 = .ok (.goto (-310), 3) := by decide +kernel
theorem dL_makes_322 : decode cL_makes 322 = .ok (.return_, 1) := by decide +kernel
theorem dL_areRead_0 : decode cL_areRead 0 = .ok (.iconst 0, 1) := by decide +kernel
theorem dL_areRead_1 : decode cL_areRead 1 = .ok (.istore_n 1, 1) := by decide +kernel
theorem dL_areRead_2 : decode cL_areRead 2 = .ok (.iload_n 1, 1) := by decide +kernel
theorem dL_areRead_3 : decode cL_areRead 3 = .ok (.iconst 3, 1) := by decide +kernel
theorem dL_areRead_4 : decode cL_areRead 4 = .ok (.if_icmp .ge 240, 3) := by decide +kernel
theorem dL_areRead_7 : decode cL_areRead 7 = .ok (.iconst 0, 1) := by decide +kernel
theorem dL_areRead_8 : decode cL_areRead 8 = .ok (.istore_n 2, 1) := by decide +kernel
theorem dL_areRead_9 : decode cL_areRead 9 = .ok (.iconst 0, 1) := by decide +kernel
theorem dL_areRead_10 : decode cL_areRead 10 = .ok (.istore_n 3, 1) := by decide +kernel
theorem dL_areRead_11 : decode cL_areRead 11 = .ok (.lconst 0, 1) := by decide +kernel
theorem dL_areRead_12 : decode cL_areRead 12 = .ok (.lstore 4, 2) := by decide +kernel
theorem dL_areRead_14 : decode cL_areRead 14 = .ok (.iconst 0, 1) := by decide +kernel
theorem dL_areRead_15 : decode cL_areRead 15 = .ok (.istore 6, 2) := by decide +kernel
theorem dL_areRead_17 : decode cL_areRead 17 = .ok (.iload 6, 2) := by decide +kernel
theorem dL_areRead_19 : decode cL_areRead 19 = .ok (.sipush 1024, 3) := by decide +kernel
theorem dL_areRead_22 : decode cL_areRead 22 = .ok (.if_icmp .ge 131, 3) := by decide +kernel
theorem dL_areRead_25 : decode cL_areRead 25 = .ok (.aload_n 0, 1) := by decide +kernel
theorem dL_areRead_26 : decode cL_areRead 26 = .ok (.getfield 16, 3) := by decide +kernel
theorem dL_areRead_29 : decode cL_areRead 29 = .ok (.sipush 1024, 3) := by decide +kernel
theorem dL_areRead_32 : decode cL_areRead 32 = .ok (.iload_n 1, 1) := by decide +kernel
theorem dL_areRead_33 : decode cL_areRead 33 = .ok (.imul, 1) := by decide +kernel
theorem dL_areRead_34 : decode cL_areRead 34 = .ok (.iload 6, 2) := by decide +kernel
theorem dL_areRead_36 : decode cL_areRead 36 = .ok (.iadd, 1) := by decide +kernel
theorem dL_areRead_37 : decode cL_areRead 37 = .ok (.aload_n 0, 1) := by decide +kernel
theorem dL_areRead_38 : decode cL_areRead 38 = .ok (.getfield 10, 3) := by decide +kernel
theorem dL_areRead_41 : decode cL_areRead 41 = .ok (.iload_n 1, 1) := by decide +kernel
theorem dL_areRead_42 : decode cL_areRead 42 = .ok (.iload 6, 2) := by decide +kernel
theorem dL_areRead_44 : decode cL_areRead 44 = .ok (.invokevirtual 84, 3) := by decide +kernel
theorem dL_areRead_47 : decode cL_areRead 47 = .ok (.bastore, 1) := by decide +kernel
theorem dL_areRead_48 : decode cL_areRead 48 = .ok (.iload_n 2, 1) := by decide +kernel
theorem dL_areRead_49 : decode cL_areRead 49 = .ok (.aload_n 0, 1) := by decide +kernel
theorem dL_areRead_50 : decode cL_areRead 50 = .ok (.getfield 16, 3) := by decide +kernel
theorem dL_areRead_53 : decode cL_areRead 53 = .ok (.sipush 1024, 3) := by decide +kernel
theorem dL_areRead_56 : decode cL_areRead 56 = .ok (.iload_n 1, 1) := by decide +kernel
theorem dL_areRead_57 : decode cL_areRead 57 = .ok (.imul, 1) := by decide +kernel
theorem dL_areRead_58 : decode cL_areRead 58 = .ok (.iload 6, 2) := by decide +kernel
theorem dL_areRead_60 : decode cL_areRead 60 = .ok (.iadd, 1) := by decide +kernel
theorem dL_areRead_61 : decode cL_areRead 61 = .ok (.baload, 1) := by decide +kernel
theorem dL_areRead_62 : decode cL_areRead 62 = .ok (.ifCond .eq 7, 3) := by decide +kernel
theorem dL_areRead_65 : decode cL_areRead 65 = .ok (.iconst 1, 1) := by decide +kernel
theorem dL_areRead_66 : decode cL_areRead 66 = .ok (.goto 4, 3) := by decide +kernel
theorem dL_areRead_69 : decode cL_areRead 69 = .ok (.iconst 0, 1) := by decide +kernel
theorem dL_areRead_70 : decode cL_areRead 70 = .ok (.iadd, 1) := by decide +kernel
theorem dL_areRead_71 : decode cL_areRead 71 = .ok (.istore_n 2, 1) := by decide +kernel
theorem dL_areRead_72 : decode cL_areRead 72 = .ok (.lload 4, 2) := by decide +kernel
theorem dL_areRead_74 : decode cL_areRead 74 = .ok (.aload_n 0, 1) := by decide +kernel
theorem dL_areRead_75 : decode cL_areRead 75 = .ok (.getfield 16, 3) := by decide +kernel
theorem dL_areRead_78 : decode cL_areRead 78 = .ok (.sipush 1024, 3) := by decide +kernel
theorem dL_areRead_81 : decode cL_areRead 81 = .ok (.iload_n 1, 1) := by decide +kernel
theorem dL_areRead_82 : decode cL_areRead 82 = .ok (.imul, 1) := by decide +kernel
theorem dL_areRead_83 : decode cL_areRead 83 = .ok (.iload 6, 2) := by decide +kernel
theorem dL_areRead_85 : decode cL_areRead 85 = .ok (.iadd, 1) := by decide +kernel
theorem dL_areRead_86 : decode cL_areRead 86 = .ok (.baload, 1) := by decide +kernel
theorem dL_areRead_87 : decode cL_areRead 87 = .ok (.ifCond .eq 9, 3) := by decide +kernel
theorem dL_areRead_90 : decode cL_areRead 90 = .ok (.iload 6, 2) := by decide +kernel
theorem dL_areRead_92 : decode cL_areRead 92 = .ok (.i2l, 1) := by decide +kernel
theorem dL_areRead_93 : decode cL_areRead 93 = .ok (.goto 4, 3) := by decide +kernel
theorem dL_areRead_96 : decode cL_areRead 96 = .ok (.lconst 0, 1) := by decide +kernel
theorem dL_areRead_97 : decode cL_areRead 97 = .ok (.ladd, 1) := by decide +kernel
theorem dL_areRead_98 : decode cL_areRead 98 = .ok (.lstore 4, 2) := by decide +kernel
theorem dL_areRead_100 : decode cL_areRead 100 = .ok (.iload_n 3, 1) := by decide +kernel
theorem dL_areRead_101 : decode cL_areRead 101 = .ok (.aload_n 0, 1) := by decide +kernel
theorem dL_areRead_102 : decode cL_areRead 102 = .ok (.getfield 16, 3) := by decide +kernel
theorem dL_areRead_105 : decode cL_areRead 105 = .ok (.sipush 1024, 3) := by decide +kernel
theorem dL_areRead_108 : decode cL_areRead 108 = .ok (.iload_n 1, 1) := by decide +kernel
theorem dL_areRead_109 : decode cL_areRead 109 = .ok (.imul, 1) := by decide +kernel
theorem dL_areRead_110 : decode cL_areRead 110 = .ok (.iload 6, 2) := by decide +kernel
theorem dL_areRead_112 : decode cL_areRead 112 = .ok (.iadd, 1) := by decide +kernel
theorem dL_areRead_113 : decode cL_areRead 113 = .ok (.baload, 1) := by decide +kernel
theorem dL_areRead_114 : decode cL_areRead 114 = .ok (.ifCond .eq 30, 3) := by decide +kernel
theorem dL_areRead_117 : decode cL_areRead 117 = .ok (.iload 6, 2) := by decide +kernel
theorem dL_areRead_119 : decode cL_areRead 119 = .ok (.ifCond .eq 21, 3) := by decide +kernel
theorem dL_areRead_122 : decode cL_areRead 122 = .ok (.aload_n 0, 1) := by decide +kernel
theorem dL_areRead_123 : decode cL_areRead 123 = .ok (.getfield 16, 3) := by decide +kernel
theorem dL_areRead_126 : decode cL_areRead 126 = .ok (.sipush 1024, 3) := by decide +kernel
theorem dL_areRead_129 : decode cL_areRead 129 = .ok (.iload_n 1, 1) := by decide +kernel
theorem dL_areRead_130 : decode cL_areRead 130 = .ok (.imul, 1) := by decide +kernel
theorem dL_areRead_131 : decode cL_areRead 131 = .ok (.iload 6, 2) := by decide +kernel
theorem dL_areRead_133 : decode cL_areRead 133 = .ok (.iadd, 1) := by decide +kernel
theorem dL_areRead_134 : decode cL_areRead 134 = .ok (.iconst 1, 1) := by decide +kernel
theorem dL_areRead_135 : decode cL_areRead 135 = .ok (.isub, 1) := by decide +kernel
theorem dL_areRead_136 : decode cL_areRead 136 = .ok (.baload, 1) := by decide +kernel
theorem dL_areRead_137 : decode cL_areRead 137 = .ok (.ifCond .ne 7, 3) := by decide +kernel
theorem dL_areRead_140 : decode cL_areRead 140 = .ok (.iconst 1, 1) := by decide +kernel
theorem dL_areRead_141 : decode cL_areRead 141 = .ok (.goto 4, 3) := by decide +kernel
theorem dL_areRead_144 : decode cL_areRead 144 = .ok (.iconst 0, 1) := by decide +kernel
theorem dL_areRead_145 : decode cL_areRead 145 = .ok (.iadd, 1) := by decide +kernel
theorem dL_areRead_146 : decode cL_areRead 146 = .ok (.istore_n 3, 1) := by decide +kernel
theorem dL_areRead_147 : decode cL_areRead 147 = .ok (.iinc 6 1, 3) := by decide +kernel
theorem dL_areRead_150 : decode cL_areRead 150 = .ok (.goto (-133), 3) := by decide +kernel
theorem dL_areRead_153 : decode cL_areRead 153 = .ok (.aload_n 0, 1) := by decide +kernel
theorem dL_areRead_154 : decode cL_areRead 154 = .ok (.getfield 10, 3) := by decide +kernel
theorem dL_areRead_157 : decode cL_areRead 157 = .ok (.iload_n 1, 1) := by decide +kernel
theorem dL_areRead_158 : decode cL_areRead 158 = .ok (.invokevirtual 86, 3) := by decide +kernel
theorem dL_areRead_161 : decode cL_areRead 161 = .ok (.iload_n 2, 1) := by decide +kernel
theorem dL_areRead_162 : decode cL_areRead 162 = .ok (.if_icmp .ne 74, 3) := by decide +kernel
theorem dL_areRead_165 : decode cL_areRead 165 = .ok (.aload_n 0, 1) := by decide +kernel
theorem dL_areRead_166 : decode cL_areRead 166 = .ok (.getfield 10, 3) := by decide +kernel
theorem dL_areRead_169 : decode cL_areRead 169 = .ok (.iload_n 1, 1) := by decide +kernel
theorem dL_areRead_170 : decode cL_areRead 170 = .ok (.invokevirtual 89, 3) := by decide +kernel
theorem dL_areRead_173 : decode cL_areRead 173 = .ok (.lload 4, 2) := by decide +kernel
theorem dL_areRead_175 : decode cL_areRead 175 = .ok (.lcmp, 1) := by decide +kernel
theorem dL_areRead_176 : decode cL_areRead 176 = .ok (.ifCond .ne 60, 3) := by decide +kernel
theorem dL_areRead_179 : decode cL_areRead 179 = .ok (.aload_n 0, 1) := by decide +kernel
theorem dL_areRead_180 : decode cL_areRead 180 = .ok (.getfield 10, 3) := by decide +kernel
theorem dL_areRead_183 : decode cL_areRead 183 = .ok (.iload_n 1, 1) := by decide +kernel
theorem dL_areRead_184 : decode cL_areRead 184 = .ok (.invokevirtual 93, 3) := by decide +kernel
theorem dL_areRead_187 : decode cL_areRead 187 = .ok (.iload_n 3, 1) := by decide +kernel
theorem dL_areRead_188 : decode cL_areRead 188 = .ok (.if_icmp .ne 48, 3) := by decide +kernel
theorem dL_areRead_191 : decode cL_areRead 191 = .ok (.aload_n 0, 1) := by decide +kernel
theorem dL_areRead_192 : decode cL_areRead 192 = .ok (.getfield 10, 3) := by decide +kernel
theorem dL_areRead_195 : decode cL_areRead 195 = .ok (.iload_n 1, 1) := by decide +kernel
theorem dL_areRead_196 : decode cL_areRead 196 = .ok (.invokevirtual 96, 3) := by decide +kernel
theorem dL_areRead_199 : decode cL_areRead 199 = .ok (.iload_n 2, 1) := by decide +kernel
theorem dL_areRead_200 : decode cL_areRead 200 = .ok (.ifCond .ne 7, 3) := by decide +kernel
theorem dL_areRead_203 : decode cL_areRead 203 = .ok (.iconst 1, 1) := by decide +kernel
theorem dL_areRead_204 : decode cL_areRead 204 = .ok (.goto 4, 3) := by decide +kernel
theorem dL_areRead_207 : decode cL_areRead 207 = .ok (.iconst 0, 1) := by decide +kernel
theorem dL_areRead_208 : decode cL_areRead 208 = .ok (.if_icmp .ne 28, 3) := by decide +kernel
theorem dL_areRead_211 : decode cL_areRead 211 = .ok (.aload_n 0, 1) := by decide +kernel
theorem dL_areRead_212 : decode cL_areRead 212 = .ok (.getfield 10, 3) := by decide +kernel
theorem dL_areRead_215 : decode cL_areRead 215 = .ok (.iload_n 1, 1) := by decide +kernel
theorem dL_areRead_216 : decode cL_areRead 216 = .ok (.sipush 1024, 3) := by decide +kernel
theorem dL_areRead_219 : decode cL_areRead 219 = .ok (.invokevirtual 84, 3) := by decide +kernel
theorem dL_areRead_222 : decode cL_areRead 222 = .ok (.ifCond .ne 14, 3) := by decide +kernel
theorem dL_areRead_225 : decode cL_areRead 225 = .ok (.aload_n 0, 1) := by decide +kernel
theorem dL_areRead_226 : decode cL_areRead 226 = .ok (.getfield 10, 3) := by decide +kernel
theorem dL_areRead_229 : decode cL_areRead 229 = .ok (.iload_n 1, 1) := by decide +kernel
theorem dL_areRead_230 : decode cL_areRead 230 = .ok (.invokevirtual 100, 3) := by decide +kernel
theorem dL_areRead_233 : decode cL_areRead 233 = .ok (.ifCond .ne 5, 3) := by decide +kernel
theorem dL_areRead_236 : decode cL_areRead 236 = .ok (.iconst 0, 1) := by decide +kernel
theorem dL_areRead_237 : decode cL_areRead 237 = .ok (.ireturn, 1) := by decide +kernel
theorem dL_areRead_238 : decode cL_areRead 238 = .ok (.iinc 1 1, 3) := by decide +kernel
theorem dL_areRead_241 : decode cL_areRead 241 = .ok (.goto (-239), 3) := by decide +kernel
theorem dL_areRead_244 : decode cL_areRead 244 = .ok (.iconst 1, 1) := by decide +kernel
theorem dL_areRead_245 : decode cL_areRead 245 = .ok (.ireturn, 1) := by decide +kernel
theorem dL_isMade_0 : decode cL_isMade 0 = .ok (.iconst 0, 1) := by decide +kernel
theorem dL_isMade_1 : decode cL_isMade 1 = .ok (.istore_n 3, 1) := by decide +kernel
theorem dL_isMade_2 : decode cL_isMade 2 = .ok (.iload_n 3, 1) := by decide +kernel
theorem dL_isMade_3 : decode cL_isMade 3 = .ok (.sipush 1024, 3) := by decide +kernel
theorem dL_isMade_6 : decode cL_isMade 6 = .ok (.if_icmp .ge 163, 3) := by decide +kernel
theorem dL_isMade_9 : decode cL_isMade 9 = .ok (.aload_n 0, 1) := by decide +kernel
theorem dL_isMade_10 : decode cL_isMade 10 = .ok (.getfield 16, 3) := by decide +kernel
theorem dL_isMade_13 : decode cL_isMade 13 = .ok (.iconst 0, 1) := by decide +kernel
theorem dL_isMade_14 : decode cL_isMade 14 = .ok (.iload_n 3, 1) := by decide +kernel
theorem dL_isMade_15 : decode cL_isMade 15 = .ok (.iadd, 1) := by decide +kernel
theorem dL_isMade_16 : decode cL_isMade 16 = .ok (.baload, 1) := by decide +kernel
theorem dL_isMade_17 : decode cL_isMade 17 = .ok (.istore 4, 2) := by decide +kernel
theorem dL_isMade_19 : decode cL_isMade 19 = .ok (.aload_n 0, 1) := by decide +kernel
theorem dL_isMade_20 : decode cL_isMade 20 = .ok (.getfield 16, 3) := by decide +kernel
theorem dL_isMade_23 : decode cL_isMade 23 = .ok (.sipush 1024, 3) := by decide +kernel
theorem dL_isMade_26 : decode cL_isMade 26 = .ok (.iload_n 3, 1) := by decide +kernel
theorem dL_isMade_27 : decode cL_isMade 27 = .ok (.iadd, 1) := by decide +kernel
theorem dL_isMade_28 : decode cL_isMade 28 = .ok (.baload, 1) := by decide +kernel
theorem dL_isMade_29 : decode cL_isMade 29 = .ok (.istore 5, 2) := by decide +kernel
theorem dL_isMade_31 : decode cL_isMade 31 = .ok (.iload_n 2, 1) := by decide +kernel
theorem dL_isMade_32 : decode cL_isMade 32 = .ok (.bipush 38, 2) := by decide +kernel
theorem dL_isMade_34 : decode cL_isMade 34 = .ok (.if_icmp .ne 21, 3) := by decide +kernel
theorem dL_isMade_37 : decode cL_isMade 37 = .ok (.iload 4, 2) := by decide +kernel
theorem dL_isMade_39 : decode cL_isMade 39 = .ok (.ifCond .eq 12, 3) := by decide +kernel
theorem dL_isMade_42 : decode cL_isMade 42 = .ok (.iload 5, 2) := by decide +kernel
theorem dL_isMade_44 : decode cL_isMade 44 = .ok (.ifCond .eq 7, 3) := by decide +kernel
theorem dL_isMade_47 : decode cL_isMade 47 = .ok (.iconst 1, 1) := by decide +kernel
theorem dL_isMade_48 : decode cL_isMade 48 = .ok (.goto 97, 3) := by decide +kernel
theorem dL_isMade_51 : decode cL_isMade 51 = .ok (.iconst 0, 1) := by decide +kernel
theorem dL_isMade_52 : decode cL_isMade 52 = .ok (.goto 93, 3) := by decide +kernel
theorem dL_isMade_55 : decode cL_isMade 55 = .ok (.iload_n 2, 1) := by decide +kernel
theorem dL_isMade_56 : decode cL_isMade 56 = .ok (.bipush 124, 2) := by decide +kernel
theorem dL_isMade_58 : decode cL_isMade 58 = .ok (.if_icmp .ne 21, 3) := by decide +kernel
theorem dL_isMade_61 : decode cL_isMade 61 = .ok (.iload 4, 2) := by decide +kernel
theorem dL_isMade_63 : decode cL_isMade 63 = .ok (.ifCond .ne 8, 3) := by decide +kernel
theorem dL_isMade_66 : decode cL_isMade 66 = .ok (.iload 5, 2) := by decide +kernel
theorem dL_isMade_68 : decode cL_isMade 68 = .ok (.ifCond .eq 7, 3) := by decide +kernel
theorem dL_isMade_71 : decode cL_isMade 71 = .ok (.iconst 1, 1) := by decide +kernel
theorem dL_isMade_72 : decode cL_isMade 72 = .ok (.goto 73, 3) := by decide +kernel
theorem dL_isMade_75 : decode cL_isMade 75 = .ok (.iconst 0, 1) := by decide +kernel
theorem dL_isMade_76 : decode cL_isMade 76 = .ok (.goto 69, 3) := by decide +kernel
theorem dL_isMade_79 : decode cL_isMade 79 = .ok (.iload_n 2, 1) := by decide +kernel
theorem dL_isMade_80 : decode cL_isMade 80 = .ok (.bipush 126, 2) := by decide +kernel
theorem dL_isMade_82 : decode cL_isMade 82 = .ok (.if_icmp .ne 18, 3) := by decide +kernel
theorem dL_isMade_85 : decode cL_isMade 85 = .ok (.iload 4, 2) := by decide +kernel
theorem dL_isMade_87 : decode cL_isMade 87 = .ok (.iload 5, 2) := by decide +kernel
theorem dL_isMade_89 : decode cL_isMade 89 = .ok (.if_icmp .eq 7, 3) := by decide +kernel
theorem dL_isMade_92 : decode cL_isMade 92 = .ok (.iconst 1, 1) := by decide +kernel
theorem dL_isMade_93 : decode cL_isMade 93 = .ok (.goto 52, 3) := by decide +kernel
theorem dL_isMade_96 : decode cL_isMade 96 = .ok (.iconst 0, 1) := by decide +kernel
theorem dL_isMade_97 : decode cL_isMade 97 = .ok (.goto 48, 3) := by decide +kernel
theorem dL_isMade_100 : decode cL_isMade 100 = .ok (.iload_n 2, 1) := by decide +kernel
theorem dL_isMade_101 : decode cL_isMade 101 = .ok (.bipush 33, 2) := by decide +kernel
theorem dL_isMade_103 : decode cL_isMade 103 = .ok (.if_icmp .ne 21, 3) := by decide +kernel
theorem dL_isMade_106 : decode cL_isMade 106 = .ok (.iload 4, 2) := by decide +kernel
theorem dL_isMade_108 : decode cL_isMade 108 = .ok (.ifCond .eq 12, 3) := by decide +kernel
theorem dL_isMade_111 : decode cL_isMade 111 = .ok (.iload 5, 2) := by decide +kernel
theorem dL_isMade_113 : decode cL_isMade 113 = .ok (.ifCond .ne 7, 3) := by decide +kernel
theorem dL_isMade_116 : decode cL_isMade 116 = .ok (.iconst 1, 1) := by decide +kernel
theorem dL_isMade_117 : decode cL_isMade 117 = .ok (.goto 28, 3) := by decide +kernel
theorem dL_isMade_120 : decode cL_isMade 120 = .ok (.iconst 0, 1) := by decide +kernel
theorem dL_isMade_121 : decode cL_isMade 121 = .ok (.goto 24, 3) := by decide +kernel
theorem dL_isMade_124 : decode cL_isMade 124 = .ok (.iload_n 2, 1) := by decide +kernel
theorem dL_isMade_125 : decode cL_isMade 125 = .ok (.bipush 45, 2) := by decide +kernel
theorem dL_isMade_127 : decode cL_isMade 127 = .ok (.if_icmp .ne 16, 3) := by decide +kernel
theorem dL_isMade_130 : decode cL_isMade 130 = .ok (.iload 4, 2) := by decide +kernel
theorem dL_isMade_132 : decode cL_isMade 132 = .ok (.ifCond .ne 7, 3) := by decide +kernel
theorem dL_isMade_135 : decode cL_isMade 135 = .ok (.iconst 1, 1) := by decide +kernel
theorem dL_isMade_136 : decode cL_isMade 136 = .ok (.goto 9, 3) := by decide +kernel
theorem dL_isMade_139 : decode cL_isMade 139 = .ok (.iconst 0, 1) := by decide +kernel
theorem dL_isMade_140 : decode cL_isMade 140 = .ok (.goto 5, 3) := by decide +kernel
theorem dL_isMade_143 : decode cL_isMade 143 = .ok (.iload 4, 2) := by decide +kernel
theorem dL_isMade_145 : decode cL_isMade 145 = .ok (.istore 6, 2) := by decide +kernel
theorem dL_isMade_147 : decode cL_isMade 147 = .ok (.aload_n 0, 1) := by decide +kernel
theorem dL_isMade_148 : decode cL_isMade 148 = .ok (.getfield 10, 3) := by decide +kernel
theorem dL_isMade_151 : decode cL_isMade 151 = .ok (.iload_n 1, 1) := by decide +kernel
theorem dL_isMade_152 : decode cL_isMade 152 = .ok (.iload_n 3, 1) := by decide +kernel
theorem dL_isMade_153 : decode cL_isMade 153 = .ok (.invokevirtual 84, 3) := by decide +kernel
theorem dL_isMade_156 : decode cL_isMade 156 = .ok (.iload 6, 2) := by decide +kernel
theorem dL_isMade_158 : decode cL_isMade 158 = .ok (.if_icmp .eq 5, 3) := by decide +kernel
theorem dL_isMade_161 : decode cL_isMade 161 = .ok (.iconst 0, 1) := by decide +kernel
theorem dL_isMade_162 : decode cL_isMade 162 = .ok (.ireturn, 1) := by decide +kernel
theorem dL_isMade_163 : decode cL_isMade 163 = .ok (.iinc 3 1, 3) := by decide +kernel
theorem dL_isMade_166 : decode cL_isMade 166 = .ok (.goto (-164), 3) := by decide +kernel
theorem dL_isMade_169 : decode cL_isMade 169 = .ok (.iconst 1, 1) := by decide +kernel
theorem dL_isMade_170 : decode cL_isMade 170 = .ok (.ireturn, 1) := by decide +kernel
theorem dL_copies_0 : decode cL_copies 0 = .ok (.aload_n 0, 1) := by decide +kernel
theorem dL_copies_1 : decode cL_copies 1 = .ok (.getfield 10, 3) := by decide +kernel
theorem dL_copies_4 : decode cL_copies 4 = .ok (.iload_n 1, 1) := by decide +kernel
theorem dL_copies_5 : decode cL_copies 5 = .ok (.iload_n 2, 1) := by decide +kernel
theorem dL_copies_6 : decode cL_copies 6 = .ok (.invokevirtual 103, 3) := by decide +kernel
theorem dL_copies_9 : decode cL_copies 9 = .ok (.pop, 1) := by decide +kernel
theorem dL_copies_10 : decode cL_copies 10 = .ok (.iload_n 3, 1) := by decide +kernel
theorem dL_copies_11 : decode cL_copies 11 = .ok (.ifCond .eq 16, 3) := by decide +kernel
theorem dL_copies_14 : decode cL_copies 14 = .ok (.aload_n 0, 1) := by decide +kernel
theorem dL_copies_15 : decode cL_copies 15 = .ok (.getfield 10, 3) := by decide +kernel
theorem dL_copies_18 : decode cL_copies 18 = .ok (.iload_n 1, 1) := by decide +kernel
theorem dL_copies_19 : decode cL_copies 19 = .ok (.iconst 0, 1) := by decide +kernel
theorem dL_copies_20 : decode cL_copies 20 = .ok (.sipush 1024, 3) := by decide +kernel
theorem dL_copies_23 : decode cL_copies 23 = .ok (.invokevirtual 49, 3) := by decide +kernel
theorem dL_copies_26 : decode cL_copies 26 = .ok (.pop, 1) := by decide +kernel
theorem dL_copies_27 : decode cL_copies 27 = .ok (.return_, 1) := by decide +kernel
theorem dL_areMissing_0 : decode cL_areMissing 0 = .ok (.aload_n 0, 1) := by decide +kernel
theorem dL_areMissing_1 : decode cL_areMissing 1 = .ok (.iconst 5, 1) := by decide +kernel
theorem dL_areMissing_2 : decode cL_areMissing 2 = .ok (.iconst 0, 1) := by decide +kernel
theorem dL_areMissing_3 : decode cL_areMissing 3 = .ok (.iconst 0, 1) := by decide +kernel
theorem dL_areMissing_4 : decode cL_areMissing 4 = .ok (.invokevirtual 106, 3) := by decide +kernel
theorem dL_areMissing_7 : decode cL_areMissing 7 = .ok (.iload_n 1, 1) := by decide +kernel
theorem dL_areMissing_8 : decode cL_areMissing 8 = .ok (.ifCond .eq 15, 3) := by decide +kernel
theorem dL_areMissing_11 : decode cL_areMissing 11 = .ok (.aload_n 0, 1) := by decide +kernel
theorem dL_areMissing_12 : decode cL_areMissing 12 = .ok (.getfield 10, 3) := by decide +kernel
theorem dL_areMissing_15 : decode cL_areMissing 15 = .ok (.iconst 5, 1) := by decide +kernel
theorem dL_areMissing_16 : decode cL_areMissing 16 = .ok (.iconst 1, 1) := by decide +kernel
theorem dL_areMissing_17 : decode cL_areMissing 17 = .ok (.invokevirtual 110, 3) := by decide +kernel
theorem dL_areMissing_20 : decode cL_areMissing 20 = .ok (.goto 12, 3) := by decide +kernel
theorem dL_areMissing_23 : decode cL_areMissing 23 = .ok (.aload_n 0, 1) := by decide +kernel
theorem dL_areMissing_24 : decode cL_areMissing 24 = .ok (.getfield 10, 3) := by decide +kernel
theorem dL_areMissing_27 : decode cL_areMissing 27 = .ok (.iconst 5, 1) := by decide +kernel
theorem dL_areMissing_28 : decode cL_areMissing 28 = .ok (.iconst 1, 1) := by decide +kernel
theorem dL_areMissing_29 : decode cL_areMissing 29 = .ok (.invokevirtual 113, 3) := by decide +kernel
theorem dL_areMissing_32 : decode cL_areMissing 32 = .ok (.istore_n 2, 1) := by decide +kernel
theorem dL_areMissing_33 : decode cL_areMissing 33 = .ok (.iload_n 2, 1) := by decide +kernel
theorem dL_areMissing_34 : decode cL_areMissing 34 = .ok (.aload_n 0, 1) := by decide +kernel
theorem dL_areMissing_35 : decode cL_areMissing 35 = .ok (.getfield 10, 3) := by decide +kernel
theorem dL_areMissing_38 : decode cL_areMissing 38 = .ok (.iconst 5, 1) := by decide +kernel
theorem dL_areMissing_39 : decode cL_areMissing 39 = .ok (.invokevirtual 86, 3) := by decide +kernel
theorem dL_areMissing_42 : decode cL_areMissing 42 = .ok (.if_icmp .ne 42, 3) := by decide +kernel
theorem dL_areMissing_45 : decode cL_areMissing 45 = .ok (.aload_n 0, 1) := by decide +kernel
theorem dL_areMissing_46 : decode cL_areMissing 46 = .ok (.iconst 5, 1) := by decide +kernel
theorem dL_areMissing_47 : decode cL_areMissing 47 = .ok (.iload_n 1, 1) := by decide +kernel
theorem dL_areMissing_48 : decode cL_areMissing 48 = .ok (.ifCond .eq 8, 3) := by decide +kernel
theorem dL_areMissing_51 : decode cL_areMissing 51 = .ok (.bipush 124, 2) := by decide +kernel
theorem dL_areMissing_53 : decode cL_areMissing 53 = .ok (.goto 5, 3) := by decide +kernel
theorem dL_areMissing_56 : decode cL_areMissing 56 = .ok (.bipush 38, 2) := by decide +kernel
theorem dL_areMissing_58 : decode cL_areMissing 58 = .ok (.invokevirtual 116, 3) := by decide +kernel
theorem dL_areMissing_61 : decode cL_areMissing 61 = .ok (.ifCond .eq 23, 3) := by decide +kernel
theorem dL_areMissing_64 : decode cL_areMissing 64 = .ok (.aload_n 0, 1) := by decide +kernel
theorem dL_areMissing_65 : decode cL_areMissing 65 = .ok (.getfield 10, 3) := by decide +kernel
theorem dL_areMissing_68 : decode cL_areMissing 68 = .ok (.iconst 5, 1) := by decide +kernel
theorem dL_areMissing_69 : decode cL_areMissing 69 = .ok (.iconst 0, 1) := by decide +kernel
theorem dL_areMissing_70 : decode cL_areMissing 70 = .ok (.sipush 1024, 3) := by decide +kernel
theorem dL_areMissing_73 : decode cL_areMissing 73 = .ok (.invokevirtual 49, 3) := by decide +kernel
theorem dL_areMissing_76 : decode cL_areMissing 76 = .ok (.sipush 1024, 3) := by decide +kernel
theorem dL_areMissing_79 : decode cL_areMissing 79 = .ok (.iload_n 2, 1) := by decide +kernel
theorem dL_areMissing_80 : decode cL_areMissing 80 = .ok (.isub, 1) := by decide +kernel
theorem dL_areMissing_81 : decode cL_areMissing 81 = .ok (.if_icmp .eq 5, 3) := by decide +kernel
theorem dL_areMissing_84 : decode cL_areMissing 84 = .ok (.iconst 0, 1) := by decide +kernel
theorem dL_areMissing_85 : decode cL_areMissing 85 = .ok (.ireturn, 1) := by decide +kernel
theorem dL_areMissing_86 : decode cL_areMissing 86 = .ok (.aload_n 0, 1) := by decide +kernel
theorem dL_areMissing_87 : decode cL_areMissing 87 = .ok (.bipush 6, 2) := by decide +kernel
theorem dL_areMissing_89 : decode cL_areMissing 89 = .ok (.iconst 0, 1) := by decide +kernel
theorem dL_areMissing_90 : decode cL_areMissing 90 = .ok (.iconst 1, 1) := by decide +kernel
theorem dL_areMissing_91 : decode cL_areMissing 91 = .ok (.invokevirtual 106, 3) := by decide +kernel
theorem dL_areMissing_94 : decode cL_areMissing 94 = .ok (.aload_n 0, 1) := by decide +kernel
theorem dL_areMissing_95 : decode cL_areMissing 95 = .ok (.bipush 6, 2) := by decide +kernel
theorem dL_areMissing_97 : decode cL_areMissing 97 = .ok (.bipush 45, 2) := by decide +kernel
theorem dL_areMissing_99 : decode cL_areMissing 99 = .ok (.invokevirtual 116, 3) := by decide +kernel
theorem dL_areMissing_102 : decode cL_areMissing 102 = .ok (.ifCond .ne 5, 3) := by decide +kernel
theorem dL_areMissing_105 : decode cL_areMissing 105 = .ok (.iconst 0, 1) := by decide +kernel
theorem dL_areMissing_106 : decode cL_areMissing 106 = .ok (.ireturn, 1) := by decide +kernel
theorem dL_areMissing_107 : decode cL_areMissing 107 = .ok (.aload_n 0, 1) := by decide +kernel
theorem dL_areMissing_108 : decode cL_areMissing 108 = .ok (.bipush 7, 2) := by decide +kernel
theorem dL_areMissing_110 : decode cL_areMissing 110 = .ok (.iconst 1, 1) := by decide +kernel
theorem dL_areMissing_111 : decode cL_areMissing 111 = .ok (.iconst 1, 1) := by decide +kernel
theorem dL_areMissing_112 : decode cL_areMissing 112 = .ok (.invokevirtual 106, 3) := by decide +kernel
theorem dL_areMissing_115 : decode cL_areMissing 115 = .ok (.iload_n 1, 1) := by decide +kernel
theorem dL_areMissing_116 : decode cL_areMissing 116 = .ok (.ifCond .eq 17, 3) := by decide +kernel
theorem dL_areMissing_119 : decode cL_areMissing 119 = .ok (.aload_n 0, 1) := by decide +kernel
theorem dL_areMissing_120 : decode cL_areMissing 120 = .ok (.getfield 10, 3) := by decide +kernel
theorem dL_areMissing_123 : decode cL_areMissing 123 = .ok (.bipush 6, 2) := by decide +kernel
theorem dL_areMissing_125 : decode cL_areMissing 125 = .ok (.bipush 7, 2) := by decide +kernel
theorem dL_areMissing_127 : decode cL_areMissing 127 = .ok (.invokevirtual 113, 3) := by decide +kernel
theorem dL_areMissing_130 : decode cL_areMissing 130 = .ok (.goto 14, 3) := by decide +kernel
theorem dL_areMissing_133 : decode cL_areMissing 133 = .ok (.aload_n 0, 1) := by decide +kernel
theorem dL_areMissing_134 : decode cL_areMissing 134 = .ok (.getfield 10, 3) := by decide +kernel
theorem dL_areMissing_137 : decode cL_areMissing 137 = .ok (.bipush 6, 2) := by decide +kernel
theorem dL_areMissing_139 : decode cL_areMissing 139 = .ok (.bipush 7, 2) := by decide +kernel
theorem dL_areMissing_141 : decode cL_areMissing 141 = .ok (.invokevirtual 110, 3) := by decide +kernel
theorem dL_areMissing_144 : decode cL_areMissing 144 = .ok (.istore_n 3, 1) := by decide +kernel
theorem dL_areMissing_145 : decode cL_areMissing 145 = .ok (.iload_n 3, 1) := by decide +kernel
theorem dL_areMissing_146 : decode cL_areMissing 146 = .ok (.sipush 1024, 3) := by decide +kernel
theorem dL_areMissing_149 : decode cL_areMissing 149 = .ok (.iload_n 2, 1) := by decide +kernel
theorem dL_areMissing_150 : decode cL_areMissing 150 = .ok (.isub, 1) := by decide +kernel
theorem dL_areMissing_151 : decode cL_areMissing 151 = .ok (.if_icmp .ne 53, 3) := by decide +kernel
theorem dL_areMissing_154 : decode cL_areMissing 154 = .ok (.aload_n 0, 1) := by decide +kernel
theorem dL_areMissing_155 : decode cL_areMissing 155 = .ok (.getfield 10, 3) := by decide +kernel
theorem dL_areMissing_158 : decode cL_areMissing 158 = .ok (.iconst 5, 1) := by decide +kernel
theorem dL_areMissing_159 : decode cL_areMissing 159 = .ok (.bipush 6, 2) := by decide +kernel
theorem dL_areMissing_161 : decode cL_areMissing 161 = .ok (.invokevirtual 119, 3) := by decide +kernel
theorem dL_areMissing_164 : decode cL_areMissing 164 = .ok (.ifCond .eq 40, 3) := by decide +kernel
theorem dL_areMissing_167 : decode cL_areMissing 167 = .ok (.aload_n 0, 1) := by decide +kernel
theorem dL_areMissing_168 : decode cL_areMissing 168 = .ok (.getfield 10, 3) := by decide +kernel
theorem dL_areMissing_171 : decode cL_areMissing 171 = .ok (.bipush 6, 2) := by decide +kernel
theorem dL_areMissing_173 : decode cL_areMissing 173 = .ok (.iconst 5, 1) := by decide +kernel
theorem dL_areMissing_174 : decode cL_areMissing 174 = .ok (.invokevirtual 119, 3) := by decide +kernel
theorem dL_areMissing_177 : decode cL_areMissing 177 = .ok (.ifCond .eq 27, 3) := by decide +kernel
theorem dL_areMissing_180 : decode cL_areMissing 180 = .ok (.aload_n 0, 1) := by decide +kernel
theorem dL_areMissing_181 : decode cL_areMissing 181 = .ok (.getfield 10, 3) := by decide +kernel
theorem dL_areMissing_184 : decode cL_areMissing 184 = .ok (.iconst 5, 1) := by decide +kernel
theorem dL_areMissing_185 : decode cL_areMissing 185 = .ok (.invokevirtual 122, 3) := by decide +kernel
theorem dL_areMissing_188 : decode cL_areMissing 188 = .ok (.aload_n 0, 1) := by decide +kernel
theorem dL_areMissing_189 : decode cL_areMissing 189 = .ok (.getfield 10, 3) := by decide +kernel
theorem dL_areMissing_192 : decode cL_areMissing 192 = .ok (.bipush 6, 2) := by decide +kernel
theorem dL_areMissing_194 : decode cL_areMissing 194 = .ok (.invokevirtual 122, 3) := by decide +kernel
theorem dL_areMissing_197 : decode cL_areMissing 197 = .ok (.if_icmp .ne 7, 3) := by decide +kernel
theorem dL_areMissing_200 : decode cL_areMissing 200 = .ok (.iconst 1, 1) := by decide +kernel
theorem dL_areMissing_201 : decode cL_areMissing 201 = .ok (.goto 4, 3) := by decide +kernel
theorem dL_areMissing_204 : decode cL_areMissing 204 = .ok (.iconst 0, 1) := by decide +kernel
theorem dL_areMissing_205 : decode cL_areMissing 205 = .ok (.ireturn, 1) := by decide +kernel
theorem dL_areDistributed_0 : decode cL_areDistributed 0 = .ok (.aload_n 0, 1) := by decide +kernel
theorem dL_areDistributed_1 : decode cL_areDistributed 1 = .ok (.iconst 5, 1) := by decide +kernel
theorem dL_areDistributed_2 : decode cL_areDistributed 2 = .ok (.iconst 1, 1) := by decide +kernel
theorem dL_areDistributed_3 : decode cL_areDistributed 3 = .ok (.iconst 0, 1) := by decide +kernel
theorem dL_areDistributed_4 : decode cL_areDistributed 4 = .ok (.invokevirtual 106, 3) := by decide +kernel
theorem dL_areDistributed_7 : decode cL_areDistributed 7 = .ok (.iload_n 1, 1) := by decide +kernel
theorem dL_areDistributed_8 : decode cL_areDistributed 8 = .ok (.ifCond .eq 15, 3) := by decide +kernel
theorem dL_areDistributed_11 : decode cL_areDistributed 11 = .ok (.aload_n 0, 1) := by decide +kernel
theorem dL_areDistributed_12 : decode cL_areDistributed 12 = .ok (.getfield 10, 3) := by decide +kernel
theorem dL_areDistributed_15 : decode cL_areDistributed 15 = .ok (.iconst 5, 1) := by decide +kernel
theorem dL_areDistributed_16 : decode cL_areDistributed 16 = .ok (.iconst 2, 1) := by decide +kernel
theorem dL_areDistributed_17 : decode cL_areDistributed 17 = .ok (.invokevirtual 113, 3) := by decide +kernel
theorem dL_areDistributed_20 : decode cL_areDistributed 20 = .ok (.goto 12, 3) := by decide +kernel
theorem dL_areDistributed_23 : decode cL_areDistributed 23 = .ok (.aload_n 0, 1) := by decide +kernel
theorem dL_areDistributed_24 : decode cL_areDistributed 24 = .ok (.getfield 10, 3) := by decide +kernel
theorem dL_areDistributed_27 : decode cL_areDistributed 27 = .ok (.iconst 5, 1) := by decide +kernel
theorem dL_areDistributed_28 : decode cL_areDistributed 28 = .ok (.iconst 2, 1) := by decide +kernel
theorem dL_areDistributed_29 : decode cL_areDistributed 29 = .ok (.invokevirtual 110, 3) := by decide +kernel
theorem dL_areDistributed_32 : decode cL_areDistributed 32 = .ok (.istore_n 2, 1) := by decide +kernel
theorem dL_areDistributed_33 : decode cL_areDistributed 33 = .ok (.iload_n 1, 1) := by decide +kernel
theorem dL_areDistributed_34 : decode cL_areDistributed 34 = .ok (.ifCond .eq 15, 3) := by decide +kernel
theorem dL_areDistributed_37 : decode cL_areDistributed 37 = .ok (.aload_n 0, 1) := by decide +kernel
theorem dL_areDistributed_38 : decode cL_areDistributed 38 = .ok (.getfield 10, 3) := by decide +kernel
theorem dL_areDistributed_41 : decode cL_areDistributed 41 = .ok (.iconst 5, 1) := by decide +kernel
theorem dL_areDistributed_42 : decode cL_areDistributed 42 = .ok (.iconst 0, 1) := by decide +kernel
theorem dL_areDistributed_43 : decode cL_areDistributed 43 = .ok (.invokevirtual 110, 3) := by decide +kernel
theorem dL_areDistributed_46 : decode cL_areDistributed 46 = .ok (.goto 12, 3) := by decide +kernel
theorem dL_areDistributed_49 : decode cL_areDistributed 49 = .ok (.aload_n 0, 1) := by decide +kernel
theorem dL_areDistributed_50 : decode cL_areDistributed 50 = .ok (.getfield 10, 3) := by decide +kernel
theorem dL_areDistributed_53 : decode cL_areDistributed 53 = .ok (.iconst 5, 1) := by decide +kernel
theorem dL_areDistributed_54 : decode cL_areDistributed 54 = .ok (.iconst 0, 1) := by decide +kernel
theorem dL_areDistributed_55 : decode cL_areDistributed 55 = .ok (.invokevirtual 113, 3) := by decide +kernel
theorem dL_areDistributed_58 : decode cL_areDistributed 58 = .ok (.istore_n 3, 1) := by decide +kernel
theorem dL_areDistributed_59 : decode cL_areDistributed 59 = .ok (.aload_n 0, 1) := by decide +kernel
theorem dL_areDistributed_60 : decode cL_areDistributed 60 = .ok (.bipush 6, 2) := by decide +kernel
theorem dL_areDistributed_62 : decode cL_areDistributed 62 = .ok (.iconst 0, 1) := by decide +kernel
theorem dL_areDistributed_63 : decode cL_areDistributed 63 = .ok (.iconst 0, 1) := by decide +kernel
theorem dL_areDistributed_64 : decode cL_areDistributed 64 = .ok (.invokevirtual 106, 3) := by decide +kernel
theorem dL_areDistributed_67 : decode cL_areDistributed 67 = .ok (.aload_n 0, 1) := by decide +kernel
theorem dL_areDistributed_68 : decode cL_areDistributed 68 = .ok (.bipush 7, 2) := by decide +kernel
theorem dL_areDistributed_70 : decode cL_areDistributed 70 = .ok (.iconst 0, 1) := by decide +kernel
theorem dL_areDistributed_71 : decode cL_areDistributed 71 = .ok (.iconst 0, 1) := by decide +kernel
theorem dL_areDistributed_72 : decode cL_areDistributed 72 = .ok (.invokevirtual 106, 3) := by decide +kernel
theorem dL_areDistributed_75 : decode cL_areDistributed 75 = .ok (.iload_n 1, 1) := by decide +kernel
theorem dL_areDistributed_76 : decode cL_areDistributed 76 = .ok (.ifCond .eq 16, 3) := by decide +kernel
theorem dL_areDistributed_79 : decode cL_areDistributed 79 = .ok (.aload_n 0, 1) := by decide +kernel
theorem dL_areDistributed_80 : decode cL_areDistributed 80 = .ok (.getfield 10, 3) := by decide +kernel
theorem dL_areDistributed_83 : decode cL_areDistributed 83 = .ok (.bipush 6, 2) := by decide +kernel
theorem dL_areDistributed_85 : decode cL_areDistributed 85 = .ok (.iconst 1, 1) := by decide +kernel
theorem dL_areDistributed_86 : decode cL_areDistributed 86 = .ok (.invokevirtual 110, 3) := by decide +kernel
theorem dL_areDistributed_89 : decode cL_areDistributed 89 = .ok (.goto 13, 3) := by decide +kernel
theorem dL_areDistributed_92 : decode cL_areDistributed 92 = .ok (.aload_n 0, 1) := by decide +kernel
theorem dL_areDistributed_93 : decode cL_areDistributed 93 = .ok (.getfield 10, 3) := by decide +kernel
theorem dL_areDistributed_96 : decode cL_areDistributed 96 = .ok (.bipush 6, 2) := by decide +kernel
theorem dL_areDistributed_98 : decode cL_areDistributed 98 = .ok (.iconst 1, 1) := by decide +kernel
theorem dL_areDistributed_99 : decode cL_areDistributed 99 = .ok (.invokevirtual 113, 3) := by decide +kernel
theorem dL_areDistributed_102 : decode cL_areDistributed 102 = .ok (.istore 4, 2) := by decide +kernel
theorem dL_areDistributed_104 : decode cL_areDistributed 104 = .ok (.iload_n 1, 1) := by decide +kernel
theorem dL_areDistributed_105 : decode cL_areDistributed 105 = .ok (.ifCond .eq 16, 3) := by decide +kernel
theorem dL_areDistributed_108 : decode cL_areDistributed 108 = .ok (.aload_n 0, 1) := by decide +kernel
theorem dL_areDistributed_109 : decode cL_areDistributed 109 = .ok (.getfield 10, 3) := by decide +kernel
theorem dL_areDistributed_112 : decode cL_areDistributed 112 = .ok (.bipush 7, 2) := by decide +kernel
theorem dL_areDistributed_114 : decode cL_areDistributed 114 = .ok (.iconst 2, 1) := by decide +kernel
theorem dL_areDistributed_115 : decode cL_areDistributed 115 = .ok (.invokevirtual 110, 3) := by decide +kernel
theorem dL_areDistributed_118 : decode cL_areDistributed 118 = .ok (.goto 13, 3) := by decide +kernel
theorem dL_areDistributed_121 : decode cL_areDistributed 121 = .ok (.aload_n 0, 1) := by decide +kernel
theorem dL_areDistributed_122 : decode cL_areDistributed 122 = .ok (.getfield 10, 3) := by decide +kernel
theorem dL_areDistributed_125 : decode cL_areDistributed 125 = .ok (.bipush 7, 2) := by decide +kernel
theorem dL_areDistributed_127 : decode cL_areDistributed 127 = .ok (.iconst 2, 1) := by decide +kernel
theorem dL_areDistributed_128 : decode cL_areDistributed 128 = .ok (.invokevirtual 113, 3) := by decide +kernel
theorem dL_areDistributed_131 : decode cL_areDistributed 131 = .ok (.istore 5, 2) := by decide +kernel
theorem dL_areDistributed_133 : decode cL_areDistributed 133 = .ok (.iload_n 1, 1) := by decide +kernel
theorem dL_areDistributed_134 : decode cL_areDistributed 134 = .ok (.ifCond .eq 17, 3) := by decide +kernel
theorem dL_areDistributed_137 : decode cL_areDistributed 137 = .ok (.aload_n 0, 1) := by decide +kernel
theorem dL_areDistributed_138 : decode cL_areDistributed 138 = .ok (.getfield 10, 3) := by decide +kernel
theorem dL_areDistributed_141 : decode cL_areDistributed 141 = .ok (.bipush 6, 2) := by decide +kernel
theorem dL_areDistributed_143 : decode cL_areDistributed 143 = .ok (.bipush 7, 2) := by decide +kernel
theorem dL_areDistributed_145 : decode cL_areDistributed 145 = .ok (.invokevirtual 113, 3) := by decide +kernel
theorem dL_areDistributed_148 : decode cL_areDistributed 148 = .ok (.goto 14, 3) := by decide +kernel
theorem dL_areDistributed_151 : decode cL_areDistributed 151 = .ok (.aload_n 0, 1) := by decide +kernel
theorem dL_areDistributed_152 : decode cL_areDistributed 152 = .ok (.getfield 10, 3) := by decide +kernel
theorem dL_areDistributed_155 : decode cL_areDistributed 155 = .ok (.bipush 6, 2) := by decide +kernel
theorem dL_areDistributed_157 : decode cL_areDistributed 157 = .ok (.bipush 7, 2) := by decide +kernel
theorem dL_areDistributed_159 : decode cL_areDistributed 159 = .ok (.invokevirtual 110, 3) := by decide +kernel
theorem dL_areDistributed_162 : decode cL_areDistributed 162 = .ok (.istore 6, 2) := by decide +kernel
theorem dL_areDistributed_164 : decode cL_areDistributed 164 = .ok (.iload_n 2, 1) := by decide +kernel
theorem dL_areDistributed_165 : decode cL_areDistributed 165 = .ok (.ifCond .lt 38, 3) := by decide +kernel
theorem dL_areDistributed_168 : decode cL_areDistributed 168 = .ok (.iload 4, 2) := by decide +kernel
theorem dL_areDistributed_170 : decode cL_areDistributed 170 = .ok (.iload 5, 2) := by decide +kernel
theorem dL_areDistributed_172 : decode cL_areDistributed 172 = .ok (.iadd, 1) := by decide +kernel
theorem dL_areDistributed_173 : decode cL_areDistributed 173 = .ok (.iload 6, 2) := by decide +kernel
theorem dL_areDistributed_175 : decode cL_areDistributed 175 = .ok (.iload_n 3, 1) := by decide +kernel
theorem dL_areDistributed_176 : decode cL_areDistributed 176 = .ok (.isub, 1) := by decide +kernel
theorem dL_areDistributed_177 : decode cL_areDistributed 177 = .ok (.if_icmp .lt 26, 3) := by decide +kernel
theorem dL_areDistributed_180 : decode cL_areDistributed 180 = .ok (.iload_n 3, 1) := by decide +kernel
theorem dL_areDistributed_181 : decode cL_areDistributed 181 = .ok (.iload 6, 2) := by decide +kernel
theorem dL_areDistributed_183 : decode cL_areDistributed 183 = .ok (.if_icmp .ne 20, 3) := by decide +kernel
theorem dL_areDistributed_186 : decode cL_areDistributed 186 = .ok (.aload_n 0, 1) := by decide +kernel
theorem dL_areDistributed_187 : decode cL_areDistributed 187 = .ok (.getfield 10, 3) := by decide +kernel
theorem dL_areDistributed_190 : decode cL_areDistributed 190 = .ok (.iconst 5, 1) := by decide +kernel
theorem dL_areDistributed_191 : decode cL_areDistributed 191 = .ok (.bipush 6, 2) := by decide +kernel
theorem dL_areDistributed_193 : decode cL_areDistributed 193 = .ok (.invokevirtual 119, 3) := by decide +kernel
theorem dL_areDistributed_196 : decode cL_areDistributed 196 = .ok (.ifCond .eq 7, 3) := by decide +kernel
theorem dL_areDistributed_199 : decode cL_areDistributed 199 = .ok (.iconst 1, 1) := by decide +kernel
theorem dL_areDistributed_200 : decode cL_areDistributed 200 = .ok (.goto 4, 3) := by decide +kernel
theorem dL_areDistributed_203 : decode cL_areDistributed 203 = .ok (.iconst 0, 1) := by decide +kernel
theorem dL_areDistributed_204 : decode cL_areDistributed 204 = .ok (.ireturn, 1) := by decide +kernel
theorem dL_areCounted_0 : decode cL_areCounted 0 = .ok (.aload_n 0, 1) := by decide +kernel
theorem dL_areCounted_1 : decode cL_areCounted 1 = .ok (.iconst 5, 1) := by decide +kernel
theorem dL_areCounted_2 : decode cL_areCounted 2 = .ok (.iconst 0, 1) := by decide +kernel
theorem dL_areCounted_3 : decode cL_areCounted 3 = .ok (.iconst 0, 1) := by decide +kernel
theorem dL_areCounted_4 : decode cL_areCounted 4 = .ok (.invokevirtual 106, 3) := by decide +kernel
theorem dL_areCounted_7 : decode cL_areCounted 7 = .ok (.aload_n 0, 1) := by decide +kernel
theorem dL_areCounted_8 : decode cL_areCounted 8 = .ok (.getfield 10, 3) := by decide +kernel
theorem dL_areCounted_11 : decode cL_areCounted 11 = .ok (.iconst 5, 1) := by decide +kernel
theorem dL_areCounted_12 : decode cL_areCounted 12 = .ok (.iconst 1, 1) := by decide +kernel
theorem dL_areCounted_13 : decode cL_areCounted 13 = .ok (.invokevirtual 113, 3) := by decide +kernel
theorem dL_areCounted_16 : decode cL_areCounted 16 = .ok (.istore_n 1, 1) := by decide +kernel
theorem dL_areCounted_17 : decode cL_areCounted 17 = .ok (.aload_n 0, 1) := by decide +kernel
theorem dL_areCounted_18 : decode cL_areCounted 18 = .ok (.getfield 10, 3) := by decide +kernel
theorem dL_areCounted_21 : decode cL_areCounted 21 = .ok (.iconst 5, 1) := by decide +kernel
theorem dL_areCounted_22 : decode cL_areCounted 22 = .ok (.iconst 0, 1) := by decide +kernel
theorem dL_areCounted_23 : decode cL_areCounted 23 = .ok (.invokevirtual 125, 3) := by decide +kernel
theorem dL_areCounted_26 : decode cL_areCounted 26 = .ok (.istore_n 2, 1) := by decide +kernel
theorem dL_areCounted_27 : decode cL_areCounted 27 = .ok (.aload_n 0, 1) := by decide +kernel
theorem dL_areCounted_28 : decode cL_areCounted 28 = .ok (.getfield 10, 3) := by decide +kernel
theorem dL_areCounted_31 : decode cL_areCounted 31 = .ok (.iconst 0, 1) := by decide +kernel
theorem dL_areCounted_32 : decode cL_areCounted 32 = .ok (.invokevirtual 86, 3) := by decide +kernel
theorem dL_areCounted_35 : decode cL_areCounted 35 = .ok (.aload_n 0, 1) := by decide +kernel
theorem dL_areCounted_36 : decode cL_areCounted 36 = .ok (.getfield 10, 3) := by decide +kernel
theorem dL_areCounted_39 : decode cL_areCounted 39 = .ok (.iconst 1, 1) := by decide +kernel
theorem dL_areCounted_40 : decode cL_areCounted 40 = .ok (.invokevirtual 86, 3) := by decide +kernel
theorem dL_areCounted_43 : decode cL_areCounted 43 = .ok (.iadd, 1) := by decide +kernel
theorem dL_areCounted_44 : decode cL_areCounted 44 = .ok (.iload_n 1, 1) := by decide +kernel
theorem dL_areCounted_45 : decode cL_areCounted 45 = .ok (.isub, 1) := by decide +kernel
theorem dL_areCounted_46 : decode cL_areCounted 46 = .ok (.aload_n 0, 1) := by decide +kernel
theorem dL_areCounted_47 : decode cL_areCounted 47 = .ok (.getfield 10, 3) := by decide +kernel
theorem dL_areCounted_50 : decode cL_areCounted 50 = .ok (.iconst 0, 1) := by decide +kernel
theorem dL_areCounted_51 : decode cL_areCounted 51 = .ok (.iconst 1, 1) := by decide +kernel
theorem dL_areCounted_52 : decode cL_areCounted 52 = .ok (.invokevirtual 127, 3) := by decide +kernel
theorem dL_areCounted_55 : decode cL_areCounted 55 = .ok (.if_icmp .ne 47, 3) := by decide +kernel
theorem dL_areCounted_58 : decode cL_areCounted 58 = .ok (.aload_n 0, 1) := by decide +kernel
theorem dL_areCounted_59 : decode cL_areCounted 59 = .ok (.getfield 10, 3) := by decide +kernel
theorem dL_areCounted_62 : decode cL_areCounted 62 = .ok (.iconst 0, 1) := by decide +kernel
theorem dL_areCounted_63 : decode cL_areCounted 63 = .ok (.iconst 1, 1) := by decide +kernel
theorem dL_areCounted_64 : decode cL_areCounted 64 = .ok (.invokevirtual 130, 3) := by decide +kernel
theorem dL_areCounted_67 : decode cL_areCounted 67 = .ok (.aload_n 0, 1) := by decide +kernel
theorem dL_areCounted_68 : decode cL_areCounted 68 = .ok (.getfield 10, 3) := by decide +kernel
theorem dL_areCounted_71 : decode cL_areCounted 71 = .ok (.iconst 0, 1) := by decide +kernel
theorem dL_areCounted_72 : decode cL_areCounted 72 = .ok (.iconst 1, 1) := by decide +kernel
theorem dL_areCounted_73 : decode cL_areCounted 73 = .ok (.invokevirtual 127, 3) := by decide +kernel
theorem dL_areCounted_76 : decode cL_areCounted 76 = .ok (.iload_n 1, 1) := by decide +kernel
theorem dL_areCounted_77 : decode cL_areCounted 77 = .ok (.isub, 1) := by decide +kernel
theorem dL_areCounted_78 : decode cL_areCounted 78 = .ok (.if_icmp .ne 24, 3) := by decide +kernel
theorem dL_areCounted_81 : decode cL_areCounted 81 = .ok (.aload_n 0, 1) := by decide +kernel
theorem dL_areCounted_82 : decode cL_areCounted 82 = .ok (.getfield 10, 3) := by decide +kernel
theorem dL_areCounted_85 : decode cL_areCounted 85 = .ok (.iconst 0, 1) := by decide +kernel
theorem dL_areCounted_86 : decode cL_areCounted 86 = .ok (.iconst 1, 1) := by decide +kernel
theorem dL_areCounted_87 : decode cL_areCounted 87 = .ok (.invokevirtual 133, 3) := by decide +kernel
theorem dL_areCounted_90 : decode cL_areCounted 90 = .ok (.iload_n 1, 1) := by decide +kernel
theorem dL_areCounted_91 : decode cL_areCounted 91 = .ok (.ifCond .le 7, 3) := by decide +kernel
theorem dL_areCounted_94 : decode cL_areCounted 94 = .ok (.iconst 1, 1) := by decide +kernel
theorem dL_areCounted_95 : decode cL_areCounted 95 = .ok (.goto 4, 3) := by decide +kernel
theorem dL_areCounted_98 : decode cL_areCounted 98 = .ok (.iconst 0, 1) := by decide +kernel
theorem dL_areCounted_99 : decode cL_areCounted 99 = .ok (.if_icmp .eq 5, 3) := by decide +kernel
theorem dL_areCounted_102 : decode cL_areCounted 102 = .ok (.iconst 0, 1) := by decide +kernel
theorem dL_areCounted_103 : decode cL_areCounted 103 = .ok (.ireturn, 1) := by decide +kernel
theorem dL_areCounted_104 : decode cL_areCounted 104 = .ok (.aload_n 0, 1) := by decide +kernel
theorem dL_areCounted_105 : decode cL_areCounted 105 = .ok (.getfield 10, 3) := by decide +kernel
theorem dL_areCounted_108 : decode cL_areCounted 108 = .ok (.iconst 0, 1) := by decide +kernel
theorem dL_areCounted_109 : decode cL_areCounted 109 = .ok (.iconst 1, 1) := by decide +kernel
theorem dL_areCounted_110 : decode cL_areCounted 110 = .ok (.invokevirtual 136, 3) := by decide +kernel
theorem dL_areCounted_113 : decode cL_areCounted 113 = .ok (.iload_n 2, 1) := by decide +kernel
theorem dL_areCounted_114 : decode cL_areCounted 114 = .ok (.if_icmp .ne 56, 3) := by decide +kernel
theorem dL_areCounted_117 : decode cL_areCounted 117 = .ok (.aload_n 0, 1) := by decide +kernel
theorem dL_areCounted_118 : decode cL_areCounted 118 = .ok (.getfield 10, 3) := by decide +kernel
theorem dL_areCounted_121 : decode cL_areCounted 121 = .ok (.iconst 0, 1) := by decide +kernel
theorem dL_areCounted_122 : decode cL_areCounted 122 = .ok (.iconst 1, 1) := by decide +kernel
theorem dL_areCounted_123 : decode cL_areCounted 123 = .ok (.invokevirtual 139, 3) := by decide +kernel
theorem dL_areCounted_126 : decode cL_areCounted 126 = .ok (.iload_n 1, 1) := by decide +kernel
theorem dL_areCounted_127 : decode cL_areCounted 127 = .ok (.aload_n 0, 1) := by decide +kernel
theorem dL_areCounted_128 : decode cL_areCounted 128 = .ok (.getfield 10, 3) := by decide +kernel
theorem dL_areCounted_131 : decode cL_areCounted 131 = .ok (.iconst 0, 1) := by decide +kernel
theorem dL_areCounted_132 : decode cL_areCounted 132 = .ok (.invokevirtual 86, 3) := by decide +kernel
theorem dL_areCounted_135 : decode cL_areCounted 135 = .ok (.if_icmp .ne 7, 3) := by decide +kernel
theorem dL_areCounted_138 : decode cL_areCounted 138 = .ok (.iconst 1, 1) := by decide +kernel
theorem dL_areCounted_139 : decode cL_areCounted 139 = .ok (.goto 4, 3) := by decide +kernel
theorem dL_areCounted_142 : decode cL_areCounted 142 = .ok (.iconst 0, 1) := by decide +kernel
theorem dL_areCounted_143 : decode cL_areCounted 143 = .ok (.if_icmp .ne 27, 3) := by decide +kernel
theorem dL_areCounted_146 : decode cL_areCounted 146 = .ok (.aload_n 0, 1) := by decide +kernel
theorem dL_areCounted_147 : decode cL_areCounted 147 = .ok (.getfield 10, 3) := by decide +kernel
theorem dL_areCounted_150 : decode cL_areCounted 150 = .ok (.iconst 5, 1) := by decide +kernel
theorem dL_areCounted_151 : decode cL_areCounted 151 = .ok (.iconst 0, 1) := by decide +kernel
theorem dL_areCounted_152 : decode cL_areCounted 152 = .ok (.invokevirtual 139, 3) := by decide +kernel
theorem dL_areCounted_155 : decode cL_areCounted 155 = .ok (.ifCond .eq 15, 3) := by decide +kernel
theorem dL_areCounted_158 : decode cL_areCounted 158 = .ok (.aload_n 0, 1) := by decide +kernel
theorem dL_areCounted_159 : decode cL_areCounted 159 = .ok (.getfield 10, 3) := by decide +kernel
theorem dL_areCounted_162 : decode cL_areCounted 162 = .ok (.iconst 5, 1) := by decide +kernel
theorem dL_areCounted_163 : decode cL_areCounted 163 = .ok (.iconst 1, 1) := by decide +kernel
theorem dL_areCounted_164 : decode cL_areCounted 164 = .ok (.invokevirtual 139, 3) := by decide +kernel
theorem dL_areCounted_167 : decode cL_areCounted 167 = .ok (.ifCond .ne 5, 3) := by decide +kernel
theorem dL_areCounted_170 : decode cL_areCounted 170 = .ok (.iconst 0, 1) := by decide +kernel
theorem dL_areCounted_171 : decode cL_areCounted 171 = .ok (.ireturn, 1) := by decide +kernel
theorem dL_areCounted_172 : decode cL_areCounted 172 = .ok (.aload_n 0, 1) := by decide +kernel
theorem dL_areCounted_173 : decode cL_areCounted 173 = .ok (.iconst 5, 1) := by decide +kernel
theorem dL_areCounted_174 : decode cL_areCounted 174 = .ok (.iconst 0, 1) := by decide +kernel
theorem dL_areCounted_175 : decode cL_areCounted 175 = .ok (.iconst 0, 1) := by decide +kernel
theorem dL_areCounted_176 : decode cL_areCounted 176 = .ok (.invokevirtual 106, 3) := by decide +kernel
theorem dL_areCounted_179 : decode cL_areCounted 179 = .ok (.aload_n 0, 1) := by decide +kernel
theorem dL_areCounted_180 : decode cL_areCounted 180 = .ok (.getfield 10, 3) := by decide +kernel
theorem dL_areCounted_183 : decode cL_areCounted 183 = .ok (.iconst 5, 1) := by decide +kernel
theorem dL_areCounted_184 : decode cL_areCounted 184 = .ok (.iconst 1, 1) := by decide +kernel
theorem dL_areCounted_185 : decode cL_areCounted 185 = .ok (.invokevirtual 142, 3) := by decide +kernel
theorem dL_areCounted_188 : decode cL_areCounted 188 = .ok (.aload_n 0, 1) := by decide +kernel
theorem dL_areCounted_189 : decode cL_areCounted 189 = .ok (.getfield 10, 3) := by decide +kernel
theorem dL_areCounted_192 : decode cL_areCounted 192 = .ok (.iconst 0, 1) := by decide +kernel
theorem dL_areCounted_193 : decode cL_areCounted 193 = .ok (.invokevirtual 86, 3) := by decide +kernel
theorem dL_areCounted_196 : decode cL_areCounted 196 = .ok (.iload_n 1, 1) := by decide +kernel
theorem dL_areCounted_197 : decode cL_areCounted 197 = .ok (.isub, 1) := by decide +kernel
theorem dL_areCounted_198 : decode cL_areCounted 198 = .ok (.if_icmp .ne 25, 3) := by decide +kernel
theorem dL_areCounted_201 : decode cL_areCounted 201 = .ok (.aload_n 0, 1) := by decide +kernel
theorem dL_areCounted_202 : decode cL_areCounted 202 = .ok (.iconst 5, 1) := by decide +kernel
theorem dL_areCounted_203 : decode cL_areCounted 203 = .ok (.bipush 33, 2) := by decide +kernel
theorem dL_areCounted_205 : decode cL_areCounted 205 = .ok (.invokevirtual 116, 3) := by decide +kernel
theorem dL_areCounted_208 : decode cL_areCounted 208 = .ok (.ifCond .eq 15, 3) := by decide +kernel
theorem dL_areCounted_211 : decode cL_areCounted 211 = .ok (.aload_n 0, 1) := by decide +kernel
theorem dL_areCounted_212 : decode cL_areCounted 212 = .ok (.getfield 10, 3) := by decide +kernel
theorem dL_areCounted_215 : decode cL_areCounted 215 = .ok (.iconst 5, 1) := by decide +kernel
theorem dL_areCounted_216 : decode cL_areCounted 216 = .ok (.iconst 1, 1) := by decide +kernel
theorem dL_areCounted_217 : decode cL_areCounted 217 = .ok (.invokevirtual 133, 3) := by decide +kernel
theorem dL_areCounted_220 : decode cL_areCounted 220 = .ok (.ifCond .eq 5, 3) := by decide +kernel
theorem dL_areCounted_223 : decode cL_areCounted 223 = .ok (.iconst 0, 1) := by decide +kernel
theorem dL_areCounted_224 : decode cL_areCounted 224 = .ok (.ireturn, 1) := by decide +kernel
theorem dL_areCounted_225 : decode cL_areCounted 225 = .ok (.aload_n 0, 1) := by decide +kernel
theorem dL_areCounted_226 : decode cL_areCounted 226 = .ok (.iconst 5, 1) := by decide +kernel
theorem dL_areCounted_227 : decode cL_areCounted 227 = .ok (.iconst 0, 1) := by decide +kernel
theorem dL_areCounted_228 : decode cL_areCounted 228 = .ok (.iconst 0, 1) := by decide +kernel
theorem dL_areCounted_229 : decode cL_areCounted 229 = .ok (.invokevirtual 106, 3) := by decide +kernel
theorem dL_areCounted_232 : decode cL_areCounted 232 = .ok (.aload_n 0, 1) := by decide +kernel
theorem dL_areCounted_233 : decode cL_areCounted 233 = .ok (.getfield 10, 3) := by decide +kernel
theorem dL_areCounted_236 : decode cL_areCounted 236 = .ok (.iconst 5, 1) := by decide +kernel
theorem dL_areCounted_237 : decode cL_areCounted 237 = .ok (.iconst 1, 1) := by decide +kernel
theorem dL_areCounted_238 : decode cL_areCounted 238 = .ok (.invokevirtual 77, 3) := by decide +kernel
theorem dL_areCounted_241 : decode cL_areCounted 241 = .ok (.aload_n 0, 1) := by decide +kernel
theorem dL_areCounted_242 : decode cL_areCounted 242 = .ok (.getfield 10, 3) := by decide +kernel
theorem dL_areCounted_245 : decode cL_areCounted 245 = .ok (.iconst 0, 1) := by decide +kernel
theorem dL_areCounted_246 : decode cL_areCounted 246 = .ok (.iconst 1, 1) := by decide +kernel
theorem dL_areCounted_247 : decode cL_areCounted 247 = .ok (.invokevirtual 130, 3) := by decide +kernel
theorem dL_areCounted_250 : decode cL_areCounted 250 = .ok (.if_icmp .ne 13, 3) := by decide +kernel
theorem dL_areCounted_253 : decode cL_areCounted 253 = .ok (.aload_n 0, 1) := by decide +kernel
theorem dL_areCounted_254 : decode cL_areCounted 254 = .ok (.iconst 5, 1) := by decide +kernel
theorem dL_areCounted_255 : decode cL_areCounted 255 = .ok (.bipush 126, 2) := by decide +kernel
theorem dL_areCounted_257 : decode cL_areCounted 257 = .ok (.invokevirtual 116, 3) := by decide +kernel
theorem dL_areCounted_260 : decode cL_areCounted 260 = .ok (.ifCond .ne 5, 3) := by decide +kernel
theorem dL_areCounted_263 : decode cL_areCounted 263 = .ok (.iconst 0, 1) := by decide +kernel
theorem dL_areCounted_264 : decode cL_areCounted 264 = .ok (.ireturn, 1) := by decide +kernel
theorem dL_areCounted_265 : decode cL_areCounted 265 = .ok (.aload_n 0, 1) := by decide +kernel
theorem dL_areCounted_266 : decode cL_areCounted 266 = .ok (.getfield 10, 3) := by decide +kernel
theorem dL_areCounted_269 : decode cL_areCounted 269 = .ok (.iconst 5, 1) := by decide +kernel
theorem dL_areCounted_270 : decode cL_areCounted 270 = .ok (.iconst 1, 1) := by decide +kernel
theorem dL_areCounted_271 : decode cL_areCounted 271 = .ok (.invokevirtual 77, 3) := by decide +kernel
theorem dL_areCounted_274 : decode cL_areCounted 274 = .ok (.aload_n 0, 1) := by decide +kernel
theorem dL_areCounted_275 : decode cL_areCounted 275 = .ok (.getfield 10, 3) := by decide +kernel
theorem dL_areCounted_278 : decode cL_areCounted 278 = .ok (.iconst 0, 1) := by decide +kernel
theorem dL_areCounted_279 : decode cL_areCounted 279 = .ok (.invokevirtual 86, 3) := by decide +kernel
theorem dL_areCounted_282 : decode cL_areCounted 282 = .ok (.if_icmp .ne 29, 3) := by decide +kernel
theorem dL_areCounted_285 : decode cL_areCounted 285 = .ok (.aload_n 0, 1) := by decide +kernel
theorem dL_areCounted_286 : decode cL_areCounted 286 = .ok (.getfield 10, 3) := by decide +kernel
theorem dL_areCounted_289 : decode cL_areCounted 289 = .ok (.iconst 5, 1) := by decide +kernel
theorem dL_areCounted_290 : decode cL_areCounted 290 = .ok (.iconst 0, 1) := by decide +kernel
theorem dL_areCounted_291 : decode cL_areCounted 291 = .ok (.invokevirtual 119, 3) := by decide +kernel
theorem dL_areCounted_294 : decode cL_areCounted 294 = .ok (.ifCond .eq 17, 3) := by decide +kernel
theorem dL_areCounted_297 : decode cL_areCounted 297 = .ok (.aload_n 0, 1) := by decide +kernel
theorem dL_areCounted_298 : decode cL_areCounted 298 = .ok (.getfield 10, 3) := by decide +kernel
theorem dL_areCounted_301 : decode cL_areCounted 301 = .ok (.invokevirtual 145, 3) := by decide +kernel
theorem dL_areCounted_304 : decode cL_areCounted 304 = .ok (.ifCond .ne 7, 3) := by decide +kernel
theorem dL_areCounted_307 : decode cL_areCounted 307 = .ok (.iconst 1, 1) := by decide +kernel
theorem dL_areCounted_308 : decode cL_areCounted 308 = .ok (.goto 4, 3) := by decide +kernel
theorem dL_areCounted_311 : decode cL_areCounted 311 = .ok (.iconst 0, 1) := by decide +kernel
theorem dL_areCounted_312 : decode cL_areCounted 312 = .ok (.ireturn, 1) := by decide +kernel
theorem dL_isBuilt_0 : decode cL_isBuilt 0 = .ok (.aload_n 0, 1) := by decide +kernel
theorem dL_isBuilt_1 : decode cL_isBuilt 1 = .ok (.getfield 10, 3) := by decide +kernel
theorem dL_isBuilt_4 : decode cL_isBuilt 4 = .ok (.iconst 5, 1) := by decide +kernel
theorem dL_isBuilt_5 : decode cL_isBuilt 5 = .ok (.aload_n 0, 1) := by decide +kernel
theorem dL_isBuilt_6 : decode cL_isBuilt 6 = .ok (.sipush 1025, 3) := by decide +kernel
theorem dL_isBuilt_9 : decode cL_isBuilt 9 = .ok (.invokevirtual 26, 3) := by decide +kernel
theorem dL_isBuilt_12 : decode cL_isBuilt 12 = .ok (.invokevirtual 148, 3) := by decide +kernel
theorem dL_isBuilt_15 : decode cL_isBuilt 15 = .ok (.pop, 1) := by decide +kernel
theorem dL_isBuilt_16 : decode cL_isBuilt 16 = .ok (.aload_n 0, 1) := by decide +kernel
theorem dL_isBuilt_17 : decode cL_isBuilt 17 = .ok (.getfield 10, 3) := by decide +kernel
theorem dL_isBuilt_20 : decode cL_isBuilt 20 = .ok (.iload_n 1, 1) := by decide +kernel
theorem dL_isBuilt_21 : decode cL_isBuilt 21 = .ok (.invokevirtual 151, 3) := by decide +kernel
theorem dL_isBuilt_24 : decode cL_isBuilt 24 = .ok (.iconst 1, 1) := by decide +kernel
theorem dL_isBuilt_25 : decode cL_isBuilt 25 = .ok (.isub, 1) := by decide +kernel
theorem dL_isBuilt_26 : decode cL_isBuilt 26 = .ok (.istore_n 2, 1) := by decide +kernel
theorem dL_isBuilt_27 : decode cL_isBuilt 27 = .ok (.iload_n 2, 1) := by decide +kernel
theorem dL_isBuilt_28 : decode cL_isBuilt 28 = .ok (.ifCond .lt 131, 3) := by decide +kernel
theorem dL_isBuilt_31 : decode cL_isBuilt 31 = .ok (.aload_n 0, 1) := by decide +kernel
theorem dL_isBuilt_32 : decode cL_isBuilt 32 = .ok (.getfield 10, 3) := by decide +kernel
theorem dL_isBuilt_35 : decode cL_isBuilt 35 = .ok (.iload_n 1, 1) := by decide +kernel
theorem dL_isBuilt_36 : decode cL_isBuilt 36 = .ok (.iload_n 2, 1) := by decide +kernel
theorem dL_isBuilt_37 : decode cL_isBuilt 37 = .ok (.invokevirtual 154, 3) := by decide +kernel
theorem dL_isBuilt_40 : decode cL_isBuilt 40 = .ok (.lstore_n 3, 1) := by decide +kernel
theorem dL_isBuilt_41 : decode cL_isBuilt 41 = .ok (.iconst 0, 1) := by decide +kernel
theorem dL_isBuilt_42 : decode cL_isBuilt 42 = .ok (.istore 5, 2) := by decide +kernel
theorem dL_isBuilt_44 : decode cL_isBuilt 44 = .ok (.iload 5, 2) := by decide +kernel
theorem dL_isBuilt_46 : decode cL_isBuilt 46 = .ok (.bipush 8, 2) := by decide +kernel
theorem dL_isBuilt_48 : decode cL_isBuilt 48 = .ok (.if_icmp .ge 59, 3) := by decide +kernel
theorem dL_isBuilt_51 : decode cL_isBuilt 51 = .ok (.bipush 8, 2) := by decide +kernel
theorem dL_isBuilt_53 : decode cL_isBuilt 53 = .ok (.iload_n 2, 1) := by decide +kernel
theorem dL_isBuilt_54 : decode cL_isBuilt 54 = .ok (.imul, 1) := by decide +kernel
theorem dL_isBuilt_55 : decode cL_isBuilt 55 = .ok (.iload 5, 2) := by decide +kernel
theorem dL_isBuilt_57 : decode cL_isBuilt 57 = .ok (.iadd, 1) := by decide +kernel
theorem dL_isBuilt_58 : decode cL_isBuilt 58 = .ok (.aload_n 0, 1) := by decide +kernel
theorem dL_isBuilt_59 : decode cL_isBuilt 59 = .ok (.getfield 10, 3) := by decide +kernel
theorem dL_isBuilt_62 : decode cL_isBuilt 62 = .ok (.iload_n 1, 1) := by decide +kernel
theorem dL_isBuilt_63 : decode cL_isBuilt 63 = .ok (.invokevirtual 158, 3) := by decide +kernel
theorem dL_isBuilt_66 : decode cL_isBuilt 66 = .ok (.if_icmp .ge 41, 3) := by decide +kernel
theorem dL_isBuilt_69 : decode cL_isBuilt 69 = .ok (.aload_n 0, 1) := by decide +kernel
theorem dL_isBuilt_70 : decode cL_isBuilt 70 = .ok (.getfield 10, 3) := by decide +kernel
theorem dL_isBuilt_73 : decode cL_isBuilt 73 = .ok (.iload_n 1, 1) := by decide +kernel
theorem dL_isBuilt_74 : decode cL_isBuilt 74 = .ok (.bipush 8, 2) := by decide +kernel
theorem dL_isBuilt_76 : decode cL_isBuilt 76 = .ok (.iload_n 2, 1) := by decide +kernel
theorem dL_isBuilt_77 : decode cL_isBuilt 77 = .ok (.imul, 1) := by decide +kernel
theorem dL_isBuilt_78 : decode cL_isBuilt 78 = .ok (.iload 5, 2) := by decide +kernel
theorem dL_isBuilt_80 : decode cL_isBuilt 80 = .ok (.iadd, 1) := by decide +kernel
theorem dL_isBuilt_81 : decode cL_isBuilt 81 = .ok (.invokevirtual 161, 3) := by decide +kernel
theorem dL_isBuilt_84 : decode cL_isBuilt 84 = .ok (.lload_n 3, 1) := by decide +kernel
theorem dL_isBuilt_85 : decode cL_isBuilt 85 = .ok (.bipush 8, 2) := by decide +kernel
theorem dL_isBuilt_87 : decode cL_isBuilt 87 = .ok (.iload 5, 2) := by decide +kernel
theorem dL_isBuilt_89 : decode cL_isBuilt 89 = .ok (.imul, 1) := by decide +kernel
theorem dL_isBuilt_90 : decode cL_isBuilt 90 = .ok (.lshr, 1) := by decide +kernel
theorem dL_isBuilt_91 : decode cL_isBuilt 91 = .ok (.ldc2_w 164, 3) := by decide +kernel
theorem dL_isBuilt_94 : decode cL_isBuilt 94 = .ok (.land, 1) := by decide +kernel
theorem dL_isBuilt_95 : decode cL_isBuilt 95 = .ok (.l2i, 1) := by decide +kernel
theorem dL_isBuilt_96 : decode cL_isBuilt 96 = .ok (.if_icmp .eq 5, 3) := by decide +kernel
theorem dL_isBuilt_99 : decode cL_isBuilt 99 = .ok (.iconst 0, 1) := by decide +kernel
theorem dL_isBuilt_100 : decode cL_isBuilt 100 = .ok (.ireturn, 1) := by decide +kernel
theorem dL_isBuilt_101 : decode cL_isBuilt 101 = .ok (.iinc 5 1, 3) := by decide +kernel
theorem dL_isBuilt_104 : decode cL_isBuilt 104 = .ok (.goto (-60), 3) := by decide +kernel
theorem dL_isBuilt_107 : decode cL_isBuilt 107 = .ok (.aload_n 0, 1) := by decide +kernel
theorem dL_isBuilt_108 : decode cL_isBuilt 108 = .ok (.getfield 10, 3) := by decide +kernel
theorem dL_isBuilt_111 : decode cL_isBuilt 111 = .ok (.bipush 6, 2) := by decide +kernel
theorem dL_isBuilt_113 : decode cL_isBuilt 113 = .ok (.lload_n 3, 1) := by decide +kernel
theorem dL_isBuilt_114 : decode cL_isBuilt 114 = .ok (.lconst 0, 1) := by decide +kernel
theorem dL_isBuilt_115 : decode cL_isBuilt 115 = .ok (.lconst 0, 1) := by decide +kernel
theorem dL_isBuilt_116 : decode cL_isBuilt 116 = .ok (.invokevirtual 59, 3) := by decide +kernel
theorem dL_isBuilt_119 : decode cL_isBuilt 119 = .ok (.pop, 1) := by decide +kernel
theorem dL_isBuilt_120 : decode cL_isBuilt 120 = .ok (.aload_n 0, 1) := by decide +kernel
theorem dL_isBuilt_121 : decode cL_isBuilt 121 = .ok (.getfield 10, 3) := by decide +kernel
theorem dL_isBuilt_124 : decode cL_isBuilt 124 = .ok (.bipush 6, 2) := by decide +kernel
theorem dL_isBuilt_126 : decode cL_isBuilt 126 = .ok (.bipush 64, 2) := by decide +kernel
theorem dL_isBuilt_128 : decode cL_isBuilt 128 = .ok (.iload_n 2, 1) := by decide +kernel
theorem dL_isBuilt_129 : decode cL_isBuilt 129 = .ok (.imul, 1) := by decide +kernel
theorem dL_isBuilt_130 : decode cL_isBuilt 130 = .ok (.invokevirtual 66, 3) := by decide +kernel
theorem dL_isBuilt_133 : decode cL_isBuilt 133 = .ok (.lload_n 3, 1) := by decide +kernel
theorem dL_isBuilt_134 : decode cL_isBuilt 134 = .ok (.invokestatic 166, 3) := by decide +kernel
theorem dL_isBuilt_137 : decode cL_isBuilt 137 = .ok (.if_icmp .eq 5, 3) := by decide +kernel
theorem dL_isBuilt_140 : decode cL_isBuilt 140 = .ok (.iconst 0, 1) := by decide +kernel
theorem dL_isBuilt_141 : decode cL_isBuilt 141 = .ok (.ireturn, 1) := by decide +kernel
theorem dL_isBuilt_142 : decode cL_isBuilt 142 = .ok (.aload_n 0, 1) := by decide +kernel
theorem dL_isBuilt_143 : decode cL_isBuilt 143 = .ok (.getfield 10, 3) := by decide +kernel
theorem dL_isBuilt_146 : decode cL_isBuilt 146 = .ok (.iconst 5, 1) := by decide +kernel
theorem dL_isBuilt_147 : decode cL_isBuilt 147 = .ok (.bipush 6, 2) := by decide +kernel
theorem dL_isBuilt_149 : decode cL_isBuilt 149 = .ok (.invokevirtual 110, 3) := by decide +kernel
theorem dL_isBuilt_152 : decode cL_isBuilt 152 = .ok (.pop, 1) := by decide +kernel
theorem dL_isBuilt_153 : decode cL_isBuilt 153 = .ok (.iinc 2 (-1), 3) := by decide +kernel
theorem dL_isBuilt_156 : decode cL_isBuilt 156 = .ok (.goto (-129), 3) := by decide +kernel
theorem dL_isBuilt_159 : decode cL_isBuilt 159 = .ok (.aload_n 0, 1) := by decide +kernel
theorem dL_isBuilt_160 : decode cL_isBuilt 160 = .ok (.getfield 10, 3) := by decide +kernel
theorem dL_isBuilt_163 : decode cL_isBuilt 163 = .ok (.iconst 5, 1) := by decide +kernel
theorem dL_isBuilt_164 : decode cL_isBuilt 164 = .ok (.iload_n 1, 1) := by decide +kernel
theorem dL_isBuilt_165 : decode cL_isBuilt 165 = .ok (.invokevirtual 119, 3) := by decide +kernel
theorem dL_isBuilt_168 : decode cL_isBuilt 168 = .ok (.ifCond .eq 53, 3) := by decide +kernel
theorem dL_isBuilt_171 : decode cL_isBuilt 171 = .ok (.aload_n 0, 1) := by decide +kernel
theorem dL_isBuilt_172 : decode cL_isBuilt 172 = .ok (.getfield 10, 3) := by decide +kernel
theorem dL_isBuilt_175 : decode cL_isBuilt 175 = .ok (.iload_n 1, 1) := by decide +kernel
theorem dL_isBuilt_176 : decode cL_isBuilt 176 = .ok (.invokevirtual 172, 3) := by decide +kernel
theorem dL_isBuilt_179 : decode cL_isBuilt 179 = .ok (.bipush 63, 2) := by decide +kernel
theorem dL_isBuilt_181 : decode cL_isBuilt 181 = .ok (.iadd, 1) := by decide +kernel
theorem dL_isBuilt_182 : decode cL_isBuilt 182 = .ok (.bipush 64, 2) := by decide +kernel
theorem dL_isBuilt_184 : decode cL_isBuilt 184 = .ok (.idiv, 1) := by decide +kernel
theorem dL_isBuilt_185 : decode cL_isBuilt 185 = .ok (.aload_n 0, 1) := by decide +kernel
theorem dL_isBuilt_186 : decode cL_isBuilt 186 = .ok (.getfield 10, 3) := by decide +kernel
theorem dL_isBuilt_189 : decode cL_isBuilt 189 = .ok (.iload_n 1, 1) := by decide +kernel
theorem dL_isBuilt_190 : decode cL_isBuilt 190 = .ok (.invokevirtual 151, 3) := by decide +kernel
theorem dL_isBuilt_193 : decode cL_isBuilt 193 = .ok (.if_icmp .ne 28, 3) := by decide +kernel
theorem dL_isBuilt_196 : decode cL_isBuilt 196 = .ok (.aload_n 0, 1) := by decide +kernel
theorem dL_isBuilt_197 : decode cL_isBuilt 197 = .ok (.getfield 10, 3) := by decide +kernel
theorem dL_isBuilt_200 : decode cL_isBuilt 200 = .ok (.iload_n 1, 1) := by decide +kernel
theorem dL_isBuilt_201 : decode cL_isBuilt 201 = .ok (.invokevirtual 172, 3) := by decide +kernel
theorem dL_isBuilt_204 : decode cL_isBuilt 204 = .ok (.bipush 7, 2) := by decide +kernel
theorem dL_isBuilt_206 : decode cL_isBuilt 206 = .ok (.iadd, 1) := by decide +kernel
theorem dL_isBuilt_207 : decode cL_isBuilt 207 = .ok (.bipush 8, 2) := by decide +kernel
theorem dL_isBuilt_209 : decode cL_isBuilt 209 = .ok (.idiv, 1) := by decide +kernel
theorem dL_isBuilt_210 : decode cL_isBuilt 210 = .ok (.aload_n 0, 1) := by decide +kernel
theorem dL_isBuilt_211 : decode cL_isBuilt 211 = .ok (.getfield 10, 3) := by decide +kernel
theorem dL_isBuilt_214 : decode cL_isBuilt 214 = .ok (.iload_n 1, 1) := by decide +kernel
theorem dL_isBuilt_215 : decode cL_isBuilt 215 = .ok (.invokevirtual 158, 3) := by decide +kernel
theorem dL_isBuilt_218 : decode cL_isBuilt 218 = .ok (.if_icmp .eq 5, 3) := by decide +kernel
theorem dL_isBuilt_221 : decode cL_isBuilt 221 = .ok (.iconst 0, 1) := by decide +kernel
theorem dL_isBuilt_222 : decode cL_isBuilt 222 = .ok (.ireturn, 1) := by decide +kernel
theorem dL_isBuilt_223 : decode cL_isBuilt 223 = .ok (.aload_n 0, 1) := by decide +kernel
theorem dL_isBuilt_224 : decode cL_isBuilt 224 = .ok (.getfield 10, 3) := by decide +kernel
theorem dL_isBuilt_227 : decode cL_isBuilt 227 = .ok (.bipush 6, 2) := by decide +kernel
theorem dL_isBuilt_229 : decode cL_isBuilt 229 = .ok (.invokevirtual 175, 3) := by decide +kernel
theorem dL_isBuilt_232 : decode cL_isBuilt 232 = .ok (.pop, 1) := by decide +kernel
theorem dL_isBuilt_233 : decode cL_isBuilt 233 = .ok (.iconst 0, 1) := by decide +kernel
theorem dL_isBuilt_234 : decode cL_isBuilt 234 = .ok (.istore_n 2, 1) := by decide +kernel
theorem dL_isBuilt_235 : decode cL_isBuilt 235 = .ok (.iconst (-1), 1) := by decide +kernel
theorem dL_isBuilt_236 : decode cL_isBuilt 236 = .ok (.istore_n 3, 1) := by decide +kernel
theorem dL_isBuilt_237 : decode cL_isBuilt 237 = .ok (.aload_n 0, 1) := by decide +kernel
theorem dL_isBuilt_238 : decode cL_isBuilt 238 = .ok (.getfield 10, 3) := by decide +kernel
theorem dL_isBuilt_241 : decode cL_isBuilt 241 = .ok (.iload_n 1, 1) := by decide +kernel
theorem dL_isBuilt_242 : decode cL_isBuilt 242 = .ok (.iconst 0, 1) := by decide +kernel
theorem dL_isBuilt_243 : decode cL_isBuilt 243 = .ok (.invokevirtual 125, 3) := by decide +kernel
theorem dL_isBuilt_246 : decode cL_isBuilt 246 = .ok (.istore 4, 2) := by decide +kernel
theorem dL_isBuilt_248 : decode cL_isBuilt 248 = .ok (.iload 4, 2) := by decide +kernel
theorem dL_isBuilt_250 : decode cL_isBuilt 250 = .ok (.iconst (-1), 1) := by decide +kernel
theorem dL_isBuilt_251 : decode cL_isBuilt 251 = .ok (.if_icmp .eq 72, 3) := by decide +kernel
theorem dL_isBuilt_254 : decode cL_isBuilt 254 = .ok (.aload_n 0, 1) := by decide +kernel
theorem dL_isBuilt_255 : decode cL_isBuilt 255 = .ok (.getfield 10, 3) := by decide +kernel
theorem dL_isBuilt_258 : decode cL_isBuilt 258 = .ok (.bipush 6, 2) := by decide +kernel
theorem dL_isBuilt_260 : decode cL_isBuilt 260 = .ok (.iload 4, 2) := by decide +kernel
theorem dL_isBuilt_262 : decode cL_isBuilt 262 = .ok (.invokevirtual 178, 3) := by decide +kernel
theorem dL_isBuilt_265 : decode cL_isBuilt 265 = .ok (.ifCond .eq 33, 3) := by decide +kernel
theorem dL_isBuilt_268 : decode cL_isBuilt 268 = .ok (.aload_n 0, 1) := by decide +kernel
theorem dL_isBuilt_269 : decode cL_isBuilt 269 = .ok (.getfield 10, 3) := by decide +kernel
theorem dL_isBuilt_272 : decode cL_isBuilt 272 = .ok (.iload_n 1, 1) := by decide +kernel
theorem dL_isBuilt_273 : decode cL_isBuilt 273 = .ok (.iload_n 2, 1) := by decide +kernel
theorem dL_isBuilt_274 : decode cL_isBuilt 274 = .ok (.invokevirtual 181, 3) := by decide +kernel
theorem dL_isBuilt_277 : decode cL_isBuilt 277 = .ok (.iload 4, 2) := by decide +kernel
theorem dL_isBuilt_279 : decode cL_isBuilt 279 = .ok (.if_icmp .ne 19, 3) := by decide +kernel
theorem dL_isBuilt_282 : decode cL_isBuilt 282 = .ok (.aload_n 0, 1) := by decide +kernel
theorem dL_isBuilt_283 : decode cL_isBuilt 283 = .ok (.getfield 10, 3) := by decide +kernel
theorem dL_isBuilt_286 : decode cL_isBuilt 286 = .ok (.iload_n 1, 1) := by decide +kernel
theorem dL_isBuilt_287 : decode cL_isBuilt 287 = .ok (.iload 4, 2) := by decide +kernel
theorem dL_isBuilt_289 : decode cL_isBuilt 289 = .ok (.iconst 1, 1) := by decide +kernel
theorem dL_isBuilt_290 : decode cL_isBuilt 290 = .ok (.isub, 1) := by decide +kernel
theorem dL_isBuilt_291 : decode cL_isBuilt 291 = .ok (.invokevirtual 184, 3) := by decide +kernel
theorem dL_isBuilt_294 : decode cL_isBuilt 294 = .ok (.iload_n 3, 1) := by decide +kernel
theorem dL_isBuilt_295 : decode cL_isBuilt 295 = .ok (.if_icmp .eq 5, 3) := by decide +kernel
theorem dL_isBuilt_298 : decode cL_isBuilt 298 = .ok (.iconst 0, 1) := by decide +kernel
theorem dL_isBuilt_299 : decode cL_isBuilt 299 = .ok (.ireturn, 1) := by decide +kernel
theorem dL_isBuilt_300 : decode cL_isBuilt 300 = .ok (.iload 4, 2) := by decide +kernel
theorem dL_isBuilt_302 : decode cL_isBuilt 302 = .ok (.istore_n 3, 1) := by decide +kernel
theorem dL_isBuilt_303 : decode cL_isBuilt 303 = .ok (.iinc 2 1, 3) := by decide +kernel
theorem dL_isBuilt_306 : decode cL_isBuilt 306 = .ok (.aload_n 0, 1) := by decide +kernel
theorem dL_isBuilt_307 : decode cL_isBuilt 307 = .ok (.getfield 10, 3) := by decide +kernel
theorem dL_isBuilt_310 : decode cL_isBuilt 310 = .ok (.iload_n 1, 1) := by decide +kernel
theorem dL_isBuilt_311 : decode cL_isBuilt 311 = .ok (.iload 4, 2) := by decide +kernel
theorem dL_isBuilt_313 : decode cL_isBuilt 313 = .ok (.iconst 1, 1) := by decide +kernel
theorem dL_isBuilt_314 : decode cL_isBuilt 314 = .ok (.iadd, 1) := by decide +kernel
theorem dL_isBuilt_315 : decode cL_isBuilt 315 = .ok (.invokevirtual 125, 3) := by decide +kernel
theorem dL_isBuilt_318 : decode cL_isBuilt 318 = .ok (.istore 4, 2) := by decide +kernel
theorem dL_isBuilt_320 : decode cL_isBuilt 320 = .ok (.goto (-72), 3) := by decide +kernel
theorem dL_isBuilt_323 : decode cL_isBuilt 323 = .ok (.aload_n 0, 1) := by decide +kernel
theorem dL_isBuilt_324 : decode cL_isBuilt 324 = .ok (.getfield 10, 3) := by decide +kernel
theorem dL_isBuilt_327 : decode cL_isBuilt 327 = .ok (.bipush 6, 2) := by decide +kernel
theorem dL_isBuilt_329 : decode cL_isBuilt 329 = .ok (.iload_n 1, 1) := by decide +kernel
theorem dL_isBuilt_330 : decode cL_isBuilt 330 = .ok (.invokevirtual 119, 3) := by decide +kernel
theorem dL_isBuilt_333 : decode cL_isBuilt 333 = .ok (.ifCond .eq 52, 3) := by decide +kernel
theorem dL_isBuilt_336 : decode cL_isBuilt 336 = .ok (.aload_n 0, 1) := by decide +kernel
theorem dL_isBuilt_337 : decode cL_isBuilt 337 = .ok (.getfield 10, 3) := by decide +kernel
theorem dL_isBuilt_340 : decode cL_isBuilt 340 = .ok (.iload_n 1, 1) := by decide +kernel
theorem dL_isBuilt_341 : decode cL_isBuilt 341 = .ok (.iload_n 2, 1) := by decide +kernel
theorem dL_isBuilt_342 : decode cL_isBuilt 342 = .ok (.invokevirtual 181, 3) := by decide +kernel
theorem dL_isBuilt_345 : decode cL_isBuilt 345 = .ok (.iconst (-1), 1) := by decide +kernel
theorem dL_isBuilt_346 : decode cL_isBuilt 346 = .ok (.if_icmp .ne 39, 3) := by decide +kernel
theorem dL_isBuilt_349 : decode cL_isBuilt 349 = .ok (.iload_n 3, 1) := by decide +kernel
theorem dL_isBuilt_350 : decode cL_isBuilt 350 = .ok (.aload_n 0, 1) := by decide +kernel
theorem dL_isBuilt_351 : decode cL_isBuilt 351 = .ok (.getfield 10, 3) := by decide +kernel
theorem dL_isBuilt_354 : decode cL_isBuilt 354 = .ok (.iload_n 1, 1) := by decide +kernel
theorem dL_isBuilt_355 : decode cL_isBuilt 355 = .ok (.invokevirtual 172, 3) := by decide +kernel
theorem dL_isBuilt_358 : decode cL_isBuilt 358 = .ok (.iconst 1, 1) := by decide +kernel
theorem dL_isBuilt_359 : decode cL_isBuilt 359 = .ok (.isub, 1) := by decide +kernel
theorem dL_isBuilt_360 : decode cL_isBuilt 360 = .ok (.if_icmp .ne 25, 3) := by decide +kernel
theorem dL_isBuilt_363 : decode cL_isBuilt 363 = .ok (.aload_n 0, 1) := by decide +kernel
theorem dL_isBuilt_364 : decode cL_isBuilt 364 = .ok (.getfield 10, 3) := by decide +kernel
theorem dL_isBuilt_367 : decode cL_isBuilt 367 = .ok (.iload_n 1, 1) := by decide +kernel
theorem dL_isBuilt_368 : decode cL_isBuilt 368 = .ok (.sipush 1024, 3) := by decide +kernel
theorem dL_isBuilt_371 : decode cL_isBuilt 371 = .ok (.aload_n 0, 1) := by decide +kernel
theorem dL_isBuilt_372 : decode cL_isBuilt 372 = .ok (.bipush 9, 2) := by decide +kernel
theorem dL_isBuilt_374 : decode cL_isBuilt 374 = .ok (.invokevirtual 26, 3) := by decide +kernel
theorem dL_isBuilt_377 : decode cL_isBuilt 377 = .ok (.iadd, 1) := by decide +kernel
theorem dL_isBuilt_378 : decode cL_isBuilt 378 = .ok (.invokevirtual 184, 3) := by decide +kernel
theorem dL_isBuilt_381 : decode cL_isBuilt 381 = .ok (.iload_n 3, 1) := by decide +kernel
theorem dL_isBuilt_382 : decode cL_isBuilt 382 = .ok (.if_icmp .eq 5, 3) := by decide +kernel
theorem dL_isBuilt_385 : decode cL_isBuilt 385 = .ok (.iconst 0, 1) := by decide +kernel
theorem dL_isBuilt_386 : decode cL_isBuilt 386 = .ok (.ireturn, 1) := by decide +kernel
theorem dL_isBuilt_387 : decode cL_isBuilt 387 = .ok (.aload_n 0, 1) := by decide +kernel
theorem dL_isBuilt_388 : decode cL_isBuilt 388 = .ok (.getfield 10, 3) := by decide +kernel
theorem dL_isBuilt_391 : decode cL_isBuilt 391 = .ok (.iload_n 1, 1) := by decide +kernel
theorem dL_isBuilt_392 : decode cL_isBuilt 392 = .ok (.aload_n 0, 1) := by decide +kernel
theorem dL_isBuilt_393 : decode cL_isBuilt 393 = .ok (.sipush 1024, 3) := by decide +kernel
theorem dL_isBuilt_396 : decode cL_isBuilt 396 = .ok (.invokevirtual 26, 3) := by decide +kernel
theorem dL_isBuilt_399 : decode cL_isBuilt 399 = .ok (.invokevirtual 187, 3) := by decide +kernel
theorem dL_isBuilt_402 : decode cL_isBuilt 402 = .ok (.istore 4, 2) := by decide +kernel
theorem dL_isBuilt_404 : decode cL_isBuilt 404 = .ok (.aload_n 0, 1) := by decide +kernel
theorem dL_isBuilt_405 : decode cL_isBuilt 405 = .ok (.getfield 10, 3) := by decide +kernel
theorem dL_isBuilt_408 : decode cL_isBuilt 408 = .ok (.iload_n 1, 1) := by decide +kernel
theorem dL_isBuilt_409 : decode cL_isBuilt 409 = .ok (.iload 4, 2) := by decide +kernel
theorem dL_isBuilt_411 : decode cL_isBuilt 411 = .ok (.invokevirtual 84, 3) := by decide +kernel
theorem dL_isBuilt_414 : decode cL_isBuilt 414 = .ok (.ifCond .ne 66, 3) := by decide +kernel
theorem dL_isBuilt_417 : decode cL_isBuilt 417 = .ok (.aload_n 0, 1) := by decide +kernel
theorem dL_isBuilt_418 : decode cL_isBuilt 418 = .ok (.getfield 10, 3) := by decide +kernel
theorem dL_isBuilt_421 : decode cL_isBuilt 421 = .ok (.iload_n 1, 1) := by decide +kernel
theorem dL_isBuilt_422 : decode cL_isBuilt 422 = .ok (.iload 4, 2) := by decide +kernel
theorem dL_isBuilt_424 : decode cL_isBuilt 424 = .ok (.invokevirtual 190, 3) := by decide +kernel
theorem dL_isBuilt_427 : decode cL_isBuilt 427 = .ok (.iload 4, 2) := by decide +kernel
theorem dL_isBuilt_429 : decode cL_isBuilt 429 = .ok (.if_icmp .ne 51, 3) := by decide +kernel
theorem dL_isBuilt_432 : decode cL_isBuilt 432 = .ok (.iload 4, 2) := by decide +kernel
theorem dL_isBuilt_434 : decode cL_isBuilt 434 = .ok (.ifCond .eq 42, 3) := by decide +kernel
theorem dL_isBuilt_437 : decode cL_isBuilt 437 = .ok (.aload_n 0, 1) := by decide +kernel
theorem dL_isBuilt_438 : decode cL_isBuilt 438 = .ok (.getfield 10, 3) := by decide +kernel
theorem dL_isBuilt_441 : decode cL_isBuilt 441 = .ok (.iload_n 1, 1) := by decide +kernel
theorem dL_isBuilt_442 : decode cL_isBuilt 442 = .ok (.iload 4, 2) := by decide +kernel
theorem dL_isBuilt_444 : decode cL_isBuilt 444 = .ok (.iconst 1, 1) := by decide +kernel
theorem dL_isBuilt_445 : decode cL_isBuilt 445 = .ok (.isub, 1) := by decide +kernel
theorem dL_isBuilt_446 : decode cL_isBuilt 446 = .ok (.invokevirtual 187, 3) := by decide +kernel
theorem dL_isBuilt_449 : decode cL_isBuilt 449 = .ok (.aload_n 0, 1) := by decide +kernel
theorem dL_isBuilt_450 : decode cL_isBuilt 450 = .ok (.getfield 10, 3) := by decide +kernel
theorem dL_isBuilt_453 : decode cL_isBuilt 453 = .ok (.iload_n 1, 1) := by decide +kernel
theorem dL_isBuilt_454 : decode cL_isBuilt 454 = .ok (.iload 4, 2) := by decide +kernel
theorem dL_isBuilt_456 : decode cL_isBuilt 456 = .ok (.iconst 1, 1) := by decide +kernel
theorem dL_isBuilt_457 : decode cL_isBuilt 457 = .ok (.isub, 1) := by decide +kernel
theorem dL_isBuilt_458 : decode cL_isBuilt 458 = .ok (.invokevirtual 84, 3) := by decide +kernel
theorem dL_isBuilt_461 : decode cL_isBuilt 461 = .ok (.ifCond .eq 8, 3) := by decide +kernel
theorem dL_isBuilt_464 : decode cL_isBuilt 464 = .ok (.iload 4, 2) := by decide +kernel
theorem dL_isBuilt_466 : decode cL_isBuilt 466 = .ok (.goto 7, 3) := by decide +kernel
theorem dL_isBuilt_469 : decode cL_isBuilt 469 = .ok (.iload 4, 2) := by decide +kernel
theorem dL_isBuilt_471 : decode cL_isBuilt 471 = .ok (.iconst 1, 1) := by decide +kernel
theorem dL_isBuilt_472 : decode cL_isBuilt 472 = .ok (.isub, 1) := by decide +kernel
theorem dL_isBuilt_473 : decode cL_isBuilt 473 = .ok (.if_icmp .ne 7, 3) := by decide +kernel
theorem dL_isBuilt_476 : decode cL_isBuilt 476 = .ok (.iconst 1, 1) := by decide +kernel
theorem dL_isBuilt_477 : decode cL_isBuilt 477 = .ok (.goto 4, 3) := by decide +kernel
theorem dL_isBuilt_480 : decode cL_isBuilt 480 = .ok (.iconst 0, 1) := by decide +kernel
theorem dL_isBuilt_481 : decode cL_isBuilt 481 = .ok (.ireturn, 1) := by decide +kernel
theorem dL_isPart_0 : decode cL_isPart 0 = .ok (.aload_n 0, 1) := by decide +kernel
theorem dL_isPart_1 : decode cL_isPart 1 = .ok (.invokevirtual 41, 3) := by decide +kernel
theorem dL_isPart_4 : decode cL_isPart 4 = .ok (.istore_n 1, 1) := by decide +kernel
theorem dL_isPart_5 : decode cL_isPart 5 = .ok (.aload_n 0, 1) := by decide +kernel
theorem dL_isPart_6 : decode cL_isPart 6 = .ok (.invokevirtual 41, 3) := by decide +kernel
theorem dL_isPart_9 : decode cL_isPart 9 = .ok (.istore_n 2, 1) := by decide +kernel
theorem dL_isPart_10 : decode cL_isPart 10 = .ok (.iload_n 1, 1) := by decide +kernel
theorem dL_isPart_11 : decode cL_isPart 11 = .ok (.iload_n 2, 1) := by decide +kernel
theorem dL_isPart_12 : decode cL_isPart 12 = .ok (.invokestatic 32, 3) := by decide +kernel
theorem dL_isPart_15 : decode cL_isPart 15 = .ok (.istore_n 3, 1) := by decide +kernel
theorem dL_isPart_16 : decode cL_isPart 16 = .ok (.iload_n 1, 1) := by decide +kernel
theorem dL_isPart_17 : decode cL_isPart 17 = .ok (.iload_n 2, 1) := by decide +kernel
theorem dL_isPart_18 : decode cL_isPart 18 = .ok (.invokestatic 38, 3) := by decide +kernel
theorem dL_isPart_21 : decode cL_isPart 21 = .ok (.istore 4, 2) := by decide +kernel
theorem dL_isPart_23 : decode cL_isPart 23 = .ok (.aload_n 0, 1) := by decide +kernel
theorem dL_isPart_24 : decode cL_isPart 24 = .ok (.getfield 10, 3) := by decide +kernel
theorem dL_isPart_27 : decode cL_isPart 27 = .ok (.iconst 5, 1) := by decide +kernel
theorem dL_isPart_28 : decode cL_isPart 28 = .ok (.iconst 0, 1) := by decide +kernel
theorem dL_isPart_29 : decode cL_isPart 29 = .ok (.iload_n 3, 1) := by decide +kernel
theorem dL_isPart_30 : decode cL_isPart 30 = .ok (.iload 4, 2) := by decide +kernel
theorem dL_isPart_32 : decode cL_isPart 32 = .ok (.invokevirtual 69, 3) := by decide +kernel
theorem dL_isPart_35 : decode cL_isPart 35 = .ok (.istore 5, 2) := by decide +kernel
theorem dL_isPart_37 : decode cL_isPart 37 = .ok (.iload 5, 2) := by decide +kernel
theorem dL_isPart_39 : decode cL_isPart 39 = .ok (.aload_n 0, 1) := by decide +kernel
theorem dL_isPart_40 : decode cL_isPart 40 = .ok (.getfield 10, 3) := by decide +kernel
theorem dL_isPart_43 : decode cL_isPart 43 = .ok (.iconst 0, 1) := by decide +kernel
theorem dL_isPart_44 : decode cL_isPart 44 = .ok (.iload_n 3, 1) := by decide +kernel
theorem dL_isPart_45 : decode cL_isPart 45 = .ok (.iload 4, 2) := by decide +kernel
theorem dL_isPart_47 : decode cL_isPart 47 = .ok (.invokevirtual 193, 3) := by decide +kernel
theorem dL_isPart_50 : decode cL_isPart 50 = .ok (.if_icmp .ne 18, 3) := by decide +kernel
theorem dL_isPart_53 : decode cL_isPart 53 = .ok (.aload_n 0, 1) := by decide +kernel
theorem dL_isPart_54 : decode cL_isPart 54 = .ok (.getfield 10, 3) := by decide +kernel
theorem dL_isPart_57 : decode cL_isPart 57 = .ok (.iconst 5, 1) := by decide +kernel
theorem dL_isPart_58 : decode cL_isPart 58 = .ok (.invokevirtual 172, 3) := by decide +kernel
theorem dL_isPart_61 : decode cL_isPart 61 = .ok (.iload 4, 2) := by decide +kernel
theorem dL_isPart_63 : decode cL_isPart 63 = .ok (.iload_n 3, 1) := by decide +kernel
theorem dL_isPart_64 : decode cL_isPart 64 = .ok (.isub, 1) := by decide +kernel
theorem dL_isPart_65 : decode cL_isPart 65 = .ok (.if_icmp .le 5, 3) := by decide +kernel
theorem dL_isPart_68 : decode cL_isPart 68 = .ok (.iconst 0, 1) := by decide +kernel
theorem dL_isPart_69 : decode cL_isPart 69 = .ok (.ireturn, 1) := by decide +kernel
theorem dL_isPart_70 : decode cL_isPart 70 = .ok (.iload_n 3, 1) := by decide +kernel
theorem dL_isPart_71 : decode cL_isPart 71 = .ok (.sipush 1024, 3) := by decide +kernel
theorem dL_isPart_74 : decode cL_isPart 74 = .ok (.if_icmp .ge 19, 3) := by decide +kernel
theorem dL_isPart_77 : decode cL_isPart 77 = .ok (.aload_n 0, 1) := by decide +kernel
theorem dL_isPart_78 : decode cL_isPart 78 = .ok (.getfield 10, 3) := by decide +kernel
theorem dL_isPart_81 : decode cL_isPart 81 = .ok (.iconst 5, 1) := by decide +kernel
theorem dL_isPart_82 : decode cL_isPart 82 = .ok (.iload_n 3, 1) := by decide +kernel
theorem dL_isPart_83 : decode cL_isPart 83 = .ok (.invokevirtual 66, 3) := by decide +kernel
theorem dL_isPart_86 : decode cL_isPart 86 = .ok (.iload 5, 2) := by decide +kernel
theorem dL_isPart_88 : decode cL_isPart 88 = .ok (.if_icmp .eq 5, 3) := by decide +kernel
theorem dL_isPart_91 : decode cL_isPart 91 = .ok (.iconst 0, 1) := by decide +kernel
theorem dL_isPart_92 : decode cL_isPart 92 = .ok (.ireturn, 1) := by decide +kernel
theorem dL_isPart_93 : decode cL_isPart 93 = .ok (.aload_n 0, 1) := by decide +kernel
theorem dL_isPart_94 : decode cL_isPart 94 = .ok (.getfield 10, 3) := by decide +kernel
theorem dL_isPart_97 : decode cL_isPart 97 = .ok (.bipush 6, 2) := by decide +kernel
theorem dL_isPart_99 : decode cL_isPart 99 = .ok (.invokevirtual 175, 3) := by decide +kernel
theorem dL_isPart_102 : decode cL_isPart 102 = .ok (.pop, 1) := by decide +kernel
theorem dL_isPart_103 : decode cL_isPart 103 = .ok (.aload_n 0, 1) := by decide +kernel
theorem dL_isPart_104 : decode cL_isPart 104 = .ok (.getfield 10, 3) := by decide +kernel
theorem dL_isPart_107 : decode cL_isPart 107 = .ok (.bipush 6, 2) := by decide +kernel
theorem dL_isPart_109 : decode cL_isPart 109 = .ok (.iload_n 3, 1) := by decide +kernel
theorem dL_isPart_110 : decode cL_isPart 110 = .ok (.iload 4, 2) := by decide +kernel
theorem dL_isPart_112 : decode cL_isPart 112 = .ok (.invokevirtual 45, 3) := by decide +kernel
theorem dL_isPart_115 : decode cL_isPart 115 = .ok (.iload 4, 2) := by decide +kernel
theorem dL_isPart_117 : decode cL_isPart 117 = .ok (.iload_n 3, 1) := by decide +kernel
theorem dL_isPart_118 : decode cL_isPart 118 = .ok (.isub, 1) := by decide +kernel
theorem dL_isPart_119 : decode cL_isPart 119 = .ok (.if_icmp .ne 18, 3) := by decide +kernel
theorem dL_isPart_122 : decode cL_isPart 122 = .ok (.aload_n 0, 1) := by decide +kernel
theorem dL_isPart_123 : decode cL_isPart 123 = .ok (.getfield 10, 3) := by decide +kernel
theorem dL_isPart_126 : decode cL_isPart 126 = .ok (.bipush 6, 2) := by decide +kernel
theorem dL_isPart_128 : decode cL_isPart 128 = .ok (.iconst 0, 1) := by decide +kernel
theorem dL_isPart_129 : decode cL_isPart 129 = .ok (.invokevirtual 113, 3) := by decide +kernel
theorem dL_isPart_132 : decode cL_isPart 132 = .ok (.iload 5, 2) := by decide +kernel
theorem dL_isPart_134 : decode cL_isPart 134 = .ok (.if_icmp .eq 5, 3) := by decide +kernel
theorem dL_isPart_137 : decode cL_isPart 137 = .ok (.iconst 0, 1) := by decide +kernel
theorem dL_isPart_138 : decode cL_isPart 138 = .ok (.ireturn, 1) := by decide +kernel
theorem dL_isPart_139 : decode cL_isPart 139 = .ok (.iload_n 3, 1) := by decide +kernel
theorem dL_isPart_140 : decode cL_isPart 140 = .ok (.sipush 1024, 3) := by decide +kernel
theorem dL_isPart_143 : decode cL_isPart 143 = .ok (.if_icmp .eq 16, 3) := by decide +kernel
theorem dL_isPart_146 : decode cL_isPart 146 = .ok (.aload_n 0, 1) := by decide +kernel
theorem dL_isPart_147 : decode cL_isPart 147 = .ok (.getfield 10, 3) := by decide +kernel
theorem dL_isPart_150 : decode cL_isPart 150 = .ok (.iconst 5, 1) := by decide +kernel
theorem dL_isPart_151 : decode cL_isPart 151 = .ok (.bipush 6, 2) := by decide +kernel
theorem dL_isPart_153 : decode cL_isPart 153 = .ok (.invokevirtual 119, 3) := by decide +kernel
theorem dL_isPart_156 : decode cL_isPart 156 = .ok (.ifCond .eq 7, 3) := by decide +kernel
theorem dL_isPart_159 : decode cL_isPart 159 = .ok (.iconst 1, 1) := by decide +kernel
theorem dL_isPart_160 : decode cL_isPart 160 = .ok (.goto 4, 3) := by decide +kernel
theorem dL_isPart_163 : decode cL_isPart 163 = .ok (.iconst 0, 1) := by decide +kernel
theorem dL_isPart_164 : decode cL_isPart 164 = .ok (.ireturn, 1) := by decide +kernel
theorem dL_says_0 : decode cL_says 0 = .ok (.iconst 0, 1) := by decide +kernel
theorem dL_says_1 : decode cL_says 1 = .ok (.istore_n 2, 1) := by decide +kernel
theorem dL_says_2 : decode cL_says 2 = .ok (.iconst 0, 1) := by decide +kernel
theorem dL_says_3 : decode cL_says 3 = .ok (.istore_n 3, 1) := by decide +kernel
theorem dL_says_4 : decode cL_says 4 = .ok (.iload_n 3, 1) := by decide +kernel
theorem dL_says_5 : decode cL_says 5 = .ok (.aload_n 1, 1) := by decide +kernel
theorem dL_says_6 : decode cL_says 6 = .ok (.invokevirtual 196, 3) := by decide +kernel
theorem dL_says_9 : decode cL_says 9 = .ok (.if_icmp .ge 66, 3) := by decide +kernel
theorem dL_says_12 : decode cL_says 12 = .ok (.iconst 0, 1) := by decide +kernel
theorem dL_says_13 : decode cL_says 13 = .ok (.istore 4, 2) := by decide +kernel
theorem dL_says_15 : decode cL_says 15 = .ok (.iload_n 3, 1) := by decide +kernel
theorem dL_says_16 : decode cL_says 16 = .ok (.istore 5, 2) := by decide +kernel
theorem dL_says_18 : decode cL_says 18 = .ok (.iload 5, 2) := by decide +kernel
theorem dL_says_20 : decode cL_says 20 = .ok (.iload_n 3, 1) := by decide +kernel
theorem dL_says_21 : decode cL_says 21 = .ok (.iconst 4, 1) := by decide +kernel
theorem dL_says_22 : decode cL_says 22 = .ok (.iadd, 1) := by decide +kernel
theorem dL_says_23 : decode cL_says 23 = .ok (.if_icmp .ge 32, 3) := by decide +kernel
theorem dL_says_26 : decode cL_says 26 = .ok (.iload 5, 2) := by decide +kernel
theorem dL_says_28 : decode cL_says 28 = .ok (.aload_n 1, 1) := by decide +kernel
theorem dL_says_29 : decode cL_says 29 = .ok (.invokevirtual 196, 3) := by decide +kernel
theorem dL_says_32 : decode cL_says 32 = .ok (.if_icmp .ge 23, 3) := by decide +kernel
theorem dL_says_35 : decode cL_says 35 = .ok (.iload 4, 2) := by decide +kernel
theorem dL_says_37 : decode cL_says 37 = .ok (.bipush 8, 2) := by decide +kernel
theorem dL_says_39 : decode cL_says 39 = .ok (.ishl, 1) := by decide +kernel
theorem dL_says_40 : decode cL_says 40 = .ok (.aload_n 1, 1) := by decide +kernel
theorem dL_says_41 : decode cL_says 41 = .ok (.iload 5, 2) := by decide +kernel
theorem dL_says_43 : decode cL_says 43 = .ok (.invokevirtual 200, 3) := by decide +kernel
theorem dL_says_46 : decode cL_says 46 = .ok (.ior, 1) := by decide +kernel
theorem dL_says_47 : decode cL_says 47 = .ok (.istore 4, 2) := by decide +kernel
theorem dL_says_49 : decode cL_says 49 = .ok (.iinc 5 1, 3) := by decide +kernel
theorem dL_says_52 : decode cL_says 52 = .ok (.goto (-34), 3) := by decide +kernel
theorem dL_says_55 : decode cL_says 55 = .ok (.aload_n 0, 1) := by decide +kernel
theorem dL_says_56 : decode cL_says 56 = .ok (.getfield 10, 3) := by decide +kernel
theorem dL_says_59 : decode cL_says 59 = .ok (.iload 4, 2) := by decide +kernel
theorem dL_says_61 : decode cL_says 61 = .ok (.iconst 0, 1) := by decide +kernel
theorem dL_says_62 : decode cL_says 62 = .ok (.iconst 0, 1) := by decide +kernel
theorem dL_says_63 : decode cL_says 63 = .ok (.iconst 0, 1) := by decide +kernel
theorem dL_says_64 : decode cL_says 64 = .ok (.iconst 0, 1) := by decide +kernel
theorem dL_says_65 : decode cL_says 65 = .ok (.invokevirtual 204, 3) := by decide +kernel
theorem dL_says_68 : decode cL_says 68 = .ok (.istore_n 2, 1) := by decide +kernel
theorem dL_says_69 : decode cL_says 69 = .ok (.iinc 3 4, 3) := by decide +kernel
theorem dL_says_72 : decode cL_says 72 = .ok (.goto (-68), 3) := by decide +kernel
theorem dL_says_75 : decode cL_says 75 = .ok (.iload_n 2, 1) := by decide +kernel
theorem dL_says_76 : decode cL_says 76 = .ok (.ireturn, 1) := by decide +kernel
theorem dL_isScript_0 : decode cL_isScript 0 = .ok (.sipush 1023, 3) := by decide +kernel
theorem dL_isScript_3 : decode cL_isScript 3 = .ok (.aload_n 0, 1) := by decide +kernel
theorem dL_isScript_4 : decode cL_isScript 4 = .ok (.invokevirtual 41, 3) := by decide +kernel
theorem dL_isScript_7 : decode cL_isScript 7 = .ok (.invokestatic 32, 3) := by decide +kernel
theorem dL_isScript_10 : decode cL_isScript 10 = .ok (.istore_n 1, 1) := by decide +kernel
theorem dL_isScript_11 : decode cL_isScript 11 = .ok (.sipush 1023, 3) := by decide +kernel
theorem dL_isScript_14 : decode cL_isScript 14 = .ok (.aload_n 0, 1) := by decide +kernel
theorem dL_isScript_15 : decode cL_isScript 15 = .ok (.invokevirtual 41, 3) := by decide +kernel
theorem dL_isScript_18 : decode cL_isScript 18 = .ok (.invokestatic 32, 3) := by decide +kernel
theorem dL_isScript_21 : decode cL_isScript 21 = .ok (.istore_n 2, 1) := by decide +kernel
theorem dL_isScript_22 : decode cL_isScript 22 = .ok (.iload_n 1, 1) := by decide +kernel
theorem dL_isScript_23 : decode cL_isScript 23 = .ok (.iload_n 2, 1) := by decide +kernel
theorem dL_isScript_24 : decode cL_isScript 24 = .ok (.invokestatic 32, 3) := by decide +kernel
theorem dL_isScript_27 : decode cL_isScript 27 = .ok (.istore_n 3, 1) := by decide +kernel
theorem dL_isScript_28 : decode cL_isScript 28 = .ok (.iload_n 1, 1) := by decide +kernel
theorem dL_isScript_29 : decode cL_isScript 29 = .ok (.iload_n 2, 1) := by decide +kernel
theorem dL_isScript_30 : decode cL_isScript 30 = .ok (.invokestatic 38, 3) := by decide +kernel
theorem dL_isScript_33 : decode cL_isScript 33 = .ok (.istore 4, 2) := by decide +kernel
theorem dL_isScript_35 : decode cL_isScript 35 = .ok (.ldc 208, 2) := by decide +kernel
theorem dL_isScript_37 : decode cL_isScript 37 = .ok (.aload_n 0, 1) := by decide +kernel
theorem dL_isScript_38 : decode cL_isScript 38 = .ok (.iconst 4, 1) := by decide +kernel
theorem dL_isScript_39 : decode cL_isScript 39 = .ok (.invokevirtual 26, 3) := by decide +kernel
theorem dL_isScript_42 : decode cL_isScript 42 = .ok (.invokevirtual 200, 3) := by decide +kernel
theorem dL_isScript_45 : decode cL_isScript 45 = .ok (.istore 5, 2) := by decide +kernel
theorem dL_isScript_47 : decode cL_isScript 47 = .ok (.new 210, 3) := by decide +kernel
theorem dL_isScript_50 : decode cL_isScript 50 = .ok (.dup, 1) := by decide +kernel
theorem dL_isScript_51 : decode cL_isScript 51 = .ok (.invokespecial 212, 3) := by decide +kernel
theorem dL_isScript_54 : decode cL_isScript 54 = .ok (.ldc 213, 2) := by decide +kernel
theorem dL_isScript_56 : decode cL_isScript 56 = .ok (.invokevirtual 215, 3) := by decide +kernel
theorem dL_isScript_59 : decode cL_isScript 59 = .ok (.iload 5, 2) := by decide +kernel
theorem dL_isScript_61 : decode cL_isScript 61 = .ok (.invokevirtual 218, 3) := by decide +kernel
theorem dL_isScript_64 : decode cL_isScript 64 = .ok (.ldc 221, 2) := by decide +kernel
theorem dL_isScript_66 : decode cL_isScript 66 = .ok (.invokevirtual 215, 3) := by decide +kernel
theorem dL_isScript_69 : decode cL_isScript 69 = .ok (.iload_n 3, 1) := by decide +kernel
theorem dL_isScript_70 : decode cL_isScript 70 = .ok (.invokevirtual 223, 3) := by decide +kernel
theorem dL_isScript_73 : decode cL_isScript 73 = .ok (.ldc 226, 2) := by decide +kernel
theorem dL_isScript_75 : decode cL_isScript 75 = .ok (.invokevirtual 215, 3) := by decide +kernel
theorem dL_isScript_78 : decode cL_isScript 78 = .ok (.iload 4, 2) := by decide +kernel
theorem dL_isScript_80 : decode cL_isScript 80 = .ok (.invokevirtual 223, 3) := by decide +kernel
theorem dL_isScript_83 : decode cL_isScript 83 = .ok (.ldc 228, 2) := by decide +kernel
theorem dL_isScript_85 : decode cL_isScript 85 = .ok (.invokevirtual 215, 3) := by decide +kernel
theorem dL_isScript_88 : decode cL_isScript 88 = .ok (.iload_n 2, 1) := by decide +kernel
theorem dL_isScript_89 : decode cL_isScript 89 = .ok (.invokevirtual 223, 3) := by decide +kernel
theorem dL_isScript_92 : decode cL_isScript 92 = .ok (.ldc 230, 2) := by decide +kernel
theorem dL_isScript_94 : decode cL_isScript 94 = .ok (.invokevirtual 215, 3) := by decide +kernel
theorem dL_isScript_97 : decode cL_isScript 97 = .ok (.invokevirtual 232, 3) := by decide +kernel
theorem dL_isScript_100 : decode cL_isScript 100 = .ok (.astore 6, 2) := by decide +kernel
theorem dL_isScript_102 : decode cL_isScript 102 = .ok (.aload_n 0, 1) := by decide +kernel
theorem dL_isScript_103 : decode cL_isScript 103 = .ok (.aload 6, 2) := by decide +kernel
theorem dL_isScript_105 : decode cL_isScript 105 = .ok (.invokevirtual 236, 3) := by decide +kernel
theorem dL_isScript_108 : decode cL_isScript 108 = .ok (.aload 6, 2) := by decide +kernel
theorem dL_isScript_110 : decode cL_isScript 110 = .ok (.invokevirtual 196, 3) := by decide +kernel
theorem dL_isScript_113 : decode cL_isScript 113 = .ok (.if_icmp .ne 36, 3) := by decide +kernel
theorem dL_isScript_116 : decode cL_isScript 116 = .ok (.aload_n 0, 1) := by decide +kernel
theorem dL_isScript_117 : decode cL_isScript 117 = .ok (.getfield 10, 3) := by decide +kernel
theorem dL_isScript_120 : decode cL_isScript 120 = .ok (.invokevirtual 240, 3) := by decide +kernel
theorem dL_isScript_123 : decode cL_isScript 123 = .ok (.iconst 4, 1) := by decide +kernel
theorem dL_isScript_124 : decode cL_isScript 124 = .ok (.if_icmp .ne 25, 3) := by decide +kernel
theorem dL_isScript_127 : decode cL_isScript 127 = .ok (.aload_n 0, 1) := by decide +kernel
theorem dL_isScript_128 : decode cL_isScript 128 = .ok (.getfield 10, 3) := by decide +kernel
theorem dL_isScript_131 : decode cL_isScript 131 = .ok (.invokevirtual 243, 3) := by decide +kernel
theorem dL_isScript_134 : decode cL_isScript 134 = .ok (.iconst (-1), 1) := by decide +kernel
theorem dL_isScript_135 : decode cL_isScript 135 = .ok (.if_icmp .ne 14, 3) := by decide +kernel
theorem dL_isScript_138 : decode cL_isScript 138 = .ok (.aload_n 0, 1) := by decide +kernel
theorem dL_isScript_139 : decode cL_isScript 139 = .ok (.getfield 10, 3) := by decide +kernel
theorem dL_isScript_142 : decode cL_isScript 142 = .ok (.invokevirtual 246, 3) := by decide +kernel
theorem dL_isScript_145 : decode cL_isScript 145 = .ok (.iconst (-1), 1) := by decide +kernel
theorem dL_isScript_146 : decode cL_isScript 146 = .ok (.if_icmp .eq 5, 3) := by decide +kernel
theorem dL_isScript_149 : decode cL_isScript 149 = .ok (.iconst 0, 1) := by decide +kernel
theorem dL_isScript_150 : decode cL_isScript 150 = .ok (.ireturn, 1) := by decide +kernel
theorem dL_isScript_151 : decode cL_isScript 151 = .ok (.aload_n 0, 1) := by decide +kernel
theorem dL_isScript_152 : decode cL_isScript 152 = .ok (.bipush 6, 2) := by decide +kernel
theorem dL_isScript_154 : decode cL_isScript 154 = .ok (.iconst 0, 1) := by decide +kernel
theorem dL_isScript_155 : decode cL_isScript 155 = .ok (.iconst 0, 1) := by decide +kernel
theorem dL_isScript_156 : decode cL_isScript 156 = .ok (.invokevirtual 106, 3) := by decide +kernel
theorem dL_isScript_159 : decode cL_isScript 159 = .ok (.iload 5, 2) := by decide +kernel
theorem dL_isScript_161 : decode cL_isScript 161 = .ok (.bipush 38, 2) := by decide +kernel
theorem dL_isScript_163 : decode cL_isScript 163 = .ok (.if_icmp .ne 16, 3) := by decide +kernel
theorem dL_isScript_166 : decode cL_isScript 166 = .ok (.aload_n 0, 1) := by decide +kernel
theorem dL_isScript_167 : decode cL_isScript 167 = .ok (.getfield 10, 3) := by decide +kernel
theorem dL_isScript_170 : decode cL_isScript 170 = .ok (.bipush 6, 2) := by decide +kernel
theorem dL_isScript_172 : decode cL_isScript 172 = .ok (.iconst 1, 1) := by decide +kernel
theorem dL_isScript_173 : decode cL_isScript 173 = .ok (.invokevirtual 113, 3) := by decide +kernel
theorem dL_isScript_176 : decode cL_isScript 176 = .ok (.goto 53, 3) := by decide +kernel
theorem dL_isScript_179 : decode cL_isScript 179 = .ok (.iload 5, 2) := by decide +kernel
theorem dL_isScript_181 : decode cL_isScript 181 = .ok (.bipush 124, 2) := by decide +kernel
theorem dL_isScript_183 : decode cL_isScript 183 = .ok (.if_icmp .ne 16, 3) := by decide +kernel
theorem dL_isScript_186 : decode cL_isScript 186 = .ok (.aload_n 0, 1) := by decide +kernel
theorem dL_isScript_187 : decode cL_isScript 187 = .ok (.getfield 10, 3) := by decide +kernel
theorem dL_isScript_190 : decode cL_isScript 190 = .ok (.bipush 6, 2) := by decide +kernel
theorem dL_isScript_192 : decode cL_isScript 192 = .ok (.iconst 1, 1) := by decide +kernel
theorem dL_isScript_193 : decode cL_isScript 193 = .ok (.invokevirtual 110, 3) := by decide +kernel
theorem dL_isScript_196 : decode cL_isScript 196 = .ok (.goto 33, 3) := by decide +kernel
theorem dL_isScript_199 : decode cL_isScript 199 = .ok (.iload 5, 2) := by decide +kernel
theorem dL_isScript_201 : decode cL_isScript 201 = .ok (.bipush 126, 2) := by decide +kernel
theorem dL_isScript_203 : decode cL_isScript 203 = .ok (.if_icmp .ne 16, 3) := by decide +kernel
theorem dL_isScript_206 : decode cL_isScript 206 = .ok (.aload_n 0, 1) := by decide +kernel
theorem dL_isScript_207 : decode cL_isScript 207 = .ok (.getfield 10, 3) := by decide +kernel
theorem dL_isScript_210 : decode cL_isScript 210 = .ok (.bipush 6, 2) := by decide +kernel
theorem dL_isScript_212 : decode cL_isScript 212 = .ok (.iconst 1, 1) := by decide +kernel
theorem dL_isScript_213 : decode cL_isScript 213 = .ok (.invokevirtual 77, 3) := by decide +kernel
theorem dL_isScript_216 : decode cL_isScript 216 = .ok (.goto 13, 3) := by decide +kernel
theorem dL_isScript_219 : decode cL_isScript 219 = .ok (.aload_n 0, 1) := by decide +kernel
theorem dL_isScript_220 : decode cL_isScript 220 = .ok (.getfield 10, 3) := by decide +kernel
theorem dL_isScript_223 : decode cL_isScript 223 = .ok (.bipush 6, 2) := by decide +kernel
theorem dL_isScript_225 : decode cL_isScript 225 = .ok (.iconst 1, 1) := by decide +kernel
theorem dL_isScript_226 : decode cL_isScript 226 = .ok (.invokevirtual 142, 3) := by decide +kernel
theorem dL_isScript_229 : decode cL_isScript 229 = .ok (.istore 7, 2) := by decide +kernel
theorem dL_isScript_231 : decode cL_isScript 231 = .ok (.aload_n 0, 1) := by decide +kernel
theorem dL_isScript_232 : decode cL_isScript 232 = .ok (.getfield 10, 3) := by decide +kernel
theorem dL_isScript_235 : decode cL_isScript 235 = .ok (.bipush 6, 2) := by decide +kernel
theorem dL_isScript_237 : decode cL_isScript 237 = .ok (.iload_n 3, 1) := by decide +kernel
theorem dL_isScript_238 : decode cL_isScript 238 = .ok (.iload 4, 2) := by decide +kernel
theorem dL_isScript_240 : decode cL_isScript 240 = .ok (.invokevirtual 49, 3) := by decide +kernel
theorem dL_isScript_243 : decode cL_isScript 243 = .ok (.istore 8, 2) := by decide +kernel
theorem dL_isScript_245 : decode cL_isScript 245 = .ok (.aload_n 0, 1) := by decide +kernel
theorem dL_isScript_246 : decode cL_isScript 246 = .ok (.getfield 10, 3) := by decide +kernel
theorem dL_isScript_249 : decode cL_isScript 249 = .ok (.bipush 6, 2) := by decide +kernel
theorem dL_isScript_251 : decode cL_isScript 251 = .ok (.iload_n 2, 1) := by decide +kernel
theorem dL_isScript_252 : decode cL_isScript 252 = .ok (.invokevirtual 178, 3) := by decide +kernel
theorem dL_isScript_255 : decode cL_isScript 255 = .ok (.istore 9, 2) := by decide +kernel
theorem dL_isScript_257 : decode cL_isScript 257 = .ok (.iload 7, 2) := by decide +kernel
theorem dL_isScript_259 : decode cL_isScript 259 = .ok (.ifCond .lt 45, 3) := by decide +kernel
theorem dL_isScript_262 : decode cL_isScript 262 = .ok (.aload_n 0, 1) := by decide +kernel
theorem dL_isScript_263 : decode cL_isScript 263 = .ok (.getfield 10, 3) := by decide +kernel
theorem dL_isScript_266 : decode cL_isScript 266 = .ok (.bipush 6, 2) := by decide +kernel
theorem dL_isScript_268 : decode cL_isScript 268 = .ok (.invokevirtual 86, 3) := by decide +kernel
theorem dL_isScript_271 : decode cL_isScript 271 = .ok (.iload 8, 2) := by decide +kernel
theorem dL_isScript_273 : decode cL_isScript 273 = .ok (.iload 9, 2) := by decide +kernel
theorem dL_isScript_275 : decode cL_isScript 275 = .ok (.ifCond .eq 7, 3) := by decide +kernel
theorem dL_isScript_278 : decode cL_isScript 278 = .ok (.iconst 1, 1) := by decide +kernel
theorem dL_isScript_279 : decode cL_isScript 279 = .ok (.goto 4, 3) := by decide +kernel
theorem dL_isScript_282 : decode cL_isScript 282 = .ok (.iconst 0, 1) := by decide +kernel
theorem dL_isScript_283 : decode cL_isScript 283 = .ok (.iadd, 1) := by decide +kernel
theorem dL_isScript_284 : decode cL_isScript 284 = .ok (.if_icmp .ne 20, 3) := by decide +kernel
theorem dL_isScript_287 : decode cL_isScript 287 = .ok (.aload_n 0, 1) := by decide +kernel
theorem dL_isScript_288 : decode cL_isScript 288 = .ok (.getfield 10, 3) := by decide +kernel
theorem dL_isScript_291 : decode cL_isScript 291 = .ok (.iconst 5, 1) := by decide +kernel
theorem dL_isScript_292 : decode cL_isScript 292 = .ok (.bipush 6, 2) := by decide +kernel
theorem dL_isScript_294 : decode cL_isScript 294 = .ok (.invokevirtual 119, 3) := by decide +kernel
theorem dL_isScript_297 : decode cL_isScript 297 = .ok (.ifCond .eq 7, 3) := by decide +kernel
theorem dL_isScript_300 : decode cL_isScript 300 = .ok (.iconst 1, 1) := by decide +kernel
theorem dL_isScript_301 : decode cL_isScript 301 = .ok (.goto 4, 3) := by decide +kernel
theorem dL_isScript_304 : decode cL_isScript 304 = .ok (.iconst 0, 1) := by decide +kernel
theorem dL_isScript_305 : decode cL_isScript 305 = .ok (.ireturn, 1) := by decide +kernel
theorem dL_isApart_0 : decode cL_isApart 0 = .ok (.aload_n 0, 1) := by decide +kernel
theorem dL_isApart_1 : decode cL_isApart 1 = .ok (.iconst 5, 1) := by decide +kernel
theorem dL_isApart_2 : decode cL_isApart 2 = .ok (.iconst 0, 1) := by decide +kernel
theorem dL_isApart_3 : decode cL_isApart 3 = .ok (.iconst 0, 1) := by decide +kernel
theorem dL_isApart_4 : decode cL_isApart 4 = .ok (.invokevirtual 106, 3) := by decide +kernel
theorem dL_isApart_7 : decode cL_isApart 7 = .ok (.aload_n 0, 1) := by decide +kernel
theorem dL_isApart_8 : decode cL_isApart 8 = .ok (.sipush 1024, 3) := by decide +kernel
theorem dL_isApart_11 : decode cL_isApart 11 = .ok (.invokevirtual 26, 3) := by decide +kernel
theorem dL_isApart_14 : decode cL_isApart 14 = .ok (.istore_n 1, 1) := by decide +kernel
theorem dL_isApart_15 : decode cL_isApart 15 = .ok (.aload_n 0, 1) := by decide +kernel
theorem dL_isApart_16 : decode cL_isApart 16 = .ok (.getfield 10, 3) := by decide +kernel
theorem dL_isApart_19 : decode cL_isApart 19 = .ok (.iconst 5, 1) := by decide +kernel
theorem dL_isApart_20 : decode cL_isApart 20 = .ok (.iload_n 1, 1) := by decide +kernel
theorem dL_isApart_21 : decode cL_isApart 21 = .ok (.invokevirtual 80, 3) := by decide +kernel
theorem dL_isApart_24 : decode cL_isApart 24 = .ok (.aload_n 0, 1) := by decide +kernel
theorem dL_isApart_25 : decode cL_isApart 25 = .ok (.getfield 16, 3) := by decide +kernel
theorem dL_isApart_28 : decode cL_isApart 28 = .ok (.iconst 0, 1) := by decide +kernel
theorem dL_isApart_29 : decode cL_isApart 29 = .ok (.iload_n 1, 1) := by decide +kernel
theorem dL_isApart_30 : decode cL_isApart 30 = .ok (.iadd, 1) := by decide +kernel
theorem dL_isApart_31 : decode cL_isApart 31 = .ok (.baload, 1) := by decide +kernel
theorem dL_isApart_32 : decode cL_isApart 32 = .ok (.if_icmp .eq 48, 3) := by decide +kernel
theorem dL_isApart_35 : decode cL_isApart 35 = .ok (.aload_n 0, 1) := by decide +kernel
theorem dL_isApart_36 : decode cL_isApart 36 = .ok (.getfield 10, 3) := by decide +kernel
theorem dL_isApart_39 : decode cL_isApart 39 = .ok (.iconst 5, 1) := by decide +kernel
theorem dL_isApart_40 : decode cL_isApart 40 = .ok (.iconst 0, 1) := by decide +kernel
theorem dL_isApart_41 : decode cL_isApart 41 = .ok (.invokevirtual 119, 3) := by decide +kernel
theorem dL_isApart_44 : decode cL_isApart 44 = .ok (.ifCond .ne 36, 3) := by decide +kernel
theorem dL_isApart_47 : decode cL_isApart 47 = .ok (.aload_n 0, 1) := by decide +kernel
theorem dL_isApart_48 : decode cL_isApart 48 = .ok (.getfield 10, 3) := by decide +kernel
theorem dL_isApart_51 : decode cL_isApart 51 = .ok (.iconst 5, 1) := by decide +kernel
theorem dL_isApart_52 : decode cL_isApart 52 = .ok (.iconst 0, 1) := by decide +kernel
theorem dL_isApart_53 : decode cL_isApart 53 = .ok (.invokevirtual 130, 3) := by decide +kernel
theorem dL_isApart_56 : decode cL_isApart 56 = .ok (.iconst 1, 1) := by decide +kernel
theorem dL_isApart_57 : decode cL_isApart 57 = .ok (.if_icmp .ne 23, 3) := by decide +kernel
theorem dL_isApart_60 : decode cL_isApart 60 = .ok (.aload_n 0, 1) := by decide +kernel
theorem dL_isApart_61 : decode cL_isApart 61 = .ok (.getfield 10, 3) := by decide +kernel
theorem dL_isApart_64 : decode cL_isApart 64 = .ok (.iconst 0, 1) := by decide +kernel
theorem dL_isApart_65 : decode cL_isApart 65 = .ok (.iload_n 1, 1) := by decide +kernel
theorem dL_isApart_66 : decode cL_isApart 66 = .ok (.invokevirtual 84, 3) := by decide +kernel
theorem dL_isApart_69 : decode cL_isApart 69 = .ok (.aload_n 0, 1) := by decide +kernel
theorem dL_isApart_70 : decode cL_isApart 70 = .ok (.getfield 16, 3) := by decide +kernel
theorem dL_isApart_73 : decode cL_isApart 73 = .ok (.iconst 0, 1) := by decide +kernel
theorem dL_isApart_74 : decode cL_isApart 74 = .ok (.iload_n 1, 1) := by decide +kernel
theorem dL_isApart_75 : decode cL_isApart 75 = .ok (.iadd, 1) := by decide +kernel
theorem dL_isApart_76 : decode cL_isApart 76 = .ok (.baload, 1) := by decide +kernel
theorem dL_isApart_77 : decode cL_isApart 77 = .ok (.if_icmp .eq 5, 3) := by decide +kernel
theorem dL_isApart_80 : decode cL_isApart 80 = .ok (.iconst 0, 1) := by decide +kernel
theorem dL_isApart_81 : decode cL_isApart 81 = .ok (.ireturn, 1) := by decide +kernel
theorem dL_isApart_82 : decode cL_isApart 82 = .ok (.aload_n 0, 1) := by decide +kernel
theorem dL_isApart_83 : decode cL_isApart 83 = .ok (.getfield 10, 3) := by decide +kernel
theorem dL_isApart_86 : decode cL_isApart 86 = .ok (.invokevirtual 249, 3) := by decide +kernel
theorem dL_isApart_89 : decode cL_isApart 89 = .ok (.istore_n 2, 1) := by decide +kernel
theorem dL_isApart_90 : decode cL_isApart 90 = .ok (.iconst 0, 1) := by decide +kernel
theorem dL_isApart_91 : decode cL_isApart 91 = .ok (.istore_n 3, 1) := by decide +kernel
theorem dL_isApart_92 : decode cL_isApart 92 = .ok (.aload_n 0, 1) := by decide +kernel
theorem dL_isApart_93 : decode cL_isApart 93 = .ok (.getfield 10, 3) := by decide +kernel
theorem dL_isApart_96 : decode cL_isApart 96 = .ok (.iconst 0, 1) := by decide +kernel
theorem dL_isApart_97 : decode cL_isApart 97 = .ok (.iload_n 1, 1) := by decide +kernel
theorem dL_isApart_98 : decode cL_isApart 98 = .ok (.iconst 1, 1) := by decide +kernel
theorem dL_isApart_99 : decode cL_isApart 99 = .ok (.iadd, 1) := by decide +kernel
theorem dL_isApart_100 : decode cL_isApart 100 = .ok (.iload_n 1, 1) := by decide +kernel
theorem dL_isApart_101 : decode cL_isApart 101 = .ok (.invokevirtual 49, 3) := by decide +kernel
theorem dL_isApart_104 : decode cL_isApart 104 = .ok (.pop, 1) := by decide +kernel
theorem dL_isApart_105 : decode cL_isApart 105 = .ok (.goto 8, 3) := by decide +kernel
theorem dL_isApart_108 : decode cL_isApart 108 = .ok (.astore 4, 2) := by decide +kernel
theorem dL_isApart_110 : decode cL_isApart 110 = .ok (.iinc 3 1, 3) := by decide +kernel
theorem dL_isApart_113 : decode cL_isApart 113 = .ok (.aload_n 0, 1) := by decide +kernel
theorem dL_isApart_114 : decode cL_isApart 114 = .ok (.getfield 10, 3) := by decide +kernel
theorem dL_isApart_117 : decode cL_isApart 117 = .ok (.iconst 0, 1) := by decide +kernel
theorem dL_isApart_118 : decode cL_isApart 118 = .ok (.iconst (-1), 1) := by decide +kernel
theorem dL_isApart_119 : decode cL_isApart 119 = .ok (.iload_n 1, 1) := by decide +kernel
theorem dL_isApart_120 : decode cL_isApart 120 = .ok (.isub, 1) := by decide +kernel
theorem dL_isApart_121 : decode cL_isApart 121 = .ok (.invokevirtual 178, 3) := by decide +kernel
theorem dL_isApart_124 : decode cL_isApart 124 = .ok (.pop, 1) := by decide +kernel
theorem dL_isApart_125 : decode cL_isApart 125 = .ok (.goto 8, 3) := by decide +kernel
theorem dL_isApart_128 : decode cL_isApart 128 = .ok (.astore 4, 2) := by decide +kernel
theorem dL_isApart_130 : decode cL_isApart 130 = .ok (.iinc 3 1, 3) := by decide +kernel
theorem dL_isApart_133 : decode cL_isApart 133 = .ok (.aload_n 0, 1) := by decide +kernel
theorem dL_isApart_134 : decode cL_isApart 134 = .ok (.getfield 10, 3) := by decide +kernel
theorem dL_isApart_137 : decode cL_isApart 137 = .ok (.iconst 0, 1) := by decide +kernel
theorem dL_isApart_138 : decode cL_isApart 138 = .ok (.iconst (-1), 1) := by decide +kernel
theorem dL_isApart_139 : decode cL_isApart 139 = .ok (.invokevirtual 148, 3) := by decide +kernel
theorem dL_isApart_142 : decode cL_isApart 142 = .ok (.pop, 1) := by decide +kernel
theorem dL_isApart_143 : decode cL_isApart 143 = .ok (.goto 8, 3) := by decide +kernel
theorem dL_isApart_146 : decode cL_isApart 146 = .ok (.astore 4, 2) := by decide +kernel
theorem dL_isApart_148 : decode cL_isApart 148 = .ok (.iinc 3 1, 3) := by decide +kernel
theorem dL_isApart_151 : decode cL_isApart 151 = .ok (.iload_n 3, 1) := by decide +kernel
theorem dL_isApart_152 : decode cL_isApart 152 = .ok (.iconst 3, 1) := by decide +kernel
theorem dL_isApart_153 : decode cL_isApart 153 = .ok (.if_icmp .ne 30, 3) := by decide +kernel
theorem dL_isApart_156 : decode cL_isApart 156 = .ok (.aload_n 0, 1) := by decide +kernel
theorem dL_isApart_157 : decode cL_isApart 157 = .ok (.getfield 10, 3) := by decide +kernel
theorem dL_isApart_160 : decode cL_isApart 160 = .ok (.invokevirtual 249, 3) := by decide +kernel
theorem dL_isApart_163 : decode cL_isApart 163 = .ok (.iload_n 2, 1) := by decide +kernel
theorem dL_isApart_164 : decode cL_isApart 164 = .ok (.iconst 3, 1) := by decide +kernel
theorem dL_isApart_165 : decode cL_isApart 165 = .ok (.iadd, 1) := by decide +kernel
theorem dL_isApart_166 : decode cL_isApart 166 = .ok (.if_icmp .ne 17, 3) := by decide +kernel
theorem dL_isApart_169 : decode cL_isApart 169 = .ok (.aload_n 0, 1) := by decide +kernel
theorem dL_isApart_170 : decode cL_isApart 170 = .ok (.iconst 0, 1) := by decide +kernel
theorem dL_isApart_171 : decode cL_isApart 171 = .ok (.bipush 61, 2) := by decide +kernel
theorem dL_isApart_173 : decode cL_isApart 173 = .ok (.invokevirtual 116, 3) := by decide +kernel
theorem dL_isApart_176 : decode cL_isApart 176 = .ok (.ifCond .eq 7, 3) := by decide +kernel
theorem dL_isApart_179 : decode cL_isApart 179 = .ok (.iconst 1, 1) := by decide +kernel
theorem dL_isApart_180 : decode cL_isApart 180 = .ok (.goto 4, 3) := by decide +kernel
theorem dL_isApart_183 : decode cL_isApart 183 = .ok (.iconst 0, 1) := by decide +kernel
theorem dL_isApart_184 : decode cL_isApart 184 = .ok (.ireturn, 1) := by decide +kernel
theorem dL_stirred_0 : decode cL_stirred 0 = .ok (.ldc_w 256, 3) := by decide +kernel
theorem dL_stirred_3 : decode cL_stirred 3 = .ok (.istore_n 1, 1) := by decide +kernel
theorem dL_stirred_4 : decode cL_stirred 4 = .ok (.aload_n 0, 1) := by decide +kernel
theorem dL_stirred_5 : decode cL_stirred 5 = .ok (.astore_n 2, 1) := by decide +kernel
theorem dL_stirred_6 : decode cL_stirred 6 = .ok (.aload_n 2, 1) := by decide +kernel
theorem dL_stirred_7 : decode cL_stirred 7 = .ok (.arraylength, 1) := by decide +kernel
theorem dL_stirred_8 : decode cL_stirred 8 = .ok (.istore_n 3, 1) := by decide +kernel
theorem dL_stirred_9 : decode cL_stirred 9 = .ok (.iconst 0, 1) := by decide +kernel
theorem dL_stirred_10 : decode cL_stirred 10 = .ok (.istore 4, 2) := by decide +kernel
theorem dL_stirred_12 : decode cL_stirred 12 = .ok (.iload 4, 2) := by decide +kernel
theorem dL_stirred_14 : decode cL_stirred 14 = .ok (.iload_n 3, 1) := by decide +kernel
theorem dL_stirred_15 : decode cL_stirred 15 = .ok (.if_icmp .ge 34, 3) := by decide +kernel
theorem dL_stirred_18 : decode cL_stirred 18 = .ok (.aload_n 2, 1) := by decide +kernel
theorem dL_stirred_19 : decode cL_stirred 19 = .ok (.iload 4, 2) := by decide +kernel
theorem dL_stirred_21 : decode cL_stirred 21 = .ok (.iaload, 1) := by decide +kernel
theorem dL_stirred_22 : decode cL_stirred 22 = .ok (.istore 5, 2) := by decide +kernel
theorem dL_stirred_24 : decode cL_stirred 24 = .ok (.iload_n 1, 1) := by decide +kernel
theorem dL_stirred_25 : decode cL_stirred 25 = .ok (.iload 5, 2) := by decide +kernel
theorem dL_stirred_27 : decode cL_stirred 27 = .ok (.ixor, 1) := by decide +kernel
theorem dL_stirred_28 : decode cL_stirred 28 = .ok (.ldc 24, 2) := by decide +kernel
theorem dL_stirred_30 : decode cL_stirred 30 = .ok (.imul, 1) := by decide +kernel
theorem dL_stirred_31 : decode cL_stirred 31 = .ok (.sipush 12345, 3) := by decide +kernel
theorem dL_stirred_34 : decode cL_stirred 34 = .ok (.iadd, 1) := by decide +kernel
theorem dL_stirred_35 : decode cL_stirred 35 = .ok (.istore_n 1, 1) := by decide +kernel
theorem dL_stirred_36 : decode cL_stirred 36 = .ok (.iload_n 1, 1) := by decide +kernel
theorem dL_stirred_37 : decode cL_stirred 37 = .ok (.iload_n 1, 1) := by decide +kernel
theorem dL_stirred_38 : decode cL_stirred 38 = .ok (.bipush 15, 2) := by decide +kernel
theorem dL_stirred_40 : decode cL_stirred 40 = .ok (.iushr, 1) := by decide +kernel
theorem dL_stirred_41 : decode cL_stirred 41 = .ok (.ixor, 1) := by decide +kernel
theorem dL_stirred_42 : decode cL_stirred 42 = .ok (.istore_n 1, 1) := by decide +kernel
theorem dL_stirred_43 : decode cL_stirred 43 = .ok (.iinc 4 1, 3) := by decide +kernel
theorem dL_stirred_46 : decode cL_stirred 46 = .ok (.goto (-34), 3) := by decide +kernel
theorem dL_stirred_49 : decode cL_stirred 49 = .ok (.iload_n 1, 1) := by decide +kernel
theorem dL_stirred_50 : decode cL_stirred 50 = .ok (.ireturn, 1) := by decide +kernel
theorem dL_law_0 : decode cL_law 0 = .ok (.new 11, 3) := by decide +kernel
theorem dL_law_3 : decode cL_law 3 = .ok (.dup, 1) := by decide +kernel
theorem dL_law_4 : decode cL_law 4 = .ok (.invokespecial 257, 3) := by decide +kernel
theorem dL_law_7 : decode cL_law 7 = .ok (.astore_n 1, 1) := by decide +kernel
theorem dL_law_8 : decode cL_law 8 = .ok (.aload_n 1, 1) := by decide +kernel
theorem dL_law_9 : decode cL_law 9 = .ok (.aload_n 0, 1) := by decide +kernel
theorem dL_law_10 : decode cL_law 10 = .ok (.invokestatic 258, 3) := by decide +kernel
theorem dL_law_13 : decode cL_law 13 = .ok (.putfield 20, 3) := by decide +kernel
theorem dL_law_16 : decode cL_law 16 = .ok (.iconst 0, 1) := by decide +kernel
theorem dL_law_17 : decode cL_law 17 = .ok (.istore_n 2, 1) := by decide +kernel
theorem dL_law_18 : decode cL_law 18 = .ok (.iload_n 2, 1) := by decide +kernel
theorem dL_law_19 : decode cL_law 19 = .ok (.iconst 3, 1) := by decide +kernel
theorem dL_law_20 : decode cL_law 20 = .ok (.if_icmp .ge 14, 3) := by decide +kernel
theorem dL_law_23 : decode cL_law 23 = .ok (.aload_n 1, 1) := by decide +kernel
theorem dL_law_24 : decode cL_law 24 = .ok (.iload_n 2, 1) := by decide +kernel
theorem dL_law_25 : decode cL_law 25 = .ok (.invokevirtual 262, 3) := by decide +kernel
theorem dL_law_28 : decode cL_law 28 = .ok (.iinc 2 1, 3) := by decide +kernel
theorem dL_law_31 : decode cL_law 31 = .ok (.goto (-13), 3) := by decide +kernel
theorem dL_law_34 : decode cL_law 34 = .ok (.aload_n 1, 1) := by decide +kernel
theorem dL_law_35 : decode cL_law 35 = .ok (.invokevirtual 266, 3) := by decide +kernel
theorem dL_law_38 : decode cL_law 38 = .ok (.ifCond .eq 35, 3) := by decide +kernel
theorem dL_law_41 : decode cL_law 41 = .ok (.aload_n 1, 1) := by decide +kernel
theorem dL_law_42 : decode cL_law 42 = .ok (.iconst 1, 1) := by decide +kernel
theorem dL_law_43 : decode cL_law 43 = .ok (.invokevirtual 270, 3) := by decide +kernel
theorem dL_law_46 : decode cL_law 46 = .ok (.ifCond .eq 27, 3) := by decide +kernel
theorem dL_law_49 : decode cL_law 49 = .ok (.aload_n 1, 1) := by decide +kernel
theorem dL_law_50 : decode cL_law 50 = .ok (.iconst 0, 1) := by decide +kernel
theorem dL_law_51 : decode cL_law 51 = .ok (.invokevirtual 270, 3) := by decide +kernel
theorem dL_law_54 : decode cL_law 54 = .ok (.ifCond .eq 19, 3) := by decide +kernel
theorem dL_law_57 : decode cL_law 57 = .ok (.aload_n 1, 1) := by decide +kernel
theorem dL_law_58 : decode cL_law 58 = .ok (.iconst 1, 1) := by decide +kernel
theorem dL_law_59 : decode cL_law 59 = .ok (.invokevirtual 274, 3) := by decide +kernel
theorem dL_law_62 : decode cL_law 62 = .ok (.ifCond .eq 11, 3) := by decide +kernel
theorem dL_law_65 : decode cL_law 65 = .ok (.aload_n 1, 1) := by decide +kernel
theorem dL_law_66 : decode cL_law 66 = .ok (.iconst 0, 1) := by decide +kernel
theorem dL_law_67 : decode cL_law 67 = .ok (.invokevirtual 274, 3) := by decide +kernel
theorem dL_law_70 : decode cL_law 70 = .ok (.ifCond .ne 5, 3) := by decide +kernel
theorem dL_law_73 : decode cL_law 73 = .ok (.iconst 0, 1) := by decide +kernel
theorem dL_law_74 : decode cL_law 74 = .ok (.ireturn, 1) := by decide +kernel
theorem dL_law_75 : decode cL_law 75 = .ok (.aload_n 1, 1) := by decide +kernel
theorem dL_law_76 : decode cL_law 76 = .ok (.invokevirtual 277, 3) := by decide +kernel
theorem dL_law_79 : decode cL_law 79 = .ok (.ifCond .eq 40, 3) := by decide +kernel
theorem dL_law_82 : decode cL_law 82 = .ok (.aload_n 1, 1) := by decide +kernel
theorem dL_law_83 : decode cL_law 83 = .ok (.aload_n 1, 1) := by decide +kernel
theorem dL_law_84 : decode cL_law 84 = .ok (.iconst 3, 1) := by decide +kernel
theorem dL_law_85 : decode cL_law 85 = .ok (.invokevirtual 26, 3) := by decide +kernel
theorem dL_law_88 : decode cL_law 88 = .ok (.invokevirtual 280, 3) := by decide +kernel
theorem dL_law_91 : decode cL_law 91 = .ok (.ifCond .eq 28, 3) := by decide +kernel
theorem dL_law_94 : decode cL_law 94 = .ok (.aload_n 1, 1) := by decide +kernel
theorem dL_law_95 : decode cL_law 95 = .ok (.invokevirtual 283, 3) := by decide +kernel
theorem dL_law_98 : decode cL_law 98 = .ok (.ifCond .eq 21, 3) := by decide +kernel
theorem dL_law_101 : decode cL_law 101 = .ok (.aload_n 1, 1) := by decide +kernel
theorem dL_law_102 : decode cL_law 102 = .ok (.invokevirtual 286, 3) := by decide +kernel
theorem dL_law_105 : decode cL_law 105 = .ok (.ifCond .eq 14, 3) := by decide +kernel
theorem dL_law_108 : decode cL_law 108 = .ok (.aload_n 1, 1) := by decide +kernel
theorem dL_law_109 : decode cL_law 109 = .ok (.invokevirtual 289, 3) := by decide +kernel
theorem dL_law_112 : decode cL_law 112 = .ok (.ifCond .eq 7, 3) := by decide +kernel
theorem dL_law_115 : decode cL_law 115 = .ok (.iconst 1, 1) := by decide +kernel
theorem dL_law_116 : decode cL_law 116 = .ok (.goto 4, 3) := by decide +kernel
theorem dL_law_119 : decode cL_law 119 = .ok (.iconst 0, 1) := by decide +kernel
theorem dL_law_120 : decode cL_law 120 = .ok (.ireturn, 1) := by decide +kernel
