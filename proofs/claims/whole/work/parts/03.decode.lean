theorem dX10_init_0 : decode cX10_init 0 = .ok (.aload_n 0, 1) := by decide +kernel
theorem dX10_init_1 : decode cX10_init 1 = .ok (.invokespecial 1, 3) := by decide +kernel
theorem dX10_init_4 : decode cX10_init 4 = .ok (.aload_n 0, 1) := by decide +kernel
theorem dX10_init_5 : decode cX10_init 5 = .ok (.sipush 900, 3) := by decide +kernel
theorem dX10_init_8 : decode cX10_init 8 = .ok (.newarray .byte, 2) := by decide +kernel
theorem dX10_init_10 : decode cX10_init 10 = .ok (.putfield 7, 3) := by decide +kernel
theorem dX10_init_13 : decode cX10_init 13 = .ok (.aload_n 0, 1) := by decide +kernel
theorem dX10_init_14 : decode cX10_init 14 = .ok (.sipush 901, 3) := by decide +kernel
theorem dX10_init_17 : decode cX10_init 17 = .ok (.newarray .int, 2) := by decide +kernel
theorem dX10_init_19 : decode cX10_init 19 = .ok (.putfield 13, 3) := by decide +kernel
theorem dX10_init_22 : decode cX10_init 22 = .ok (.aload_n 0, 1) := by decide +kernel
theorem dX10_init_23 : decode cX10_init 23 = .ok (.sipush 901, 3) := by decide +kernel
theorem dX10_init_26 : decode cX10_init 26 = .ok (.newarray .int, 2) := by decide +kernel
theorem dX10_init_28 : decode cX10_init 28 = .ok (.putfield 17, 3) := by decide +kernel
theorem dX10_init_31 : decode cX10_init 31 = .ok (.aload_n 0, 1) := by decide +kernel
theorem dX10_init_32 : decode cX10_init 32 = .ok (.sipush 901, 3) := by decide +kernel
theorem dX10_init_35 : decode cX10_init 35 = .ok (.newarray .long, 2) := by decide +kernel
theorem dX10_init_37 : decode cX10_init 37 = .ok (.putfield 20, 3) := by decide +kernel
theorem dX10_init_40 : decode cX10_init 40 = .ok (.aload_n 0, 1) := by decide +kernel
theorem dX10_init_41 : decode cX10_init 41 = .ok (.bipush 12, 2) := by decide +kernel
theorem dX10_init_43 : decode cX10_init 43 = .ok (.newarray .long, 2) := by decide +kernel
theorem dX10_init_45 : decode cX10_init 45 = .ok (.putfield 24, 3) := by decide +kernel
theorem dX10_init_48 : decode cX10_init 48 = .ok (.aload_n 0, 1) := by decide +kernel
theorem dX10_init_49 : decode cX10_init 49 = .ok (.bipush 12, 2) := by decide +kernel
theorem dX10_init_51 : decode cX10_init 51 = .ok (.newarray .int, 2) := by decide +kernel
theorem dX10_init_53 : decode cX10_init 53 = .ok (.putfield 27, 3) := by decide +kernel
theorem dX10_init_56 : decode cX10_init 56 = .ok (.aload_n 0, 1) := by decide +kernel
theorem dX10_init_57 : decode cX10_init 57 = .ok (.bipush 12, 2) := by decide +kernel
theorem dX10_init_59 : decode cX10_init 59 = .ok (.newarray .boolean, 2) := by decide +kernel
theorem dX10_init_61 : decode cX10_init 61 = .ok (.putfield 30, 3) := by decide +kernel
theorem dX10_init_64 : decode cX10_init 64 = .ok (.aload_n 0, 1) := by decide +kernel
theorem dX10_init_65 : decode cX10_init 65 = .ok (.bipush 12, 2) := by decide +kernel
theorem dX10_init_67 : decode cX10_init 67 = .ok (.newarray .boolean, 2) := by decide +kernel
theorem dX10_init_69 : decode cX10_init 69 = .ok (.putfield 34, 3) := by decide +kernel
theorem dX10_init_72 : decode cX10_init 72 = .ok (.aload_n 0, 1) := by decide +kernel
theorem dX10_init_73 : decode cX10_init 73 = .ok (.bipush 12, 2) := by decide +kernel
theorem dX10_init_75 : decode cX10_init 75 = .ok (.newarray .long, 2) := by decide +kernel
theorem dX10_init_77 : decode cX10_init 77 = .ok (.putfield 37, 3) := by decide +kernel
theorem dX10_init_80 : decode cX10_init 80 = .ok (.aload_n 0, 1) := by decide +kernel
theorem dX10_init_81 : decode cX10_init 81 = .ok (.bipush 13, 2) := by decide +kernel
theorem dX10_init_83 : decode cX10_init 83 = .ok (.newarray .int, 2) := by decide +kernel
theorem dX10_init_85 : decode cX10_init 85 = .ok (.putfield 40, 3) := by decide +kernel
theorem dX10_init_88 : decode cX10_init 88 = .ok (.aload_n 0, 1) := by decide +kernel
theorem dX10_init_89 : decode cX10_init 89 = .ok (.bipush 13, 2) := by decide +kernel
theorem dX10_init_91 : decode cX10_init 91 = .ok (.newarray .int, 2) := by decide +kernel
theorem dX10_init_93 : decode cX10_init 93 = .ok (.putfield 43, 3) := by decide +kernel
theorem dX10_init_96 : decode cX10_init 96 = .ok (.aload_n 0, 1) := by decide +kernel
theorem dX10_init_97 : decode cX10_init 97 = .ok (.sipush 900, 3) := by decide +kernel
theorem dX10_init_100 : decode cX10_init 100 = .ok (.newarray .int, 2) := by decide +kernel
theorem dX10_init_102 : decode cX10_init 102 = .ok (.putfield 46, 3) := by decide +kernel
theorem dX10_init_105 : decode cX10_init 105 = .ok (.aload_n 0, 1) := by decide +kernel
theorem dX10_init_106 : decode cX10_init 106 = .ok (.sipush 900, 3) := by decide +kernel
theorem dX10_init_109 : decode cX10_init 109 = .ok (.newarray .long, 2) := by decide +kernel
theorem dX10_init_111 : decode cX10_init 111 = .ok (.putfield 49, 3) := by decide +kernel
theorem dX10_init_114 : decode cX10_init 114 = .ok (.aload_n 0, 1) := by decide +kernel
theorem dX10_init_115 : decode cX10_init 115 = .ok (.bipush 120, 2) := by decide +kernel
theorem dX10_init_117 : decode cX10_init 117 = .ok (.newarray .int, 2) := by decide +kernel
theorem dX10_init_119 : decode cX10_init 119 = .ok (.putfield 52, 3) := by decide +kernel
theorem dX10_init_122 : decode cX10_init 122 = .ok (.aload_n 0, 1) := by decide +kernel
theorem dX10_init_123 : decode cX10_init 123 = .ok (.bipush 120, 2) := by decide +kernel
theorem dX10_init_125 : decode cX10_init 125 = .ok (.newarray .long, 2) := by decide +kernel
theorem dX10_init_127 : decode cX10_init 127 = .ok (.putfield 55, 3) := by decide +kernel
theorem dX10_init_130 : decode cX10_init 130 = .ok (.aload_n 0, 1) := by decide +kernel
theorem dX10_init_131 : decode cX10_init 131 = .ok (.sipush 901, 3) := by decide +kernel
theorem dX10_init_134 : decode cX10_init 134 = .ok (.newarray .int, 2) := by decide +kernel
theorem dX10_init_136 : decode cX10_init 136 = .ok (.putfield 58, 3) := by decide +kernel
theorem dX10_init_139 : decode cX10_init 139 = .ok (.aload_n 0, 1) := by decide +kernel
theorem dX10_init_140 : decode cX10_init 140 = .ok (.sipush 901, 3) := by decide +kernel
theorem dX10_init_143 : decode cX10_init 143 = .ok (.newarray .int, 2) := by decide +kernel
theorem dX10_init_145 : decode cX10_init 145 = .ok (.putfield 61, 3) := by decide +kernel
theorem dX10_init_148 : decode cX10_init 148 = .ok (.aload_n 0, 1) := by decide +kernel
theorem dX10_init_149 : decode cX10_init 149 = .ok (.sipush 901, 3) := by decide +kernel
theorem dX10_init_152 : decode cX10_init 152 = .ok (.newarray .boolean, 2) := by decide +kernel
theorem dX10_init_154 : decode cX10_init 154 = .ok (.putfield 64, 3) := by decide +kernel
theorem dX10_init_157 : decode cX10_init 157 = .ok (.aload_n 0, 1) := by decide +kernel
theorem dX10_init_158 : decode cX10_init 158 = .ok (.bipush 64, 2) := by decide +kernel
theorem dX10_init_160 : decode cX10_init 160 = .ok (.newarray .int, 2) := by decide +kernel
theorem dX10_init_162 : decode cX10_init 162 = .ok (.putfield 67, 3) := by decide +kernel
theorem dX10_init_165 : decode cX10_init 165 = .ok (.aload_n 0, 1) := by decide +kernel
theorem dX10_init_166 : decode cX10_init 166 = .ok (.bipush 64, 2) := by decide +kernel
theorem dX10_init_168 : decode cX10_init 168 = .ok (.newarray .int, 2) := by decide +kernel
theorem dX10_init_170 : decode cX10_init 170 = .ok (.putfield 70, 3) := by decide +kernel
theorem dX10_init_173 : decode cX10_init 173 = .ok (.aload_n 0, 1) := by decide +kernel
theorem dX10_init_174 : decode cX10_init 174 = .ok (.bipush 64, 2) := by decide +kernel
theorem dX10_init_176 : decode cX10_init 176 = .ok (.newarray .int, 2) := by decide +kernel
theorem dX10_init_178 : decode cX10_init 178 = .ok (.putfield 73, 3) := by decide +kernel
theorem dX10_init_181 : decode cX10_init 181 = .ok (.aload_n 0, 1) := by decide +kernel
theorem dX10_init_182 : decode cX10_init 182 = .ok (.bipush 12, 2) := by decide +kernel
theorem dX10_init_184 : decode cX10_init 184 = .ok (.newarray .long, 2) := by decide +kernel
theorem dX10_init_186 : decode cX10_init 186 = .ok (.putfield 76, 3) := by decide +kernel
theorem dX10_init_189 : decode cX10_init 189 = .ok (.aload_n 0, 1) := by decide +kernel
theorem dX10_init_190 : decode cX10_init 190 = .ok (.bipush 12, 2) := by decide +kernel
theorem dX10_init_192 : decode cX10_init 192 = .ok (.newarray .boolean, 2) := by decide +kernel
theorem dX10_init_194 : decode cX10_init 194 = .ok (.putfield 79, 3) := by decide +kernel
theorem dX10_init_197 : decode cX10_init 197 = .ok (.aload_n 0, 1) := by decide +kernel
theorem dX10_init_198 : decode cX10_init 198 = .ok (.bipush 12, 2) := by decide +kernel
theorem dX10_init_200 : decode cX10_init 200 = .ok (.newarray .boolean, 2) := by decide +kernel
theorem dX10_init_202 : decode cX10_init 202 = .ok (.putfield 82, 3) := by decide +kernel
theorem dX10_init_205 : decode cX10_init 205 = .ok (.aload_n 0, 1) := by decide +kernel
theorem dX10_init_206 : decode cX10_init 206 = .ok (.bipush 12, 2) := by decide +kernel
theorem dX10_init_208 : decode cX10_init 208 = .ok (.newarray .long, 2) := by decide +kernel
theorem dX10_init_210 : decode cX10_init 210 = .ok (.putfield 85, 3) := by decide +kernel
theorem dX10_init_213 : decode cX10_init 213 = .ok (.aload_n 0, 1) := by decide +kernel
theorem dX10_init_214 : decode cX10_init 214 = .ok (.bipush 12, 2) := by decide +kernel
theorem dX10_init_216 : decode cX10_init 216 = .ok (.newarray .long, 2) := by decide +kernel
theorem dX10_init_218 : decode cX10_init 218 = .ok (.putfield 88, 3) := by decide +kernel
theorem dX10_init_221 : decode cX10_init 221 = .ok (.aload_n 0, 1) := by decide +kernel
theorem dX10_init_222 : decode cX10_init 222 = .ok (.bipush 13, 2) := by decide +kernel
theorem dX10_init_224 : decode cX10_init 224 = .ok (.newarray .int, 2) := by decide +kernel
theorem dX10_init_226 : decode cX10_init 226 = .ok (.putfield 91, 3) := by decide +kernel
theorem dX10_init_229 : decode cX10_init 229 = .ok (.aload_n 0, 1) := by decide +kernel
theorem dX10_init_230 : decode cX10_init 230 = .ok (.sipush 900, 3) := by decide +kernel
theorem dX10_init_233 : decode cX10_init 233 = .ok (.newarray .int, 2) := by decide +kernel
theorem dX10_init_235 : decode cX10_init 235 = .ok (.putfield 94, 3) := by decide +kernel
theorem dX10_init_238 : decode cX10_init 238 = .ok (.aload_n 0, 1) := by decide +kernel
theorem dX10_init_239 : decode cX10_init 239 = .ok (.sipush 900, 3) := by decide +kernel
theorem dX10_init_242 : decode cX10_init 242 = .ok (.newarray .long, 2) := by decide +kernel
theorem dX10_init_244 : decode cX10_init 244 = .ok (.putfield 97, 3) := by decide +kernel
theorem dX10_init_247 : decode cX10_init 247 = .ok (.aload_n 0, 1) := by decide +kernel
theorem dX10_init_248 : decode cX10_init 248 = .ok (.bipush 12, 2) := by decide +kernel
theorem dX10_init_250 : decode cX10_init 250 = .ok (.newarray .int, 2) := by decide +kernel
theorem dX10_init_252 : decode cX10_init 252 = .ok (.putfield 100, 3) := by decide +kernel
theorem dX10_init_255 : decode cX10_init 255 = .ok (.aload_n 0, 1) := by decide +kernel
theorem dX10_init_256 : decode cX10_init 256 = .ok (.sipush 300, 3) := by decide +kernel
theorem dX10_init_259 : decode cX10_init 259 = .ok (.newarray .int, 2) := by decide +kernel
theorem dX10_init_261 : decode cX10_init 261 = .ok (.putfield 103, 3) := by decide +kernel
theorem dX10_init_264 : decode cX10_init 264 = .ok (.aload_n 0, 1) := by decide +kernel
theorem dX10_init_265 : decode cX10_init 265 = .ok (.sipush 2400, 3) := by decide +kernel
theorem dX10_init_268 : decode cX10_init 268 = .ok (.newarray .long, 2) := by decide +kernel
theorem dX10_init_270 : decode cX10_init 270 = .ok (.putfield 106, 3) := by decide +kernel
theorem dX10_init_273 : decode cX10_init 273 = .ok (.aload_n 0, 1) := by decide +kernel
theorem dX10_init_274 : decode cX10_init 274 = .ok (.bipush 100, 2) := by decide +kernel
theorem dX10_init_276 : decode cX10_init 276 = .ok (.newarray .int, 2) := by decide +kernel
theorem dX10_init_278 : decode cX10_init 278 = .ok (.putfield 109, 3) := by decide +kernel
theorem dX10_init_281 : decode cX10_init 281 = .ok (.aload_n 0, 1) := by decide +kernel
theorem dX10_init_282 : decode cX10_init 282 = .ok (.bipush 100, 2) := by decide +kernel
theorem dX10_init_284 : decode cX10_init 284 = .ok (.newarray .int, 2) := by decide +kernel
theorem dX10_init_286 : decode cX10_init 286 = .ok (.putfield 112, 3) := by decide +kernel
theorem dX10_init_289 : decode cX10_init 289 = .ok (.aload_n 0, 1) := by decide +kernel
theorem dX10_init_290 : decode cX10_init 290 = .ok (.bipush 100, 2) := by decide +kernel
theorem dX10_init_292 : decode cX10_init 292 = .ok (.newarray .int, 2) := by decide +kernel
theorem dX10_init_294 : decode cX10_init 294 = .ok (.putfield 115, 3) := by decide +kernel
theorem dX10_init_297 : decode cX10_init 297 = .ok (.aload_n 0, 1) := by decide +kernel
theorem dX10_init_298 : decode cX10_init 298 = .ok (.bipush 100, 2) := by decide +kernel
theorem dX10_init_300 : decode cX10_init 300 = .ok (.newarray .int, 2) := by decide +kernel
theorem dX10_init_302 : decode cX10_init 302 = .ok (.putfield 118, 3) := by decide +kernel
theorem dX10_init_305 : decode cX10_init 305 = .ok (.aload_n 0, 1) := by decide +kernel
theorem dX10_init_306 : decode cX10_init 306 = .ok (.bipush 100, 2) := by decide +kernel
theorem dX10_init_308 : decode cX10_init 308 = .ok (.newarray .int, 2) := by decide +kernel
theorem dX10_init_310 : decode cX10_init 310 = .ok (.putfield 121, 3) := by decide +kernel
theorem dX10_init_313 : decode cX10_init 313 = .ok (.aload_n 0, 1) := by decide +kernel
theorem dX10_init_314 : decode cX10_init 314 = .ok (.bipush 100, 2) := by decide +kernel
theorem dX10_init_316 : decode cX10_init 316 = .ok (.newarray .int, 2) := by decide +kernel
theorem dX10_init_318 : decode cX10_init 318 = .ok (.putfield 124, 3) := by decide +kernel
theorem dX10_init_321 : decode cX10_init 321 = .ok (.aload_n 0, 1) := by decide +kernel
theorem dX10_init_322 : decode cX10_init 322 = .ok (.bipush 100, 2) := by decide +kernel
theorem dX10_init_324 : decode cX10_init 324 = .ok (.newarray .long, 2) := by decide +kernel
theorem dX10_init_326 : decode cX10_init 326 = .ok (.putfield 127, 3) := by decide +kernel
theorem dX10_init_329 : decode cX10_init 329 = .ok (.aload_n 0, 1) := by decide +kernel
theorem dX10_init_330 : decode cX10_init 330 = .ok (.bipush 12, 2) := by decide +kernel
theorem dX10_init_332 : decode cX10_init 332 = .ok (.newarray .int, 2) := by decide +kernel
theorem dX10_init_334 : decode cX10_init 334 = .ok (.putfield 130, 3) := by decide +kernel
theorem dX10_init_337 : decode cX10_init 337 = .ok (.aload_n 0, 1) := by decide +kernel
theorem dX10_init_338 : decode cX10_init 338 = .ok (.bipush 12, 2) := by decide +kernel
theorem dX10_init_340 : decode cX10_init 340 = .ok (.newarray .int, 2) := by decide +kernel
theorem dX10_init_342 : decode cX10_init 342 = .ok (.putfield 133, 3) := by decide +kernel
theorem dX10_init_345 : decode cX10_init 345 = .ok (.aload_n 0, 1) := by decide +kernel
theorem dX10_init_346 : decode cX10_init 346 = .ok (.bipush 12, 2) := by decide +kernel
theorem dX10_init_348 : decode cX10_init 348 = .ok (.newarray .int, 2) := by decide +kernel
theorem dX10_init_350 : decode cX10_init 350 = .ok (.putfield 136, 3) := by decide +kernel
theorem dX10_init_353 : decode cX10_init 353 = .ok (.aload_n 0, 1) := by decide +kernel
theorem dX10_init_354 : decode cX10_init 354 = .ok (.bipush 12, 2) := by decide +kernel
theorem dX10_init_356 : decode cX10_init 356 = .ok (.newarray .int, 2) := by decide +kernel
theorem dX10_init_358 : decode cX10_init 358 = .ok (.putfield 139, 3) := by decide +kernel
theorem dX10_init_361 : decode cX10_init 361 = .ok (.aload_n 0, 1) := by decide +kernel
theorem dX10_init_362 : decode cX10_init 362 = .ok (.bipush 12, 2) := by decide +kernel
theorem dX10_init_364 : decode cX10_init 364 = .ok (.newarray .int, 2) := by decide +kernel
theorem dX10_init_366 : decode cX10_init 366 = .ok (.putfield 142, 3) := by decide +kernel
theorem dX10_init_369 : decode cX10_init 369 = .ok (.aload_n 0, 1) := by decide +kernel
theorem dX10_init_370 : decode cX10_init 370 = .ok (.bipush 12, 2) := by decide +kernel
theorem dX10_init_372 : decode cX10_init 372 = .ok (.newarray .int, 2) := by decide +kernel
theorem dX10_init_374 : decode cX10_init 374 = .ok (.putfield 145, 3) := by decide +kernel
theorem dX10_init_377 : decode cX10_init 377 = .ok (.aload_n 0, 1) := by decide +kernel
theorem dX10_init_378 : decode cX10_init 378 = .ok (.sipush 480, 3) := by decide +kernel
theorem dX10_init_381 : decode cX10_init 381 = .ok (.newarray .long, 2) := by decide +kernel
theorem dX10_init_383 : decode cX10_init 383 = .ok (.putfield 148, 3) := by decide +kernel
theorem dX10_init_386 : decode cX10_init 386 = .ok (.return_, 1) := by decide +kernel
theorem dX10_in_0 : decode cX10_in 0 = .ok (.lload_n 0, 1) := by decide +kernel
theorem dX10_in_1 : decode cX10_in 1 = .ok (.lload_n 2, 1) := by decide +kernel
theorem dX10_in_2 : decode cX10_in 2 = .ok (.lcmp, 1) := by decide +kernel
theorem dX10_in_3 : decode cX10_in 3 = .ok (.ifCond .lt 14, 3) := by decide +kernel
theorem dX10_in_6 : decode cX10_in 6 = .ok (.lload_n 0, 1) := by decide +kernel
theorem dX10_in_7 : decode cX10_in 7 = .ok (.lload 4, 2) := by decide +kernel
theorem dX10_in_9 : decode cX10_in 9 = .ok (.lcmp, 1) := by decide +kernel
theorem dX10_in_10 : decode cX10_in 10 = .ok (.ifCond .gt 7, 3) := by decide +kernel
theorem dX10_in_13 : decode cX10_in 13 = .ok (.iconst 1, 1) := by decide +kernel
theorem dX10_in_14 : decode cX10_in 14 = .ok (.goto 4, 3) := by decide +kernel
theorem dX10_in_17 : decode cX10_in 17 = .ok (.iconst 0, 1) := by decide +kernel
theorem dX10_in_18 : decode cX10_in 18 = .ok (.ireturn, 1) := by decide +kernel
theorem dX10_feed_0 : decode cX10_feed 0 = .ok (.iconst 0, 1) := by decide +kernel
theorem dX10_feed_1 : decode cX10_feed 1 = .ok (.istore_n 3, 1) := by decide +kernel
theorem dX10_feed_2 : decode cX10_feed 2 = .ok (.iload_n 3, 1) := by decide +kernel
theorem dX10_feed_3 : decode cX10_feed 3 = .ok (.bipush 8, 2) := by decide +kernel
theorem dX10_feed_5 : decode cX10_feed 5 = .ok (.if_icmp .ge 24, 3) := by decide +kernel
theorem dX10_feed_8 : decode cX10_feed 8 = .ok (.lload_n 1, 1) := by decide +kernel
theorem dX10_feed_9 : decode cX10_feed 9 = .ok (.bipush 8, 2) := by decide +kernel
theorem dX10_feed_11 : decode cX10_feed 11 = .ok (.iload_n 3, 1) := by decide +kernel
theorem dX10_feed_12 : decode cX10_feed 12 = .ok (.imul, 1) := by decide +kernel
theorem dX10_feed_13 : decode cX10_feed 13 = .ok (.lushr, 1) := by decide +kernel
theorem dX10_feed_14 : decode cX10_feed 14 = .ok (.ldc2_w 151, 3) := by decide +kernel
theorem dX10_feed_17 : decode cX10_feed 17 = .ok (.land, 1) := by decide +kernel
theorem dX10_feed_18 : decode cX10_feed 18 = .ok (.lconst 0, 1) := by decide +kernel
theorem dX10_feed_19 : decode cX10_feed 19 = .ok (.lcmp, 1) := by decide +kernel
theorem dX10_feed_20 : decode cX10_feed 20 = .ok (.ifCond .eq 9, 3) := by decide +kernel
theorem dX10_feed_23 : decode cX10_feed 23 = .ok (.iinc 3 1, 3) := by decide +kernel
theorem dX10_feed_26 : decode cX10_feed 26 = .ok (.goto (-24), 3) := by decide +kernel
theorem dX10_feed_29 : decode cX10_feed 29 = .ok (.aload_n 0, 1) := by decide +kernel
theorem dX10_feed_30 : decode cX10_feed 30 = .ok (.getfield 153, 3) := by decide +kernel
theorem dX10_feed_33 : decode cX10_feed 33 = .ok (.iload_n 3, 1) := by decide +kernel
theorem dX10_feed_34 : decode cX10_feed 34 = .ok (.iadd, 1) := by decide +kernel
theorem dX10_feed_35 : decode cX10_feed 35 = .ok (.sipush 900, 3) := by decide +kernel
theorem dX10_feed_38 : decode cX10_feed 38 = .ok (.if_icmp .le 6, 3) := by decide +kernel
theorem dX10_feed_41 : decode cX10_feed 41 = .ok (.bipush (-4), 2) := by decide +kernel
theorem dX10_feed_43 : decode cX10_feed 43 = .ok (.ireturn, 1) := by decide +kernel
theorem dX10_feed_44 : decode cX10_feed 44 = .ok (.iconst 0, 1) := by decide +kernel
theorem dX10_feed_45 : decode cX10_feed 45 = .ok (.istore 4, 2) := by decide +kernel
theorem dX10_feed_47 : decode cX10_feed 47 = .ok (.iload 4, 2) := by decide +kernel
theorem dX10_feed_49 : decode cX10_feed 49 = .ok (.iload_n 3, 1) := by decide +kernel
theorem dX10_feed_50 : decode cX10_feed 50 = .ok (.if_icmp .ge 30, 3) := by decide +kernel
theorem dX10_feed_53 : decode cX10_feed 53 = .ok (.aload_n 0, 1) := by decide +kernel
theorem dX10_feed_54 : decode cX10_feed 54 = .ok (.getfield 7, 3) := by decide +kernel
theorem dX10_feed_57 : decode cX10_feed 57 = .ok (.aload_n 0, 1) := by decide +kernel
theorem dX10_feed_58 : decode cX10_feed 58 = .ok (.getfield 153, 3) := by decide +kernel
theorem dX10_feed_61 : decode cX10_feed 61 = .ok (.iload 4, 2) := by decide +kernel
theorem dX10_feed_63 : decode cX10_feed 63 = .ok (.iadd, 1) := by decide +kernel
theorem dX10_feed_64 : decode cX10_feed 64 = .ok (.lload_n 1, 1) := by decide +kernel
theorem dX10_feed_65 : decode cX10_feed 65 = .ok (.bipush 8, 2) := by decide +kernel
theorem dX10_feed_67 : decode cX10_feed 67 = .ok (.iload 4, 2) := by decide +kernel
theorem dX10_feed_69 : decode cX10_feed 69 = .ok (.imul, 1) := by decide +kernel
theorem dX10_feed_70 : decode cX10_feed 70 = .ok (.lushr, 1) := by decide +kernel
theorem dX10_feed_71 : decode cX10_feed 71 = .ok (.l2i, 1) := by decide +kernel
theorem dX10_feed_72 : decode cX10_feed 72 = .ok (.i2b, 1) := by decide +kernel
theorem dX10_feed_73 : decode cX10_feed 73 = .ok (.bastore, 1) := by decide +kernel
theorem dX10_feed_74 : decode cX10_feed 74 = .ok (.iinc 4 1, 3) := by decide +kernel
theorem dX10_feed_77 : decode cX10_feed 77 = .ok (.goto (-30), 3) := by decide +kernel
theorem dX10_feed_80 : decode cX10_feed 80 = .ok (.aload_n 0, 1) := by decide +kernel
theorem dX10_feed_81 : decode cX10_feed 81 = .ok (.dup, 1) := by decide +kernel
theorem dX10_feed_82 : decode cX10_feed 82 = .ok (.getfield 153, 3) := by decide +kernel
theorem dX10_feed_85 : decode cX10_feed 85 = .ok (.iload_n 3, 1) := by decide +kernel
theorem dX10_feed_86 : decode cX10_feed 86 = .ok (.iadd, 1) := by decide +kernel
theorem dX10_feed_87 : decode cX10_feed 87 = .ok (.putfield 153, 3) := by decide +kernel
theorem dX10_feed_90 : decode cX10_feed 90 = .ok (.aload_n 0, 1) := by decide +kernel
theorem dX10_feed_91 : decode cX10_feed 91 = .ok (.getfield 153, 3) := by decide +kernel
theorem dX10_feed_94 : decode cX10_feed 94 = .ok (.ireturn, 1) := by decide +kernel
theorem dX10_cut_0 : decode cX10_cut 0 = .ok (.aload_n 0, 1) := by decide +kernel
theorem dX10_cut_1 : decode cX10_cut 1 = .ok (.getfield 153, 3) := by decide +kernel
theorem dX10_cut_4 : decode cX10_cut 4 = .ok (.istore_n 1, 1) := by decide +kernel
theorem dX10_cut_5 : decode cX10_cut 5 = .ok (.aload_n 0, 1) := by decide +kernel
theorem dX10_cut_6 : decode cX10_cut 6 = .ok (.iconst 0, 1) := by decide +kernel
theorem dX10_cut_7 : decode cX10_cut 7 = .ok (.putfield 153, 3) := by decide +kernel
theorem dX10_cut_10 : decode cX10_cut 10 = .ok (.iload_n 1, 1) := by decide +kernel
theorem dX10_cut_11 : decode cX10_cut 11 = .ok (.ireturn, 1) := by decide +kernel
theorem dX10_at_0 : decode cX10_at 0 = .ok (.iload_n 1, 1) := by decide +kernel
theorem dX10_at_1 : decode cX10_at 1 = .ok (.aload_n 0, 1) := by decide +kernel
theorem dX10_at_2 : decode cX10_at 2 = .ok (.getfield 153, 3) := by decide +kernel
theorem dX10_at_5 : decode cX10_at 5 = .ok (.if_icmp .ge 16, 3) := by decide +kernel
theorem dX10_at_8 : decode cX10_at 8 = .ok (.aload_n 0, 1) := by decide +kernel
theorem dX10_at_9 : decode cX10_at 9 = .ok (.getfield 7, 3) := by decide +kernel
theorem dX10_at_12 : decode cX10_at 12 = .ok (.iload_n 1, 1) := by decide +kernel
theorem dX10_at_13 : decode cX10_at 13 = .ok (.baload, 1) := by decide +kernel
theorem dX10_at_14 : decode cX10_at 14 = .ok (.sipush 255, 3) := by decide +kernel
theorem dX10_at_17 : decode cX10_at 17 = .ok (.iand, 1) := by decide +kernel
theorem dX10_at_18 : decode cX10_at 18 = .ok (.goto 4, 3) := by decide +kernel
theorem dX10_at_21 : decode cX10_at 21 = .ok (.iconst 0, 1) := by decide +kernel
theorem dX10_at_22 : decode cX10_at 22 = .ok (.ireturn, 1) := by decide +kernel
theorem dX10_isLetter_0 : decode cX10_isLetter 0 = .ok (.iload_n 0, 1) := by decide +kernel
theorem dX10_isLetter_1 : decode cX10_isLetter 1 = .ok (.bipush 97, 2) := by decide +kernel
theorem dX10_isLetter_3 : decode cX10_isLetter 3 = .ok (.if_icmp .lt 13, 3) := by decide +kernel
theorem dX10_isLetter_6 : decode cX10_isLetter 6 = .ok (.iload_n 0, 1) := by decide +kernel
theorem dX10_isLetter_7 : decode cX10_isLetter 7 = .ok (.bipush 122, 2) := by decide +kernel
theorem dX10_isLetter_9 : decode cX10_isLetter 9 = .ok (.if_icmp .gt 7, 3) := by decide +kernel
theorem dX10_isLetter_12 : decode cX10_isLetter 12 = .ok (.iconst 1, 1) := by decide +kernel
theorem dX10_isLetter_13 : decode cX10_isLetter 13 = .ok (.goto 4, 3) := by decide +kernel
theorem dX10_isLetter_16 : decode cX10_isLetter 16 = .ok (.iconst 0, 1) := by decide +kernel
theorem dX10_isLetter_17 : decode cX10_isLetter 17 = .ok (.ireturn, 1) := by decide +kernel
theorem dX10_isDigit_0 : decode cX10_isDigit 0 = .ok (.iload_n 0, 1) := by decide +kernel
theorem dX10_isDigit_1 : decode cX10_isDigit 1 = .ok (.bipush 48, 2) := by decide +kernel
theorem dX10_isDigit_3 : decode cX10_isDigit 3 = .ok (.if_icmp .lt 13, 3) := by decide +kernel
theorem dX10_isDigit_6 : decode cX10_isDigit 6 = .ok (.iload_n 0, 1) := by decide +kernel
theorem dX10_isDigit_7 : decode cX10_isDigit 7 = .ok (.bipush 57, 2) := by decide +kernel
theorem dX10_isDigit_9 : decode cX10_isDigit 9 = .ok (.if_icmp .gt 7, 3) := by decide +kernel
theorem dX10_isDigit_12 : decode cX10_isDigit 12 = .ok (.iconst 1, 1) := by decide +kernel
theorem dX10_isDigit_13 : decode cX10_isDigit 13 = .ok (.goto 4, 3) := by decide +kernel
theorem dX10_isDigit_16 : decode cX10_isDigit 16 = .ok (.iconst 0, 1) := by decide +kernel
theorem dX10_isDigit_17 : decode cX10_isDigit 17 = .ok (.ireturn, 1) := by decide +kernel
theorem dX10_isSign_0 : decode cX10_isSign 0 = .ok (.iload_n 0, 1) := by decide +kernel
theorem dX10_isSign_1 : decode cX10_isSign 1 = .ok (.bipush 91, 2) := by decide +kernel
theorem dX10_isSign_3 : decode cX10_isSign 3 = .ok (.if_icmp .eq 87, 3) := by decide +kernel
theorem dX10_isSign_6 : decode cX10_isSign 6 = .ok (.iload_n 0, 1) := by decide +kernel
theorem dX10_isSign_7 : decode cX10_isSign 7 = .ok (.bipush 93, 2) := by decide +kernel
theorem dX10_isSign_9 : decode cX10_isSign 9 = .ok (.if_icmp .eq 81, 3) := by decide +kernel
theorem dX10_isSign_12 : decode cX10_isSign 12 = .ok (.iload_n 0, 1) := by decide +kernel
theorem dX10_isSign_13 : decode cX10_isSign 13 = .ok (.bipush 40, 2) := by decide +kernel
theorem dX10_isSign_15 : decode cX10_isSign 15 = .ok (.if_icmp .eq 75, 3) := by decide +kernel
theorem dX10_isSign_18 : decode cX10_isSign 18 = .ok (.iload_n 0, 1) := by decide +kernel
theorem dX10_isSign_19 : decode cX10_isSign 19 = .ok (.bipush 41, 2) := by decide +kernel
theorem dX10_isSign_21 : decode cX10_isSign 21 = .ok (.if_icmp .eq 69, 3) := by decide +kernel
theorem dX10_isSign_24 : decode cX10_isSign 24 = .ok (.iload_n 0, 1) := by decide +kernel
theorem dX10_isSign_25 : decode cX10_isSign 25 = .ok (.bipush 61, 2) := by decide +kernel
theorem dX10_isSign_27 : decode cX10_isSign 27 = .ok (.if_icmp .eq 63, 3) := by decide +kernel
theorem dX10_isSign_30 : decode cX10_isSign 30 = .ok (.iload_n 0, 1) := by decide +kernel
theorem dX10_isSign_31 : decode cX10_isSign 31 = .ok (.bipush 43, 2) := by decide +kernel
theorem dX10_isSign_33 : decode cX10_isSign 33 = .ok (.if_icmp .eq 57, 3) := by decide +kernel
theorem dX10_isSign_36 : decode cX10_isSign 36 = .ok (.iload_n 0, 1) := by decide +kernel
theorem dX10_isSign_37 : decode cX10_isSign 37 = .ok (.bipush 45, 2) := by decide +kernel
theorem dX10_isSign_39 : decode cX10_isSign 39 = .ok (.if_icmp .eq 51, 3) := by decide +kernel
theorem dX10_isSign_42 : decode cX10_isSign 42 = .ok (.iload_n 0, 1) := by decide +kernel
theorem dX10_isSign_43 : decode cX10_isSign 43 = .ok (.bipush 42, 2) := by decide +kernel
theorem dX10_isSign_45 : decode cX10_isSign 45 = .ok (.if_icmp .eq 45, 3) := by decide +kernel
theorem dX10_isSign_48 : decode cX10_isSign 48 = .ok (.iload_n 0, 1) := by decide +kernel
theorem dX10_isSign_49 : decode cX10_isSign 49 = .ok (.bipush 47, 2) := by decide +kernel
theorem dX10_isSign_51 : decode cX10_isSign 51 = .ok (.if_icmp .eq 39, 3) := by decide +kernel
theorem dX10_isSign_54 : decode cX10_isSign 54 = .ok (.iload_n 0, 1) := by decide +kernel
theorem dX10_isSign_55 : decode cX10_isSign 55 = .ok (.bipush 37, 2) := by decide +kernel
theorem dX10_isSign_57 : decode cX10_isSign 57 = .ok (.if_icmp .eq 33, 3) := by decide +kernel
theorem dX10_isSign_60 : decode cX10_isSign 60 = .ok (.iload_n 0, 1) := by decide +kernel
theorem dX10_isSign_61 : decode cX10_isSign 61 = .ok (.bipush 60, 2) := by decide +kernel
theorem dX10_isSign_63 : decode cX10_isSign 63 = .ok (.if_icmp .eq 27, 3) := by decide +kernel
theorem dX10_isSign_66 : decode cX10_isSign 66 = .ok (.iload_n 0, 1) := by decide +kernel
theorem dX10_isSign_67 : decode cX10_isSign 67 = .ok (.bipush 63, 2) := by decide +kernel
theorem dX10_isSign_69 : decode cX10_isSign 69 = .ok (.if_icmp .eq 21, 3) := by decide +kernel
theorem dX10_isSign_72 : decode cX10_isSign 72 = .ok (.iload_n 0, 1) := by decide +kernel
theorem dX10_isSign_73 : decode cX10_isSign 73 = .ok (.bipush 58, 2) := by decide +kernel
theorem dX10_isSign_75 : decode cX10_isSign 75 = .ok (.if_icmp .eq 15, 3) := by decide +kernel
theorem dX10_isSign_78 : decode cX10_isSign 78 = .ok (.iload_n 0, 1) := by decide +kernel
theorem dX10_isSign_79 : decode cX10_isSign 79 = .ok (.bipush 35, 2) := by decide +kernel
theorem dX10_isSign_81 : decode cX10_isSign 81 = .ok (.if_icmp .eq 9, 3) := by decide +kernel
theorem dX10_isSign_84 : decode cX10_isSign 84 = .ok (.iload_n 0, 1) := by decide +kernel
theorem dX10_isSign_85 : decode cX10_isSign 85 = .ok (.bipush 59, 2) := by decide +kernel
theorem dX10_isSign_87 : decode cX10_isSign 87 = .ok (.if_icmp .ne 7, 3) := by decide +kernel
theorem dX10_isSign_90 : decode cX10_isSign 90 = .ok (.iconst 1, 1) := by decide +kernel
theorem dX10_isSign_91 : decode cX10_isSign 91 = .ok (.goto 4, 3) := by decide +kernel
theorem dX10_isSign_94 : decode cX10_isSign 94 = .ok (.iconst 0, 1) := by decide +kernel
theorem dX10_isSign_95 : decode cX10_isSign 95 = .ok (.ireturn, 1) := by decide +kernel
theorem dX10_wordSort_0 : decode cX10_wordSort 0 = .ok (.lload_n 0, 1) := by decide +kernel
theorem dX10_wordSort_1 : decode cX10_wordSort 1 = .ok (.ldc2_w 157, 3) := by decide +kernel
theorem dX10_wordSort_4 : decode cX10_wordSort 4 = .ok (.lcmp, 1) := by decide +kernel
theorem dX10_wordSort_5 : decode cX10_wordSort 5 = .ok (.ifCond .ne 6, 3) := by decide +kernel
theorem dX10_wordSort_8 : decode cX10_wordSort 8 = .ok (.bipush 8, 2) := by decide +kernel
theorem dX10_wordSort_10 : decode cX10_wordSort 10 = .ok (.ireturn, 1) := by decide +kernel
theorem dX10_wordSort_11 : decode cX10_wordSort 11 = .ok (.lload_n 0, 1) := by decide +kernel
theorem dX10_wordSort_12 : decode cX10_wordSort 12 = .ok (.ldc2_w 159, 3) := by decide +kernel
theorem dX10_wordSort_15 : decode cX10_wordSort 15 = .ok (.lcmp, 1) := by decide +kernel
theorem dX10_wordSort_16 : decode cX10_wordSort 16 = .ok (.ifCond .ne 6, 3) := by decide +kernel
theorem dX10_wordSort_19 : decode cX10_wordSort 19 = .ok (.bipush 7, 2) := by decide +kernel
theorem dX10_wordSort_21 : decode cX10_wordSort 21 = .ok (.ireturn, 1) := by decide +kernel
theorem dX10_wordSort_22 : decode cX10_wordSort 22 = .ok (.lload_n 0, 1) := by decide +kernel
theorem dX10_wordSort_23 : decode cX10_wordSort 23 = .ok (.ldc2_w 161, 3) := by decide +kernel
theorem dX10_wordSort_26 : decode cX10_wordSort 26 = .ok (.lcmp, 1) := by decide +kernel
theorem dX10_wordSort_27 : decode cX10_wordSort 27 = .ok (.ifCond .ne 6, 3) := by decide +kernel
theorem dX10_wordSort_30 : decode cX10_wordSort 30 = .ok (.bipush 6, 2) := by decide +kernel
theorem dX10_wordSort_32 : decode cX10_wordSort 32 = .ok (.ireturn, 1) := by decide +kernel
theorem dX10_wordSort_33 : decode cX10_wordSort 33 = .ok (.lload_n 0, 1) := by decide +kernel
theorem dX10_wordSort_34 : decode cX10_wordSort 34 = .ok (.ldc2_w 163, 3) := by decide +kernel
theorem dX10_wordSort_37 : decode cX10_wordSort 37 = .ok (.lcmp, 1) := by decide +kernel
theorem dX10_wordSort_38 : decode cX10_wordSort 38 = .ok (.ifCond .ne 5, 3) := by decide +kernel
theorem dX10_wordSort_41 : decode cX10_wordSort 41 = .ok (.iconst 5, 1) := by decide +kernel
theorem dX10_wordSort_42 : decode cX10_wordSort 42 = .ok (.ireturn, 1) := by decide +kernel
theorem dX10_wordSort_43 : decode cX10_wordSort 43 = .ok (.lload_n 0, 1) := by decide +kernel
theorem dX10_wordSort_44 : decode cX10_wordSort 44 = .ok (.ldc2_w 165, 3) := by decide +kernel
theorem dX10_wordSort_47 : decode cX10_wordSort 47 = .ok (.lcmp, 1) := by decide +kernel
theorem dX10_wordSort_48 : decode cX10_wordSort 48 = .ok (.ifCond .ne 7, 3) := by decide +kernel
theorem dX10_wordSort_51 : decode cX10_wordSort 51 = .ok (.iconst 4, 1) := by decide +kernel
theorem dX10_wordSort_52 : decode cX10_wordSort 52 = .ok (.goto 4, 3) := by decide +kernel
theorem dX10_wordSort_55 : decode cX10_wordSort 55 = .ok (.iconst 2, 1) := by decide +kernel
theorem dX10_wordSort_56 : decode cX10_wordSort 56 = .ok (.ireturn, 1) := by decide +kernel
theorem dX10_addToken_0 : decode cX10_addToken 0 = .ok (.aload_n 0, 1) := by decide +kernel
theorem dX10_addToken_1 : decode cX10_addToken 1 = .ok (.getfield 13, 3) := by decide +kernel
theorem dX10_addToken_4 : decode cX10_addToken 4 = .ok (.aload_n 0, 1) := by decide +kernel
theorem dX10_addToken_5 : decode cX10_addToken 5 = .ok (.getfield 167, 3) := by decide +kernel
theorem dX10_addToken_8 : decode cX10_addToken 8 = .ok (.iload_n 1, 1) := by decide +kernel
theorem dX10_addToken_9 : decode cX10_addToken 9 = .ok (.iastore, 1) := by decide +kernel
theorem dX10_addToken_10 : decode cX10_addToken 10 = .ok (.aload_n 0, 1) := by decide +kernel
theorem dX10_addToken_11 : decode cX10_addToken 11 = .ok (.getfield 17, 3) := by decide +kernel
theorem dX10_addToken_14 : decode cX10_addToken 14 = .ok (.aload_n 0, 1) := by decide +kernel
theorem dX10_addToken_15 : decode cX10_addToken 15 = .ok (.getfield 167, 3) := by decide +kernel
theorem dX10_addToken_18 : decode cX10_addToken 18 = .ok (.iload_n 2, 1) := by decide +kernel
theorem dX10_addToken_19 : decode cX10_addToken 19 = .ok (.iastore, 1) := by decide +kernel
theorem dX10_addToken_20 : decode cX10_addToken 20 = .ok (.aload_n 0, 1) := by decide +kernel
theorem dX10_addToken_21 : decode cX10_addToken 21 = .ok (.getfield 20, 3) := by decide +kernel
theorem dX10_addToken_24 : decode cX10_addToken 24 = .ok (.aload_n 0, 1) := by decide +kernel
theorem dX10_addToken_25 : decode cX10_addToken 25 = .ok (.getfield 167, 3) := by decide +kernel
theorem dX10_addToken_28 : decode cX10_addToken 28 = .ok (.lload_n 3, 1) := by decide +kernel
theorem dX10_addToken_29 : decode cX10_addToken 29 = .ok (.lastore, 1) := by decide +kernel
theorem dX10_addToken_30 : decode cX10_addToken 30 = .ok (.aload_n 0, 1) := by decide +kernel
theorem dX10_addToken_31 : decode cX10_addToken 31 = .ok (.dup, 1) := by decide +kernel
theorem dX10_addToken_32 : decode cX10_addToken 32 = .ok (.getfield 167, 3) := by decide +kernel
theorem dX10_addToken_35 : decode cX10_addToken 35 = .ok (.iconst 1, 1) := by decide +kernel
theorem dX10_addToken_36 : decode cX10_addToken 36 = .ok (.iadd, 1) := by decide +kernel
theorem dX10_addToken_37 : decode cX10_addToken 37 = .ok (.putfield 167, 3) := by decide +kernel
theorem dX10_addToken_40 : decode cX10_addToken 40 = .ok (.return_, 1) := by decide +kernel
theorem dX10_cutUp_0 : decode cX10_cutUp 0 = .ok (.aload_n 0, 1) := by decide +kernel
theorem dX10_cutUp_1 : decode cX10_cutUp 1 = .ok (.iconst 0, 1) := by decide +kernel
theorem dX10_cutUp_2 : decode cX10_cutUp 2 = .ok (.putfield 167, 3) := by decide +kernel
theorem dX10_cutUp_5 : decode cX10_cutUp 5 = .ok (.iconst 0, 1) := by decide +kernel
theorem dX10_cutUp_6 : decode cX10_cutUp 6 = .ok (.istore_n 1, 1) := by decide +kernel
theorem dX10_cutUp_7 : decode cX10_cutUp 7 = .ok (.iload_n 1, 1) := by decide +kernel
theorem dX10_cutUp_8 : decode cX10_cutUp 8 = .ok (.aload_n 0, 1) := by decide +kernel
theorem dX10_cutUp_9 : decode cX10_cutUp 9 = .ok (.getfield 153, 3) := by decide +kernel
theorem dX10_cutUp_12 : decode cX10_cutUp 12 = .ok (.if_icmp .ge 217, 3) := by decide +kernel
theorem dX10_cutUp_15 : decode cX10_cutUp 15 = .ok (.aload_n 0, 1) := by decide +kernel
theorem dX10_cutUp_16 : decode cX10_cutUp 16 = .ok (.iload_n 1, 1) := by decide +kernel
theorem dX10_cutUp_17 : decode cX10_cutUp 17 = .ok (.invokevirtual 170, 3) := by decide +kernel
theorem dX10_cutUp_20 : decode cX10_cutUp 20 = .ok (.istore_n 2, 1) := by decide +kernel
theorem dX10_cutUp_21 : decode cX10_cutUp 21 = .ok (.iload_n 1, 1) := by decide +kernel
theorem dX10_cutUp_22 : decode cX10_cutUp 22 = .ok (.iconst 1, 1) := by decide +kernel
theorem dX10_cutUp_23 : decode cX10_cutUp 23 = .ok (.iadd, 1) := by decide +kernel
theorem dX10_cutUp_24 : decode cX10_cutUp 24 = .ok (.istore_n 3, 1) := by decide +kernel
theorem dX10_cutUp_25 : decode cX10_cutUp 25 = .ok (.iload_n 2, 1) := by decide +kernel
theorem dX10_cutUp_26 : decode cX10_cutUp 26 = .ok (.invokestatic 174, 3) := by decide +kernel
theorem dX10_cutUp_29 : decode cX10_cutUp 29 = .ok (.ifCond .eq 81, 3) := by decide +kernel
theorem dX10_cutUp_32 : decode cX10_cutUp 32 = .ok (.lconst 0, 1) := by decide +kernel
theorem dX10_cutUp_33 : decode cX10_cutUp 33 = .ok (.lstore 4, 2) := by decide +kernel
theorem dX10_cutUp_35 : decode cX10_cutUp 35 = .ok (.iload_n 1, 1) := by decide +kernel
theorem dX10_cutUp_36 : decode cX10_cutUp 36 = .ok (.istore_n 3, 1) := by decide +kernel
theorem dX10_cutUp_37 : decode cX10_cutUp 37 = .ok (.aload_n 0, 1) := by decide +kernel
theorem dX10_cutUp_38 : decode cX10_cutUp 38 = .ok (.iload_n 3, 1) := by decide +kernel
theorem dX10_cutUp_39 : decode cX10_cutUp 39 = .ok (.invokevirtual 170, 3) := by decide +kernel
theorem dX10_cutUp_42 : decode cX10_cutUp 42 = .ok (.invokestatic 174, 3) := by decide +kernel
theorem dX10_cutUp_45 : decode cX10_cutUp 45 = .ok (.ifCond .eq 39, 3) := by decide +kernel
theorem dX10_cutUp_48 : decode cX10_cutUp 48 = .ok (.iload_n 3, 1) := by decide +kernel
theorem dX10_cutUp_49 : decode cX10_cutUp 49 = .ok (.iload_n 1, 1) := by decide +kernel
theorem dX10_cutUp_50 : decode cX10_cutUp 50 = .ok (.isub, 1) := by decide +kernel
theorem dX10_cutUp_51 : decode cX10_cutUp 51 = .ok (.iconst 5, 1) := by decide +kernel
theorem dX10_cutUp_52 : decode cX10_cutUp 52 = .ok (.if_icmp .ge 22, 3) := by decide +kernel
theorem dX10_cutUp_55 : decode cX10_cutUp 55 = .ok (.lload 4, 2) := by decide +kernel
theorem dX10_cutUp_57 : decode cX10_cutUp 57 = .ok (.aload_n 0, 1) := by decide +kernel
theorem dX10_cutUp_58 : decode cX10_cutUp 58 = .ok (.iload_n 3, 1) := by decide +kernel
theorem dX10_cutUp_59 : decode cX10_cutUp 59 = .ok (.invokevirtual 170, 3) := by decide +kernel
theorem dX10_cutUp_62 : decode cX10_cutUp 62 = .ok (.i2l, 1) := by decide +kernel
theorem dX10_cutUp_63 : decode cX10_cutUp 63 = .ok (.bipush 8, 2) := by decide +kernel
theorem dX10_cutUp_65 : decode cX10_cutUp 65 = .ok (.iload_n 3, 1) := by decide +kernel
theorem dX10_cutUp_66 : decode cX10_cutUp 66 = .ok (.iload_n 1, 1) := by decide +kernel
theorem dX10_cutUp_67 : decode cX10_cutUp 67 = .ok (.isub, 1) := by decide +kernel
theorem dX10_cutUp_68 : decode cX10_cutUp 68 = .ok (.imul, 1) := by decide +kernel
theorem dX10_cutUp_69 : decode cX10_cutUp 69 = .ok (.lshl, 1) := by decide +kernel
theorem dX10_cutUp_70 : decode cX10_cutUp 70 = .ok (.lor, 1) := by decide +kernel
theorem dX10_cutUp_71 : decode cX10_cutUp 71 = .ok (.goto 5, 3) := by decide +kernel
theorem dX10_cutUp_74 : decode cX10_cutUp 74 = .ok (.lload 4, 2) := by decide +kernel
theorem dX10_cutUp_76 : decode cX10_cutUp 76 = .ok (.lstore 4, 2) := by decide +kernel
theorem dX10_cutUp_78 : decode cX10_cutUp 78 = .ok (.iinc 3 1, 3) := by decide +kernel
theorem dX10_cutUp_81 : decode cX10_cutUp 81 = .ok (.goto (-44), 3) := by decide +kernel
theorem dX10_cutUp_84 : decode cX10_cutUp 84 = .ok (.aload_n 0, 1) := by decide +kernel
theorem dX10_cutUp_85 : decode cX10_cutUp 85 = .ok (.iload_n 3, 1) := by decide +kernel
theorem dX10_cutUp_86 : decode cX10_cutUp 86 = .ok (.iload_n 1, 1) := by decide +kernel
theorem dX10_cutUp_87 : decode cX10_cutUp 87 = .ok (.isub, 1) := by decide +kernel
theorem dX10_cutUp_88 : decode cX10_cutUp 88 = .ok (.iconst 5, 1) := by decide +kernel
theorem dX10_cutUp_89 : decode cX10_cutUp 89 = .ok (.if_icmp .le 7, 3) := by decide +kernel
theorem dX10_cutUp_92 : decode cX10_cutUp 92 = .ok (.iconst 3, 1) := by decide +kernel
theorem dX10_cutUp_93 : decode cX10_cutUp 93 = .ok (.goto 8, 3) := by decide +kernel
theorem dX10_cutUp_96 : decode cX10_cutUp 96 = .ok (.lload 4, 2) := by decide +kernel
theorem dX10_cutUp_98 : decode cX10_cutUp 98 = .ok (.invokestatic 178, 3) := by decide +kernel
theorem dX10_cutUp_101 : decode cX10_cutUp 101 = .ok (.iload_n 1, 1) := by decide +kernel
theorem dX10_cutUp_102 : decode cX10_cutUp 102 = .ok (.lload 4, 2) := by decide +kernel
theorem dX10_cutUp_104 : decode cX10_cutUp 104 = .ok (.invokevirtual 182, 3) := by decide +kernel
theorem dX10_cutUp_107 : decode cX10_cutUp 107 = .ok (.goto 117, 3) := by decide +kernel
theorem dX10_cutUp_110 : decode cX10_cutUp 110 = .ok (.iload_n 2, 1) := by decide +kernel
theorem dX10_cutUp_111 : decode cX10_cutUp 111 = .ok (.invokestatic 186, 3) := by decide +kernel
theorem dX10_cutUp_114 : decode cX10_cutUp 114 = .ok (.ifCond .eq 80, 3) := by decide +kernel
theorem dX10_cutUp_117 : decode cX10_cutUp 117 = .ok (.lconst 0, 1) := by decide +kernel
theorem dX10_cutUp_118 : decode cX10_cutUp 118 = .ok (.lstore 4, 2) := by decide +kernel
theorem dX10_cutUp_120 : decode cX10_cutUp 120 = .ok (.iload_n 1, 1) := by decide +kernel
theorem dX10_cutUp_121 : decode cX10_cutUp 121 = .ok (.istore_n 3, 1) := by decide +kernel
theorem dX10_cutUp_122 : decode cX10_cutUp 122 = .ok (.aload_n 0, 1) := by decide +kernel
theorem dX10_cutUp_123 : decode cX10_cutUp 123 = .ok (.iload_n 3, 1) := by decide +kernel
theorem dX10_cutUp_124 : decode cX10_cutUp 124 = .ok (.invokevirtual 170, 3) := by decide +kernel
theorem dX10_cutUp_127 : decode cX10_cutUp 127 = .ok (.invokestatic 186, 3) := by decide +kernel
theorem dX10_cutUp_130 : decode cX10_cutUp 130 = .ok (.ifCond .eq 41, 3) := by decide +kernel
theorem dX10_cutUp_133 : decode cX10_cutUp 133 = .ok (.iload_n 3, 1) := by decide +kernel
theorem dX10_cutUp_134 : decode cX10_cutUp 134 = .ok (.iload_n 1, 1) := by decide +kernel
theorem dX10_cutUp_135 : decode cX10_cutUp 135 = .ok (.isub, 1) := by decide +kernel
theorem dX10_cutUp_136 : decode cX10_cutUp 136 = .ok (.bipush 6, 2) := by decide +kernel
theorem dX10_cutUp_138 : decode cX10_cutUp 138 = .ok (.if_icmp .ge 23, 3) := by decide +kernel
theorem dX10_cutUp_141 : decode cX10_cutUp 141 = .ok (.ldc2_w 189, 3) := by decide +kernel
theorem dX10_cutUp_144 : decode cX10_cutUp 144 = .ok (.lload 4, 2) := by decide +kernel
theorem dX10_cutUp_146 : decode cX10_cutUp 146 = .ok (.lmul, 1) := by decide +kernel
theorem dX10_cutUp_147 : decode cX10_cutUp 147 = .ok (.aload_n 0, 1) := by decide +kernel
theorem dX10_cutUp_148 : decode cX10_cutUp 148 = .ok (.iload_n 3, 1) := by decide +kernel
theorem dX10_cutUp_149 : decode cX10_cutUp 149 = .ok (.invokevirtual 170, 3) := by decide +kernel
theorem dX10_cutUp_152 : decode cX10_cutUp 152 = .ok (.i2l, 1) := by decide +kernel
theorem dX10_cutUp_153 : decode cX10_cutUp 153 = .ok (.ladd, 1) := by decide +kernel
theorem dX10_cutUp_154 : decode cX10_cutUp 154 = .ok (.ldc2_w 191, 3) := by decide +kernel
theorem dX10_cutUp_157 : decode cX10_cutUp 157 = .ok (.lsub, 1) := by decide +kernel
theorem dX10_cutUp_158 : decode cX10_cutUp 158 = .ok (.goto 5, 3) := by decide +kernel
theorem dX10_cutUp_161 : decode cX10_cutUp 161 = .ok (.lload 4, 2) := by decide +kernel
theorem dX10_cutUp_163 : decode cX10_cutUp 163 = .ok (.lstore 4, 2) := by decide +kernel
theorem dX10_cutUp_165 : decode cX10_cutUp 165 = .ok (.iinc 3 1, 3) := by decide +kernel
theorem dX10_cutUp_168 : decode cX10_cutUp 168 = .ok (.goto (-46), 3) := by decide +kernel
theorem dX10_cutUp_171 : decode cX10_cutUp 171 = .ok (.aload_n 0, 1) := by decide +kernel
theorem dX10_cutUp_172 : decode cX10_cutUp 172 = .ok (.iload_n 3, 1) := by decide +kernel
theorem dX10_cutUp_173 : decode cX10_cutUp 173 = .ok (.iload_n 1, 1) := by decide +kernel
theorem dX10_cutUp_174 : decode cX10_cutUp 174 = .ok (.isub, 1) := by decide +kernel
theorem dX10_cutUp_175 : decode cX10_cutUp 175 = .ok (.bipush 6, 2) := by decide +kernel
theorem dX10_cutUp_177 : decode cX10_cutUp 177 = .ok (.if_icmp .le 7, 3) := by decide +kernel
theorem dX10_cutUp_180 : decode cX10_cutUp 180 = .ok (.iconst 3, 1) := by decide +kernel
theorem dX10_cutUp_181 : decode cX10_cutUp 181 = .ok (.goto 4, 3) := by decide +kernel
theorem dX10_cutUp_184 : decode cX10_cutUp 184 = .ok (.iconst 1, 1) := by decide +kernel
theorem dX10_cutUp_185 : decode cX10_cutUp 185 = .ok (.iload_n 1, 1) := by decide +kernel
theorem dX10_cutUp_186 : decode cX10_cutUp 186 = .ok (.lload 4, 2) := by decide +kernel
theorem dX10_cutUp_188 : decode cX10_cutUp 188 = .ok (.invokevirtual 182, 3) := by decide +kernel
theorem dX10_cutUp_191 : decode cX10_cutUp 191 = .ok (.goto 33, 3) := by decide +kernel
theorem dX10_cutUp_194 : decode cX10_cutUp 194 = .ok (.iload_n 2, 1) := by decide +kernel
theorem dX10_cutUp_195 : decode cX10_cutUp 195 = .ok (.bipush 32, 2) := by decide +kernel
theorem dX10_cutUp_197 : decode cX10_cutUp 197 = .ok (.if_icmp .eq 27, 3) := by decide +kernel
theorem dX10_cutUp_200 : decode cX10_cutUp 200 = .ok (.iload_n 2, 1) := by decide +kernel
theorem dX10_cutUp_201 : decode cX10_cutUp 201 = .ok (.bipush 10, 2) := by decide +kernel
theorem dX10_cutUp_203 : decode cX10_cutUp 203 = .ok (.if_icmp .eq 21, 3) := by decide +kernel
theorem dX10_cutUp_206 : decode cX10_cutUp 206 = .ok (.aload_n 0, 1) := by decide +kernel
theorem dX10_cutUp_207 : decode cX10_cutUp 207 = .ok (.iload_n 2, 1) := by decide +kernel
theorem dX10_cutUp_208 : decode cX10_cutUp 208 = .ok (.invokestatic 193, 3) := by decide +kernel
theorem dX10_cutUp_211 : decode cX10_cutUp 211 = .ok (.ifCond .eq 7, 3) := by decide +kernel
theorem dX10_cutUp_214 : decode cX10_cutUp 214 = .ok (.iload_n 2, 1) := by decide +kernel
theorem dX10_cutUp_215 : decode cX10_cutUp 215 = .ok (.goto 4, 3) := by decide +kernel
theorem dX10_cutUp_218 : decode cX10_cutUp 218 = .ok (.iconst 3, 1) := by decide +kernel
theorem dX10_cutUp_219 : decode cX10_cutUp 219 = .ok (.iload_n 1, 1) := by decide +kernel
theorem dX10_cutUp_220 : decode cX10_cutUp 220 = .ok (.lconst 0, 1) := by decide +kernel
theorem dX10_cutUp_221 : decode cX10_cutUp 221 = .ok (.invokevirtual 182, 3) := by decide +kernel
theorem dX10_cutUp_224 : decode cX10_cutUp 224 = .ok (.iload_n 3, 1) := by decide +kernel
theorem dX10_cutUp_225 : decode cX10_cutUp 225 = .ok (.istore_n 1, 1) := by decide +kernel
theorem dX10_cutUp_226 : decode cX10_cutUp 226 = .ok (.goto (-219), 3) := by decide +kernel
theorem dX10_cutUp_229 : decode cX10_cutUp 229 = .ok (.aload_n 0, 1) := by decide +kernel
theorem dX10_cutUp_230 : decode cX10_cutUp 230 = .ok (.iconst 0, 1) := by decide +kernel
theorem dX10_cutUp_231 : decode cX10_cutUp 231 = .ok (.aload_n 0, 1) := by decide +kernel
theorem dX10_cutUp_232 : decode cX10_cutUp 232 = .ok (.getfield 153, 3) := by decide +kernel
theorem dX10_cutUp_235 : decode cX10_cutUp 235 = .ok (.lconst 0, 1) := by decide +kernel
theorem dX10_cutUp_236 : decode cX10_cutUp 236 = .ok (.invokevirtual 182, 3) := by decide +kernel
theorem dX10_cutUp_239 : decode cX10_cutUp 239 = .ok (.return_, 1) := by decide +kernel
theorem dX10_must_0 : decode cX10_must 0 = .ok (.iload_n 1, 1) := by decide +kernel
theorem dX10_must_1 : decode cX10_must 1 = .ok (.ifCond .ne 25, 3) := by decide +kernel
theorem dX10_must_4 : decode cX10_must 4 = .ok (.aload_n 0, 1) := by decide +kernel
theorem dX10_must_5 : decode cX10_must 5 = .ok (.getfield 196, 3) := by decide +kernel
theorem dX10_must_8 : decode cX10_must 8 = .ok (.bipush (-9), 2) := by decide +kernel
theorem dX10_must_10 : decode cX10_must 10 = .ok (.if_icmp .ne 16, 3) := by decide +kernel
theorem dX10_must_13 : decode cX10_must 13 = .ok (.aload_n 0, 1) := by decide +kernel
theorem dX10_must_14 : decode cX10_must 14 = .ok (.aload_n 0, 1) := by decide +kernel
theorem dX10_must_15 : decode cX10_must 15 = .ok (.getfield 17, 3) := by decide +kernel
theorem dX10_must_18 : decode cX10_must 18 = .ok (.aload_n 0, 1) := by decide +kernel
theorem dX10_must_19 : decode cX10_must 19 = .ok (.getfield 199, 3) := by decide +kernel
theorem dX10_must_22 : decode cX10_must 22 = .ok (.iaload, 1) := by decide +kernel
theorem dX10_must_23 : decode cX10_must 23 = .ok (.putfield 196, 3) := by decide +kernel
theorem dX10_must_26 : decode cX10_must 26 = .ok (.aload_n 0, 1) := by decide +kernel
theorem dX10_must_27 : decode cX10_must 27 = .ok (.getfield 196, 3) := by decide +kernel
theorem dX10_must_30 : decode cX10_must 30 = .ok (.bipush (-9), 2) := by decide +kernel
theorem dX10_must_32 : decode cX10_must 32 = .ok (.if_icmp .ne 7, 3) := by decide +kernel
theorem dX10_must_35 : decode cX10_must 35 = .ok (.iconst 1, 1) := by decide +kernel
theorem dX10_must_36 : decode cX10_must 36 = .ok (.goto 4, 3) := by decide +kernel
theorem dX10_must_39 : decode cX10_must 39 = .ok (.iconst 0, 1) := by decide +kernel
theorem dX10_must_40 : decode cX10_must 40 = .ok (.ireturn, 1) := by decide +kernel
theorem dX10_take_0 : decode cX10_take 0 = .ok (.aload_n 0, 1) := by decide +kernel
theorem dX10_take_1 : decode cX10_take 1 = .ok (.aload_n 0, 1) := by decide +kernel
theorem dX10_take_2 : decode cX10_take 2 = .ok (.getfield 13, 3) := by decide +kernel
theorem dX10_take_5 : decode cX10_take 5 = .ok (.aload_n 0, 1) := by decide +kernel
theorem dX10_take_6 : decode cX10_take 6 = .ok (.getfield 199, 3) := by decide +kernel
theorem dX10_take_9 : decode cX10_take 9 = .ok (.iaload, 1) := by decide +kernel
theorem dX10_take_10 : decode cX10_take 10 = .ok (.iload_n 1, 1) := by decide +kernel
theorem dX10_take_11 : decode cX10_take 11 = .ok (.if_icmp .ne 7, 3) := by decide +kernel
theorem dX10_take_14 : decode cX10_take 14 = .ok (.iconst 1, 1) := by decide +kernel
theorem dX10_take_15 : decode cX10_take 15 = .ok (.goto 4, 3) := by decide +kernel
theorem dX10_take_18 : decode cX10_take 18 = .ok (.iconst 0, 1) := by decide +kernel
theorem dX10_take_19 : decode cX10_take 19 = .ok (.invokevirtual 202, 3) := by decide +kernel
theorem dX10_take_22 : decode cX10_take 22 = .ok (.ifCond .eq 13, 3) := by decide +kernel
theorem dX10_take_25 : decode cX10_take 25 = .ok (.aload_n 0, 1) := by decide +kernel
theorem dX10_take_26 : decode cX10_take 26 = .ok (.dup, 1) := by decide +kernel
theorem dX10_take_27 : decode cX10_take 27 = .ok (.getfield 199, 3) := by decide +kernel
theorem dX10_take_30 : decode cX10_take 30 = .ok (.iconst 1, 1) := by decide +kernel
theorem dX10_take_31 : decode cX10_take 31 = .ok (.iadd, 1) := by decide +kernel
theorem dX10_take_32 : decode cX10_take 32 = .ok (.putfield 199, 3) := by decide +kernel
theorem dX10_take_35 : decode cX10_take 35 = .ok (.aload_n 0, 1) := by decide +kernel
theorem dX10_take_36 : decode cX10_take 36 = .ok (.getfield 196, 3) := by decide +kernel
theorem dX10_take_39 : decode cX10_take 39 = .ok (.bipush (-9), 2) := by decide +kernel
theorem dX10_take_41 : decode cX10_take 41 = .ok (.if_icmp .ne 7, 3) := by decide +kernel
theorem dX10_take_44 : decode cX10_take 44 = .ok (.iconst 1, 1) := by decide +kernel
theorem dX10_take_45 : decode cX10_take 45 = .ok (.goto 4, 3) := by decide +kernel
theorem dX10_take_48 : decode cX10_take 48 = .ok (.iconst 0, 1) := by decide +kernel
theorem dX10_take_49 : decode cX10_take 49 = .ok (.ireturn, 1) := by decide +kernel
theorem dX10_emit_0 : decode cX10_emit 0 = .ok (.aload_n 0, 1) := by decide +kernel
theorem dX10_emit_1 : decode cX10_emit 1 = .ok (.getfield 46, 3) := by decide +kernel
theorem dX10_emit_4 : decode cX10_emit 4 = .ok (.aload_n 0, 1) := by decide +kernel
theorem dX10_emit_5 : decode cX10_emit 5 = .ok (.getfield 206, 3) := by decide +kernel
theorem dX10_emit_8 : decode cX10_emit 8 = .ok (.iload_n 1, 1) := by decide +kernel
theorem dX10_emit_9 : decode cX10_emit 9 = .ok (.iastore, 1) := by decide +kernel
theorem dX10_emit_10 : decode cX10_emit 10 = .ok (.aload_n 0, 1) := by decide +kernel
theorem dX10_emit_11 : decode cX10_emit 11 = .ok (.getfield 49, 3) := by decide +kernel
theorem dX10_emit_14 : decode cX10_emit 14 = .ok (.aload_n 0, 1) := by decide +kernel
theorem dX10_emit_15 : decode cX10_emit 15 = .ok (.getfield 206, 3) := by decide +kernel
theorem dX10_emit_18 : decode cX10_emit 18 = .ok (.lload_n 2, 1) := by decide +kernel
theorem dX10_emit_19 : decode cX10_emit 19 = .ok (.lastore, 1) := by decide +kernel
theorem dX10_emit_20 : decode cX10_emit 20 = .ok (.aload_n 0, 1) := by decide +kernel
theorem dX10_emit_21 : decode cX10_emit 21 = .ok (.dup, 1) := by decide +kernel
theorem dX10_emit_22 : decode cX10_emit 22 = .ok (.getfield 206, 3) := by decide +kernel
theorem dX10_emit_25 : decode cX10_emit 25 = .ok (.iconst 1, 1) := by decide +kernel
theorem dX10_emit_26 : decode cX10_emit 26 = .ok (.iadd, 1) := by decide +kernel
theorem dX10_emit_27 : decode cX10_emit 27 = .ok (.putfield 206, 3) := by decide +kernel
theorem dX10_emit_30 : decode cX10_emit 30 = .ok (.return_, 1) := by decide +kernel
theorem dX10_use_0 : decode cX10_use 0 = .ok (.aload_n 0, 1) := by decide +kernel
theorem dX10_use_1 : decode cX10_use 1 = .ok (.aload_n 0, 1) := by decide +kernel
theorem dX10_use_2 : decode cX10_use 2 = .ok (.getfield 13, 3) := by decide +kernel
theorem dX10_use_5 : decode cX10_use 5 = .ok (.aload_n 0, 1) := by decide +kernel
theorem dX10_use_6 : decode cX10_use 6 = .ok (.getfield 199, 3) := by decide +kernel
theorem dX10_use_9 : decode cX10_use 9 = .ok (.iaload, 1) := by decide +kernel
theorem dX10_use_10 : decode cX10_use 10 = .ok (.iconst 2, 1) := by decide +kernel
theorem dX10_use_11 : decode cX10_use 11 = .ok (.if_icmp .ne 7, 3) := by decide +kernel
theorem dX10_use_14 : decode cX10_use 14 = .ok (.iconst 1, 1) := by decide +kernel
theorem dX10_use_15 : decode cX10_use 15 = .ok (.goto 4, 3) := by decide +kernel
theorem dX10_use_18 : decode cX10_use 18 = .ok (.iconst 0, 1) := by decide +kernel
theorem dX10_use_19 : decode cX10_use 19 = .ok (.invokevirtual 202, 3) := by decide +kernel
theorem dX10_use_22 : decode cX10_use 22 = .ok (.ifCond .eq 59, 3) := by decide +kernel
theorem dX10_use_25 : decode cX10_use 25 = .ok (.aload_n 0, 1) := by decide +kernel
theorem dX10_use_26 : decode cX10_use 26 = .ok (.getfield 58, 3) := by decide +kernel
theorem dX10_use_29 : decode cX10_use 29 = .ok (.aload_n 0, 1) := by decide +kernel
theorem dX10_use_30 : decode cX10_use 30 = .ok (.getfield 209, 3) := by decide +kernel
theorem dX10_use_33 : decode cX10_use 33 = .ok (.aload_n 0, 1) := by decide +kernel
theorem dX10_use_34 : decode cX10_use 34 = .ok (.getfield 199, 3) := by decide +kernel
theorem dX10_use_37 : decode cX10_use 37 = .ok (.iastore, 1) := by decide +kernel
theorem dX10_use_38 : decode cX10_use 38 = .ok (.aload_n 0, 1) := by decide +kernel
theorem dX10_use_39 : decode cX10_use 39 = .ok (.getfield 61, 3) := by decide +kernel
theorem dX10_use_42 : decode cX10_use 42 = .ok (.aload_n 0, 1) := by decide +kernel
theorem dX10_use_43 : decode cX10_use 43 = .ok (.getfield 209, 3) := by decide +kernel
theorem dX10_use_46 : decode cX10_use 46 = .ok (.aload_n 0, 1) := by decide +kernel
theorem dX10_use_47 : decode cX10_use 47 = .ok (.getfield 212, 3) := by decide +kernel
theorem dX10_use_50 : decode cX10_use 50 = .ok (.iastore, 1) := by decide +kernel
theorem dX10_use_51 : decode cX10_use 51 = .ok (.aload_n 0, 1) := by decide +kernel
theorem dX10_use_52 : decode cX10_use 52 = .ok (.getfield 64, 3) := by decide +kernel
theorem dX10_use_55 : decode cX10_use 55 = .ok (.aload_n 0, 1) := by decide +kernel
theorem dX10_use_56 : decode cX10_use 56 = .ok (.getfield 209, 3) := by decide +kernel
theorem dX10_use_59 : decode cX10_use 59 = .ok (.iload_n 1, 1) := by decide +kernel
theorem dX10_use_60 : decode cX10_use 60 = .ok (.bastore, 1) := by decide +kernel
theorem dX10_use_61 : decode cX10_use 61 = .ok (.aload_n 0, 1) := by decide +kernel
theorem dX10_use_62 : decode cX10_use 62 = .ok (.dup, 1) := by decide +kernel
theorem dX10_use_63 : decode cX10_use 63 = .ok (.getfield 209, 3) := by decide +kernel
theorem dX10_use_66 : decode cX10_use 66 = .ok (.iconst 1, 1) := by decide +kernel
theorem dX10_use_67 : decode cX10_use 67 = .ok (.iadd, 1) := by decide +kernel
theorem dX10_use_68 : decode cX10_use 68 = .ok (.putfield 209, 3) := by decide +kernel
theorem dX10_use_71 : decode cX10_use 71 = .ok (.aload_n 0, 1) := by decide +kernel
theorem dX10_use_72 : decode cX10_use 72 = .ok (.dup, 1) := by decide +kernel
theorem dX10_use_73 : decode cX10_use 73 = .ok (.getfield 199, 3) := by decide +kernel
theorem dX10_use_76 : decode cX10_use 76 = .ok (.iconst 1, 1) := by decide +kernel
theorem dX10_use_77 : decode cX10_use 77 = .ok (.iadd, 1) := by decide +kernel
theorem dX10_use_78 : decode cX10_use 78 = .ok (.putfield 199, 3) := by decide +kernel
theorem dX10_use_81 : decode cX10_use 81 = .ok (.return_, 1) := by decide +kernel
theorem dX10_readSize_0 : decode cX10_readSize 0 = .ok (.iconst 0, 1) := by decide +kernel
theorem dX10_readSize_1 : decode cX10_readSize 1 = .ok (.istore_n 1, 1) := by decide +kernel
theorem dX10_readSize_2 : decode cX10_readSize 2 = .ok (.iconst 1, 1) := by decide +kernel
theorem dX10_readSize_3 : decode cX10_readSize 3 = .ok (.istore_n 2, 1) := by decide +kernel
theorem dX10_readSize_4 : decode cX10_readSize 4 = .ok (.aload_n 0, 1) := by decide +kernel
theorem dX10_readSize_5 : decode cX10_readSize 5 = .ok (.getfield 43, 3) := by decide +kernel
theorem dX10_readSize_8 : decode cX10_readSize 8 = .ok (.aload_n 0, 1) := by decide +kernel
theorem dX10_readSize_9 : decode cX10_readSize 9 = .ok (.getfield 212, 3) := by decide +kernel
theorem dX10_readSize_12 : decode cX10_readSize 12 = .ok (.aload_n 0, 1) := by decide +kernel
theorem dX10_readSize_13 : decode cX10_readSize 13 = .ok (.getfield 215, 3) := by decide +kernel
theorem dX10_readSize_16 : decode cX10_readSize 16 = .ok (.iastore, 1) := by decide +kernel
theorem dX10_readSize_17 : decode cX10_readSize 17 = .ok (.bipush 43, 2) := by decide +kernel
theorem dX10_readSize_19 : decode cX10_readSize 19 = .ok (.istore_n 3, 1) := by decide +kernel
theorem dX10_readSize_20 : decode cX10_readSize 20 = .ok (.iload_n 2, 1) := by decide +kernel
theorem dX10_readSize_21 : decode cX10_readSize 21 = .ok (.ifCond .eq 263, 3) := by decide +kernel
theorem dX10_readSize_24 : decode cX10_readSize 24 = .ok (.aload_n 0, 1) := by decide +kernel
theorem dX10_readSize_25 : decode cX10_readSize 25 = .ok (.getfield 196, 3) := by decide +kernel
theorem dX10_readSize_28 : decode cX10_readSize 28 = .ok (.bipush (-9), 2) := by decide +kernel
theorem dX10_readSize_30 : decode cX10_readSize 30 = .ok (.if_icmp .ne 254, 3) := by decide +kernel
theorem dX10_readSize_33 : decode cX10_readSize 33 = .ok (.aload_n 0, 1) := by decide +kernel
theorem dX10_readSize_34 : decode cX10_readSize 34 = .ok (.iload_n 1, 1) := by decide +kernel
theorem dX10_readSize_35 : decode cX10_readSize 35 = .ok (.bipush 8, 2) := by decide +kernel
theorem dX10_readSize_37 : decode cX10_readSize 37 = .ok (.if_icmp .ge 34, 3) := by decide +kernel
theorem dX10_readSize_40 : decode cX10_readSize 40 = .ok (.aload_n 0, 1) := by decide +kernel
theorem dX10_readSize_41 : decode cX10_readSize 41 = .ok (.getfield 13, 3) := by decide +kernel
theorem dX10_readSize_44 : decode cX10_readSize 44 = .ok (.aload_n 0, 1) := by decide +kernel
theorem dX10_readSize_45 : decode cX10_readSize 45 = .ok (.getfield 199, 3) := by decide +kernel
theorem dX10_readSize_48 : decode cX10_readSize 48 = .ok (.iaload, 1) := by decide +kernel
theorem dX10_readSize_49 : decode cX10_readSize 49 = .ok (.iconst 1, 1) := by decide +kernel
theorem dX10_readSize_50 : decode cX10_readSize 50 = .ok (.if_icmp .eq 17, 3) := by decide +kernel
theorem dX10_readSize_53 : decode cX10_readSize 53 = .ok (.aload_n 0, 1) := by decide +kernel
theorem dX10_readSize_54 : decode cX10_readSize 54 = .ok (.getfield 13, 3) := by decide +kernel
theorem dX10_readSize_57 : decode cX10_readSize 57 = .ok (.aload_n 0, 1) := by decide +kernel
theorem dX10_readSize_58 : decode cX10_readSize 58 = .ok (.getfield 199, 3) := by decide +kernel
theorem dX10_readSize_61 : decode cX10_readSize 61 = .ok (.iaload, 1) := by decide +kernel
theorem dX10_readSize_62 : decode cX10_readSize 62 = .ok (.bipush 35, 2) := by decide +kernel
theorem dX10_readSize_64 : decode cX10_readSize 64 = .ok (.if_icmp .ne 7, 3) := by decide +kernel
theorem dX10_readSize_67 : decode cX10_readSize 67 = .ok (.iconst 1, 1) := by decide +kernel
theorem dX10_readSize_68 : decode cX10_readSize 68 = .ok (.goto 4, 3) := by decide +kernel
theorem dX10_readSize_71 : decode cX10_readSize 71 = .ok (.iconst 0, 1) := by decide +kernel
theorem dX10_readSize_72 : decode cX10_readSize 72 = .ok (.invokevirtual 202, 3) := by decide +kernel
theorem dX10_readSize_75 : decode cX10_readSize 75 = .ok (.pop, 1) := by decide +kernel
theorem dX10_readSize_76 : decode cX10_readSize 76 = .ok (.iinc 1 1, 3) := by decide +kernel
theorem dX10_readSize_79 : decode cX10_readSize 79 = .ok (.aload_n 0, 1) := by decide +kernel
theorem dX10_readSize_80 : decode cX10_readSize 80 = .ok (.getfield 52, 3) := by decide +kernel
theorem dX10_readSize_83 : decode cX10_readSize 83 = .ok (.aload_n 0, 1) := by decide +kernel
theorem dX10_readSize_84 : decode cX10_readSize 84 = .ok (.getfield 215, 3) := by decide +kernel
theorem dX10_readSize_87 : decode cX10_readSize 87 = .ok (.bipush 119, 2) := by decide +kernel
theorem dX10_readSize_89 : decode cX10_readSize 89 = .ok (.if_icmp .ge 10, 3) := by decide +kernel
theorem dX10_readSize_92 : decode cX10_readSize 92 = .ok (.aload_n 0, 1) := by decide +kernel
theorem dX10_readSize_93 : decode cX10_readSize 93 = .ok (.getfield 215, 3) := by decide +kernel
theorem dX10_readSize_96 : decode cX10_readSize 96 = .ok (.goto 5, 3) := by decide +kernel
theorem dX10_readSize_99 : decode cX10_readSize 99 = .ok (.bipush 119, 2) := by decide +kernel
theorem dX10_readSize_101 : decode cX10_readSize 101 = .ok (.iload_n 3, 1) := by decide +kernel
theorem dX10_readSize_102 : decode cX10_readSize 102 = .ok (.iastore, 1) := by decide +kernel
theorem dX10_readSize_103 : decode cX10_readSize 103 = .ok (.aload_n 0, 1) := by decide +kernel
theorem dX10_readSize_104 : decode cX10_readSize 104 = .ok (.getfield 196, 3) := by decide +kernel
theorem dX10_readSize_107 : decode cX10_readSize 107 = .ok (.bipush (-9), 2) := by decide +kernel
theorem dX10_readSize_109 : decode cX10_readSize 109 = .ok (.if_icmp .ne 57, 3) := by decide +kernel
theorem dX10_readSize_112 : decode cX10_readSize 112 = .ok (.aload_n 0, 1) := by decide +kernel
theorem dX10_readSize_113 : decode cX10_readSize 113 = .ok (.getfield 13, 3) := by decide +kernel
theorem dX10_readSize_116 : decode cX10_readSize 116 = .ok (.aload_n 0, 1) := by decide +kernel
theorem dX10_readSize_117 : decode cX10_readSize 117 = .ok (.getfield 199, 3) := by decide +kernel
theorem dX10_readSize_120 : decode cX10_readSize 120 = .ok (.iaload, 1) := by decide +kernel
theorem dX10_readSize_121 : decode cX10_readSize 121 = .ok (.iconst 1, 1) := by decide +kernel
theorem dX10_readSize_122 : decode cX10_readSize 122 = .ok (.if_icmp .ne 44, 3) := by decide +kernel
theorem dX10_readSize_125 : decode cX10_readSize 125 = .ok (.aload_n 0, 1) := by decide +kernel
theorem dX10_readSize_126 : decode cX10_readSize 126 = .ok (.getfield 55, 3) := by decide +kernel
theorem dX10_readSize_129 : decode cX10_readSize 129 = .ok (.aload_n 0, 1) := by decide +kernel
theorem dX10_readSize_130 : decode cX10_readSize 130 = .ok (.getfield 215, 3) := by decide +kernel
theorem dX10_readSize_133 : decode cX10_readSize 133 = .ok (.aload_n 0, 1) := by decide +kernel
theorem dX10_readSize_134 : decode cX10_readSize 134 = .ok (.getfield 20, 3) := by decide +kernel
theorem dX10_readSize_137 : decode cX10_readSize 137 = .ok (.aload_n 0, 1) := by decide +kernel
theorem dX10_readSize_138 : decode cX10_readSize 138 = .ok (.getfield 199, 3) := by decide +kernel
theorem dX10_readSize_141 : decode cX10_readSize 141 = .ok (.laload, 1) := by decide +kernel
theorem dX10_readSize_142 : decode cX10_readSize 142 = .ok (.lastore, 1) := by decide +kernel
theorem dX10_readSize_143 : decode cX10_readSize 143 = .ok (.aload_n 0, 1) := by decide +kernel
theorem dX10_readSize_144 : decode cX10_readSize 144 = .ok (.dup, 1) := by decide +kernel
theorem dX10_readSize_145 : decode cX10_readSize 145 = .ok (.getfield 215, 3) := by decide +kernel
theorem dX10_readSize_148 : decode cX10_readSize 148 = .ok (.iconst 1, 1) := by decide +kernel
theorem dX10_readSize_149 : decode cX10_readSize 149 = .ok (.iadd, 1) := by decide +kernel
theorem dX10_readSize_150 : decode cX10_readSize 150 = .ok (.putfield 215, 3) := by decide +kernel
theorem dX10_readSize_153 : decode cX10_readSize 153 = .ok (.aload_n 0, 1) := by decide +kernel
theorem dX10_readSize_154 : decode cX10_readSize 154 = .ok (.dup, 1) := by decide +kernel
theorem dX10_readSize_155 : decode cX10_readSize 155 = .ok (.getfield 199, 3) := by decide +kernel
theorem dX10_readSize_158 : decode cX10_readSize 158 = .ok (.iconst 1, 1) := by decide +kernel
theorem dX10_readSize_159 : decode cX10_readSize 159 = .ok (.iadd, 1) := by decide +kernel
theorem dX10_readSize_160 : decode cX10_readSize 160 = .ok (.putfield 199, 3) := by decide +kernel
theorem dX10_readSize_163 : decode cX10_readSize 163 = .ok (.goto 57, 3) := by decide +kernel
theorem dX10_readSize_166 : decode cX10_readSize 166 = .ok (.aload_n 0, 1) := by decide +kernel
theorem dX10_readSize_167 : decode cX10_readSize 167 = .ok (.getfield 196, 3) := by decide +kernel
theorem dX10_readSize_170 : decode cX10_readSize 170 = .ok (.bipush (-9), 2) := by decide +kernel
theorem dX10_readSize_172 : decode cX10_readSize 172 = .ok (.if_icmp .ne 48, 3) := by decide +kernel
theorem dX10_readSize_175 : decode cX10_readSize 175 = .ok (.aload_n 0, 1) := by decide +kernel
theorem dX10_readSize_176 : decode cX10_readSize 176 = .ok (.dup, 1) := by decide +kernel
theorem dX10_readSize_177 : decode cX10_readSize 177 = .ok (.getfield 199, 3) := by decide +kernel
theorem dX10_readSize_180 : decode cX10_readSize 180 = .ok (.iconst 1, 1) := by decide +kernel
theorem dX10_readSize_181 : decode cX10_readSize 181 = .ok (.iadd, 1) := by decide +kernel
theorem dX10_readSize_182 : decode cX10_readSize 182 = .ok (.putfield 199, 3) := by decide +kernel
theorem dX10_readSize_185 : decode cX10_readSize 185 = .ok (.aload_n 0, 1) := by decide +kernel
theorem dX10_readSize_186 : decode cX10_readSize 186 = .ok (.iconst 1, 1) := by decide +kernel
theorem dX10_readSize_187 : decode cX10_readSize 187 = .ok (.invokevirtual 218, 3) := by decide +kernel
theorem dX10_readSize_190 : decode cX10_readSize 190 = .ok (.aload_n 0, 1) := by decide +kernel
theorem dX10_readSize_191 : decode cX10_readSize 191 = .ok (.getfield 55, 3) := by decide +kernel
theorem dX10_readSize_194 : decode cX10_readSize 194 = .ok (.aload_n 0, 1) := by decide +kernel
theorem dX10_readSize_195 : decode cX10_readSize 195 = .ok (.getfield 215, 3) := by decide +kernel
theorem dX10_readSize_198 : decode cX10_readSize 198 = .ok (.ldc2_w 222, 3) := by decide +kernel
theorem dX10_readSize_201 : decode cX10_readSize 201 = .ok (.aload_n 0, 1) := by decide +kernel
theorem dX10_readSize_202 : decode cX10_readSize 202 = .ok (.getfield 199, 3) := by decide +kernel
theorem dX10_readSize_205 : decode cX10_readSize 205 = .ok (.iconst 1, 1) := by decide +kernel
theorem dX10_readSize_206 : decode cX10_readSize 206 = .ok (.isub, 1) := by decide +kernel
theorem dX10_readSize_207 : decode cX10_readSize 207 = .ok (.i2l, 1) := by decide +kernel
theorem dX10_readSize_208 : decode cX10_readSize 208 = .ok (.lsub, 1) := by decide +kernel
theorem dX10_readSize_209 : decode cX10_readSize 209 = .ok (.lastore, 1) := by decide +kernel
theorem dX10_readSize_210 : decode cX10_readSize 210 = .ok (.aload_n 0, 1) := by decide +kernel
theorem dX10_readSize_211 : decode cX10_readSize 211 = .ok (.dup, 1) := by decide +kernel
theorem dX10_readSize_212 : decode cX10_readSize 212 = .ok (.getfield 215, 3) := by decide +kernel
theorem dX10_readSize_215 : decode cX10_readSize 215 = .ok (.iconst 1, 1) := by decide +kernel
theorem dX10_readSize_216 : decode cX10_readSize 216 = .ok (.iadd, 1) := by decide +kernel
theorem dX10_readSize_217 : decode cX10_readSize 217 = .ok (.putfield 215, 3) := by decide +kernel
theorem dX10_readSize_220 : decode cX10_readSize 220 = .ok (.aload_n 0, 1) := by decide +kernel
theorem dX10_readSize_221 : decode cX10_readSize 221 = .ok (.getfield 13, 3) := by decide +kernel
theorem dX10_readSize_224 : decode cX10_readSize 224 = .ok (.aload_n 0, 1) := by decide +kernel
theorem dX10_readSize_225 : decode cX10_readSize 225 = .ok (.getfield 199, 3) := by decide +kernel
theorem dX10_readSize_228 : decode cX10_readSize 228 = .ok (.iaload, 1) := by decide +kernel
theorem dX10_readSize_229 : decode cX10_readSize 229 = .ok (.istore_n 3, 1) := by decide +kernel
theorem dX10_readSize_230 : decode cX10_readSize 230 = .ok (.aload_n 0, 1) := by decide +kernel
theorem dX10_readSize_231 : decode cX10_readSize 231 = .ok (.getfield 196, 3) := by decide +kernel
theorem dX10_readSize_234 : decode cX10_readSize 234 = .ok (.bipush (-9), 2) := by decide +kernel
theorem dX10_readSize_236 : decode cX10_readSize 236 = .ok (.if_icmp .ne 25, 3) := by decide +kernel
theorem dX10_readSize_239 : decode cX10_readSize 239 = .ok (.iload_n 3, 1) := by decide +kernel
theorem dX10_readSize_240 : decode cX10_readSize 240 = .ok (.bipush 43, 2) := by decide +kernel
theorem dX10_readSize_242 : decode cX10_readSize 242 = .ok (.if_icmp .eq 15, 3) := by decide +kernel
theorem dX10_readSize_245 : decode cX10_readSize 245 = .ok (.iload_n 3, 1) := by decide +kernel
theorem dX10_readSize_246 : decode cX10_readSize 246 = .ok (.bipush 45, 2) := by decide +kernel
theorem dX10_readSize_248 : decode cX10_readSize 248 = .ok (.if_icmp .eq 9, 3) := by decide +kernel
theorem dX10_readSize_251 : decode cX10_readSize 251 = .ok (.iload_n 3, 1) := by decide +kernel
theorem dX10_readSize_252 : decode cX10_readSize 252 = .ok (.bipush 42, 2) := by decide +kernel
theorem dX10_readSize_254 : decode cX10_readSize 254 = .ok (.if_icmp .ne 7, 3) := by decide +kernel
theorem dX10_readSize_257 : decode cX10_readSize 257 = .ok (.iconst 1, 1) := by decide +kernel
theorem dX10_readSize_258 : decode cX10_readSize 258 = .ok (.goto 4, 3) := by decide +kernel
theorem dX10_readSize_261 : decode cX10_readSize 261 = .ok (.iconst 0, 1) := by decide +kernel
theorem dX10_readSize_262 : decode cX10_readSize 262 = .ok (.istore_n 2, 1) := by decide +kernel
theorem dX10_readSize_263 : decode cX10_readSize 263 = .ok (.aload_n 0, 1) := by decide +kernel
theorem dX10_readSize_264 : decode cX10_readSize 264 = .ok (.dup, 1) := by decide +kernel
theorem dX10_readSize_265 : decode cX10_readSize 265 = .ok (.getfield 199, 3) := by decide +kernel
theorem dX10_readSize_268 : decode cX10_readSize 268 = .ok (.iload_n 2, 1) := by decide +kernel
theorem dX10_readSize_269 : decode cX10_readSize 269 = .ok (.ifCond .eq 7, 3) := by decide +kernel
theorem dX10_readSize_272 : decode cX10_readSize 272 = .ok (.iconst 1, 1) := by decide +kernel
theorem dX10_readSize_273 : decode cX10_readSize 273 = .ok (.goto 4, 3) := by decide +kernel
theorem dX10_readSize_276 : decode cX10_readSize 276 = .ok (.iconst 0, 1) := by decide +kernel
theorem dX10_readSize_277 : decode cX10_readSize 277 = .ok (.iadd, 1) := by decide +kernel
theorem dX10_readSize_278 : decode cX10_readSize 278 = .ok (.putfield 199, 3) := by decide +kernel
theorem dX10_readSize_281 : decode cX10_readSize 281 = .ok (.goto (-261), 3) := by decide +kernel
theorem dX10_readSize_284 : decode cX10_readSize 284 = .ok (.aload_n 0, 1) := by decide +kernel
theorem dX10_readSize_285 : decode cX10_readSize 285 = .ok (.getfield 43, 3) := by decide +kernel
theorem dX10_readSize_288 : decode cX10_readSize 288 = .ok (.aload_n 0, 1) := by decide +kernel
theorem dX10_readSize_289 : decode cX10_readSize 289 = .ok (.getfield 212, 3) := by decide +kernel
theorem dX10_readSize_292 : decode cX10_readSize 292 = .ok (.iconst 1, 1) := by decide +kernel
theorem dX10_readSize_293 : decode cX10_readSize 293 = .ok (.iadd, 1) := by decide +kernel
theorem dX10_readSize_294 : decode cX10_readSize 294 = .ok (.aload_n 0, 1) := by decide +kernel
theorem dX10_readSize_295 : decode cX10_readSize 295 = .ok (.getfield 215, 3) := by decide +kernel
theorem dX10_readSize_298 : decode cX10_readSize 298 = .ok (.iastore, 1) := by decide +kernel
theorem dX10_readSize_299 : decode cX10_readSize 299 = .ok (.return_, 1) := by decide +kernel
theorem dX10_push_0 : decode cX10_push 0 = .ok (.aload_n 0, 1) := by decide +kernel
theorem dX10_push_1 : decode cX10_push 1 = .ok (.getfield 67, 3) := by decide +kernel
theorem dX10_push_4 : decode cX10_push 4 = .ok (.aload_n 0, 1) := by decide +kernel
theorem dX10_push_5 : decode cX10_push 5 = .ok (.getfield 224, 3) := by decide +kernel
theorem dX10_push_8 : decode cX10_push 8 = .ok (.iload_n 1, 1) := by decide +kernel
theorem dX10_push_9 : decode cX10_push 9 = .ok (.iastore, 1) := by decide +kernel
theorem dX10_push_10 : decode cX10_push 10 = .ok (.aload_n 0, 1) := by decide +kernel
theorem dX10_push_11 : decode cX10_push 11 = .ok (.getfield 70, 3) := by decide +kernel
theorem dX10_push_14 : decode cX10_push 14 = .ok (.aload_n 0, 1) := by decide +kernel
theorem dX10_push_15 : decode cX10_push 15 = .ok (.getfield 224, 3) := by decide +kernel
theorem dX10_push_18 : decode cX10_push 18 = .ok (.iconst 0, 1) := by decide +kernel
theorem dX10_push_19 : decode cX10_push 19 = .ok (.iastore, 1) := by decide +kernel
theorem dX10_push_20 : decode cX10_push 20 = .ok (.aload_n 0, 1) := by decide +kernel
theorem dX10_push_21 : decode cX10_push 21 = .ok (.getfield 73, 3) := by decide +kernel
theorem dX10_push_24 : decode cX10_push 24 = .ok (.aload_n 0, 1) := by decide +kernel
theorem dX10_push_25 : decode cX10_push 25 = .ok (.getfield 224, 3) := by decide +kernel
theorem dX10_push_28 : decode cX10_push 28 = .ok (.iload_n 2, 1) := by decide +kernel
theorem dX10_push_29 : decode cX10_push 29 = .ok (.iastore, 1) := by decide +kernel
theorem dX10_push_30 : decode cX10_push 30 = .ok (.aload_n 0, 1) := by decide +kernel
theorem dX10_push_31 : decode cX10_push 31 = .ok (.dup, 1) := by decide +kernel
theorem dX10_push_32 : decode cX10_push 32 = .ok (.getfield 224, 3) := by decide +kernel
theorem dX10_push_35 : decode cX10_push 35 = .ok (.iconst 1, 1) := by decide +kernel
theorem dX10_push_36 : decode cX10_push 36 = .ok (.iadd, 1) := by decide +kernel
theorem dX10_push_37 : decode cX10_push 37 = .ok (.putfield 224, 3) := by decide +kernel
theorem dX10_push_40 : decode cX10_push 40 = .ok (.return_, 1) := by decide +kernel
theorem dX10_top_0 : decode cX10_top 0 = .ok (.aload_n 0, 1) := by decide +kernel
theorem dX10_top_1 : decode cX10_top 1 = .ok (.getfield 224, 3) := by decide +kernel
theorem dX10_top_4 : decode cX10_top 4 = .ok (.ifCond .ne 7, 3) := by decide +kernel
theorem dX10_top_7 : decode cX10_top 7 = .ok (.iconst 0, 1) := by decide +kernel
theorem dX10_top_8 : decode cX10_top 8 = .ok (.goto 14, 3) := by decide +kernel
theorem dX10_top_11 : decode cX10_top 11 = .ok (.aload_n 0, 1) := by decide +kernel
theorem dX10_top_12 : decode cX10_top 12 = .ok (.getfield 67, 3) := by decide +kernel
theorem dX10_top_15 : decode cX10_top 15 = .ok (.aload_n 0, 1) := by decide +kernel
theorem dX10_top_16 : decode cX10_top 16 = .ok (.getfield 224, 3) := by decide +kernel
theorem dX10_top_19 : decode cX10_top 19 = .ok (.iconst 1, 1) := by decide +kernel
theorem dX10_top_20 : decode cX10_top 20 = .ok (.isub, 1) := by decide +kernel
theorem dX10_top_21 : decode cX10_top 21 = .ok (.iaload, 1) := by decide +kernel
theorem dX10_top_22 : decode cX10_top 22 = .ok (.ireturn, 1) := by decide +kernel
theorem dX10_readUnit_0 : decode cX10_readUnit 0 = .ok (.iconst 0, 1) := by decide +kernel
theorem dX10_readUnit_1 : decode cX10_readUnit 1 = .ok (.istore_n 1, 1) := by decide +kernel
theorem dX10_readUnit_2 : decode cX10_readUnit 2 = .ok (.iload_n 1, 1) := by decide +kernel
theorem dX10_readUnit_3 : decode cX10_readUnit 3 = .ok (.ifCond .ne 294, 3) := by decide +kernel
theorem dX10_readUnit_6 : decode cX10_readUnit 6 = .ok (.aload_n 0, 1) := by decide +kernel
theorem dX10_readUnit_7 : decode cX10_readUnit 7 = .ok (.getfield 196, 3) := by decide +kernel
theorem dX10_readUnit_10 : decode cX10_readUnit 10 = .ok (.bipush (-9), 2) := by decide +kernel
theorem dX10_readUnit_12 : decode cX10_readUnit 12 = .ok (.if_icmp .ne 285, 3) := by decide +kernel
theorem dX10_readUnit_15 : decode cX10_readUnit 15 = .ok (.aload_n 0, 1) := by decide +kernel
theorem dX10_readUnit_16 : decode cX10_readUnit 16 = .ok (.getfield 13, 3) := by decide +kernel
theorem dX10_readUnit_19 : decode cX10_readUnit 19 = .ok (.aload_n 0, 1) := by decide +kernel
theorem dX10_readUnit_20 : decode cX10_readUnit 20 = .ok (.getfield 199, 3) := by decide +kernel
theorem dX10_readUnit_23 : decode cX10_readUnit 23 = .ok (.iaload, 1) := by decide +kernel
theorem dX10_readUnit_24 : decode cX10_readUnit 24 = .ok (.istore_n 2, 1) := by decide +kernel
theorem dX10_readUnit_25 : decode cX10_readUnit 25 = .ok (.aload_n 0, 1) := by decide +kernel
theorem dX10_readUnit_26 : decode cX10_readUnit 26 = .ok (.iload_n 2, 1) := by decide +kernel
theorem dX10_readUnit_27 : decode cX10_readUnit 27 = .ok (.iconst 1, 1) := by decide +kernel
theorem dX10_readUnit_28 : decode cX10_readUnit 28 = .ok (.if_icmp .eq 32, 3) := by decide +kernel
theorem dX10_readUnit_31 : decode cX10_readUnit 31 = .ok (.iload_n 2, 1) := by decide +kernel
theorem dX10_readUnit_32 : decode cX10_readUnit 32 = .ok (.bipush 8, 2) := by decide +kernel
theorem dX10_readUnit_34 : decode cX10_readUnit 34 = .ok (.if_icmp .eq 26, 3) := by decide +kernel
theorem dX10_readUnit_37 : decode cX10_readUnit 37 = .ok (.iload_n 2, 1) := by decide +kernel
theorem dX10_readUnit_38 : decode cX10_readUnit 38 = .ok (.bipush 35, 2) := by decide +kernel
theorem dX10_readUnit_40 : decode cX10_readUnit 40 = .ok (.if_icmp .eq 20, 3) := by decide +kernel
theorem dX10_readUnit_43 : decode cX10_readUnit 43 = .ok (.iload_n 2, 1) := by decide +kernel
theorem dX10_readUnit_44 : decode cX10_readUnit 44 = .ok (.iconst 2, 1) := by decide +kernel
theorem dX10_readUnit_45 : decode cX10_readUnit 45 = .ok (.if_icmp .eq 15, 3) := by decide +kernel
theorem dX10_readUnit_48 : decode cX10_readUnit 48 = .ok (.iload_n 2, 1) := by decide +kernel
theorem dX10_readUnit_49 : decode cX10_readUnit 49 = .ok (.bipush 45, 2) := by decide +kernel
theorem dX10_readUnit_51 : decode cX10_readUnit 51 = .ok (.if_icmp .eq 9, 3) := by decide +kernel
theorem dX10_readUnit_54 : decode cX10_readUnit 54 = .ok (.iload_n 2, 1) := by decide +kernel
theorem dX10_readUnit_55 : decode cX10_readUnit 55 = .ok (.bipush 40, 2) := by decide +kernel
theorem dX10_readUnit_57 : decode cX10_readUnit 57 = .ok (.if_icmp .ne 7, 3) := by decide +kernel
theorem dX10_readUnit_60 : decode cX10_readUnit 60 = .ok (.iconst 1, 1) := by decide +kernel
theorem dX10_readUnit_61 : decode cX10_readUnit 61 = .ok (.goto 4, 3) := by decide +kernel
theorem dX10_readUnit_64 : decode cX10_readUnit 64 = .ok (.iconst 0, 1) := by decide +kernel
theorem dX10_readUnit_65 : decode cX10_readUnit 65 = .ok (.invokevirtual 202, 3) := by decide +kernel
theorem dX10_readUnit_68 : decode cX10_readUnit 68 = .ok (.pop, 1) := by decide +kernel
theorem dX10_readUnit_69 : decode cX10_readUnit 69 = .ok (.aload_n 0, 1) := by decide +kernel
theorem dX10_readUnit_70 : decode cX10_readUnit 70 = .ok (.aload_n 0, 1) := by decide +kernel
theorem dX10_readUnit_71 : decode cX10_readUnit 71 = .ok (.getfield 227, 3) := by decide +kernel
theorem dX10_readUnit_74 : decode cX10_readUnit 74 = .ok (.bipush 24, 2) := by decide +kernel
theorem dX10_readUnit_76 : decode cX10_readUnit 76 = .ok (.if_icmp .ge 16, 3) := by decide +kernel
theorem dX10_readUnit_79 : decode cX10_readUnit 79 = .ok (.aload_n 0, 1) := by decide +kernel
theorem dX10_readUnit_80 : decode cX10_readUnit 80 = .ok (.getfield 230, 3) := by decide +kernel
theorem dX10_readUnit_83 : decode cX10_readUnit 83 = .ok (.bipush 10, 2) := by decide +kernel
theorem dX10_readUnit_85 : decode cX10_readUnit 85 = .ok (.if_icmp .gt 7, 3) := by decide +kernel
theorem dX10_readUnit_88 : decode cX10_readUnit 88 = .ok (.iconst 1, 1) := by decide +kernel
theorem dX10_readUnit_89 : decode cX10_readUnit 89 = .ok (.goto 4, 3) := by decide +kernel
theorem dX10_readUnit_92 : decode cX10_readUnit 92 = .ok (.iconst 0, 1) := by decide +kernel
theorem dX10_readUnit_93 : decode cX10_readUnit 93 = .ok (.invokevirtual 202, 3) := by decide +kernel
theorem dX10_readUnit_96 : decode cX10_readUnit 96 = .ok (.pop, 1) := by decide +kernel
theorem dX10_readUnit_97 : decode cX10_readUnit 97 = .ok (.aload_n 0, 1) := by decide +kernel
theorem dX10_readUnit_98 : decode cX10_readUnit 98 = .ok (.getfield 196, 3) := by decide +kernel
theorem dX10_readUnit_101 : decode cX10_readUnit 101 = .ok (.bipush (-9), 2) := by decide +kernel
theorem dX10_readUnit_103 : decode cX10_readUnit 103 = .ok (.if_icmp .eq 4, 3) := by decide +kernel
theorem dX10_readUnit_106 : decode cX10_readUnit 106 = .ok (.return_, 1) := by decide +kernel
theorem dX10_readUnit_107 : decode cX10_readUnit 107 = .ok (.aload_n 0, 1) := by decide +kernel
theorem dX10_readUnit_108 : decode cX10_readUnit 108 = .ok (.dup, 1) := by decide +kernel
theorem dX10_readUnit_109 : decode cX10_readUnit 109 = .ok (.getfield 227, 3) := by decide +kernel
theorem dX10_readUnit_112 : decode cX10_readUnit 112 = .ok (.iconst 1, 1) := by decide +kernel
theorem dX10_readUnit_113 : decode cX10_readUnit 113 = .ok (.iadd, 1) := by decide +kernel
theorem dX10_readUnit_114 : decode cX10_readUnit 114 = .ok (.putfield 227, 3) := by decide +kernel
theorem dX10_readUnit_117 : decode cX10_readUnit 117 = .ok (.iload_n 2, 1) := by decide +kernel
theorem dX10_readUnit_118 : decode cX10_readUnit 118 = .ok (.iconst 1, 1) := by decide +kernel
theorem dX10_readUnit_119 : decode cX10_readUnit 119 = .ok (.if_icmp .eq 15, 3) := by decide +kernel
theorem dX10_readUnit_122 : decode cX10_readUnit 122 = .ok (.iload_n 2, 1) := by decide +kernel
theorem dX10_readUnit_123 : decode cX10_readUnit 123 = .ok (.bipush 8, 2) := by decide +kernel
theorem dX10_readUnit_125 : decode cX10_readUnit 125 = .ok (.if_icmp .eq 9, 3) := by decide +kernel
theorem dX10_readUnit_128 : decode cX10_readUnit 128 = .ok (.iload_n 2, 1) := by decide +kernel
theorem dX10_readUnit_129 : decode cX10_readUnit 129 = .ok (.bipush 35, 2) := by decide +kernel
theorem dX10_readUnit_131 : decode cX10_readUnit 131 = .ok (.if_icmp .ne 7, 3) := by decide +kernel
theorem dX10_readUnit_134 : decode cX10_readUnit 134 = .ok (.iconst 1, 1) := by decide +kernel
theorem dX10_readUnit_135 : decode cX10_readUnit 135 = .ok (.goto 4, 3) := by decide +kernel
theorem dX10_readUnit_138 : decode cX10_readUnit 138 = .ok (.iconst 0, 1) := by decide +kernel
theorem dX10_readUnit_139 : decode cX10_readUnit 139 = .ok (.istore_n 1, 1) := by decide +kernel
theorem dX10_readUnit_140 : decode cX10_readUnit 140 = .ok (.aload_n 0, 1) := by decide +kernel
theorem dX10_readUnit_141 : decode cX10_readUnit 141 = .ok (.dup, 1) := by decide +kernel
theorem dX10_readUnit_142 : decode cX10_readUnit 142 = .ok (.getfield 199, 3) := by decide +kernel
theorem dX10_readUnit_145 : decode cX10_readUnit 145 = .ok (.iconst 1, 1) := by decide +kernel
theorem dX10_readUnit_146 : decode cX10_readUnit 146 = .ok (.iadd, 1) := by decide +kernel
theorem dX10_readUnit_147 : decode cX10_readUnit 147 = .ok (.putfield 199, 3) := by decide +kernel
theorem dX10_readUnit_150 : decode cX10_readUnit 150 = .ok (.iload_n 2, 1) := by decide +kernel
theorem dX10_readUnit_151 : decode cX10_readUnit 151 = .ok (.iconst 1, 1) := by decide +kernel
theorem dX10_readUnit_152 : decode cX10_readUnit 152 = .ok (.if_icmp .ne 22, 3) := by decide +kernel
theorem dX10_readUnit_155 : decode cX10_readUnit 155 = .ok (.aload_n 0, 1) := by decide +kernel
theorem dX10_readUnit_156 : decode cX10_readUnit 156 = .ok (.iconst 1, 1) := by decide +kernel
theorem dX10_readUnit_157 : decode cX10_readUnit 157 = .ok (.aload_n 0, 1) := by decide +kernel
theorem dX10_readUnit_158 : decode cX10_readUnit 158 = .ok (.getfield 20, 3) := by decide +kernel
theorem dX10_readUnit_161 : decode cX10_readUnit 161 = .ok (.aload_n 0, 1) := by decide +kernel
theorem dX10_readUnit_162 : decode cX10_readUnit 162 = .ok (.getfield 199, 3) := by decide +kernel
theorem dX10_readUnit_165 : decode cX10_readUnit 165 = .ok (.iconst 1, 1) := by decide +kernel
theorem dX10_readUnit_166 : decode cX10_readUnit 166 = .ok (.isub, 1) := by decide +kernel
theorem dX10_readUnit_167 : decode cX10_readUnit 167 = .ok (.laload, 1) := by decide +kernel
theorem dX10_readUnit_168 : decode cX10_readUnit 168 = .ok (.invokevirtual 233, 3) := by decide +kernel
theorem dX10_readUnit_171 : decode cX10_readUnit 171 = .ok (.goto 123, 3) := by decide +kernel
theorem dX10_readUnit_174 : decode cX10_readUnit 174 = .ok (.iload_n 2, 1) := by decide +kernel
theorem dX10_readUnit_175 : decode cX10_readUnit 175 = .ok (.bipush 8, 2) := by decide +kernel
theorem dX10_readUnit_177 : decode cX10_readUnit 177 = .ok (.if_icmp .ne 12, 3) := by decide +kernel
theorem dX10_readUnit_180 : decode cX10_readUnit 180 = .ok (.aload_n 0, 1) := by decide +kernel
theorem dX10_readUnit_181 : decode cX10_readUnit 181 = .ok (.iconst 2, 1) := by decide +kernel
theorem dX10_readUnit_182 : decode cX10_readUnit 182 = .ok (.lconst 0, 1) := by decide +kernel
theorem dX10_readUnit_183 : decode cX10_readUnit 183 = .ok (.invokevirtual 233, 3) := by decide +kernel
theorem dX10_readUnit_186 : decode cX10_readUnit 186 = .ok (.goto 108, 3) := by decide +kernel
theorem dX10_readUnit_189 : decode cX10_readUnit 189 = .ok (.iload_n 2, 1) := by decide +kernel
theorem dX10_readUnit_190 : decode cX10_readUnit 190 = .ok (.bipush 35, 2) := by decide +kernel
theorem dX10_readUnit_192 : decode cX10_readUnit 192 = .ok (.if_icmp .ne 23, 3) := by decide +kernel
theorem dX10_readUnit_195 : decode cX10_readUnit 195 = .ok (.aload_n 0, 1) := by decide +kernel
theorem dX10_readUnit_196 : decode cX10_readUnit 196 = .ok (.iconst 0, 1) := by decide +kernel
theorem dX10_readUnit_197 : decode cX10_readUnit 197 = .ok (.invokevirtual 218, 3) := by decide +kernel
theorem dX10_readUnit_200 : decode cX10_readUnit 200 = .ok (.aload_n 0, 1) := by decide +kernel
theorem dX10_readUnit_201 : decode cX10_readUnit 201 = .ok (.iconst 3, 1) := by decide +kernel
theorem dX10_readUnit_202 : decode cX10_readUnit 202 = .ok (.aload_n 0, 1) := by decide +kernel
theorem dX10_readUnit_203 : decode cX10_readUnit 203 = .ok (.getfield 199, 3) := by decide +kernel
theorem dX10_readUnit_206 : decode cX10_readUnit 206 = .ok (.i2l, 1) := by decide +kernel
theorem dX10_readUnit_207 : decode cX10_readUnit 207 = .ok (.lconst 1, 1) := by decide +kernel
theorem dX10_readUnit_208 : decode cX10_readUnit 208 = .ok (.lsub, 1) := by decide +kernel
theorem dX10_readUnit_209 : decode cX10_readUnit 209 = .ok (.invokevirtual 233, 3) := by decide +kernel
theorem dX10_readUnit_212 : decode cX10_readUnit 212 = .ok (.goto 82, 3) := by decide +kernel
theorem dX10_readUnit_215 : decode cX10_readUnit 215 = .ok (.iload_n 2, 1) := by decide +kernel
theorem dX10_readUnit_216 : decode cX10_readUnit 216 = .ok (.iconst 2, 1) := by decide +kernel
theorem dX10_readUnit_217 : decode cX10_readUnit 217 = .ok (.if_icmp .ne 50, 3) := by decide +kernel
theorem dX10_readUnit_220 : decode cX10_readUnit 220 = .ok (.aload_n 0, 1) := by decide +kernel
theorem dX10_readUnit_221 : decode cX10_readUnit 221 = .ok (.dup, 1) := by decide +kernel
theorem dX10_readUnit_222 : decode cX10_readUnit 222 = .ok (.getfield 199, 3) := by decide +kernel
theorem dX10_readUnit_225 : decode cX10_readUnit 225 = .ok (.iconst 1, 1) := by decide +kernel
theorem dX10_readUnit_226 : decode cX10_readUnit 226 = .ok (.isub, 1) := by decide +kernel
theorem dX10_readUnit_227 : decode cX10_readUnit 227 = .ok (.putfield 199, 3) := by decide +kernel
theorem dX10_readUnit_230 : decode cX10_readUnit 230 = .ok (.aload_n 0, 1) := by decide +kernel
theorem dX10_readUnit_231 : decode cX10_readUnit 231 = .ok (.iconst 0, 1) := by decide +kernel
theorem dX10_readUnit_232 : decode cX10_readUnit 232 = .ok (.invokevirtual 218, 3) := by decide +kernel
theorem dX10_readUnit_235 : decode cX10_readUnit 235 = .ok (.aload_n 0, 1) := by decide +kernel
theorem dX10_readUnit_236 : decode cX10_readUnit 236 = .ok (.bipush 91, 2) := by decide +kernel
theorem dX10_readUnit_238 : decode cX10_readUnit 238 = .ok (.aload_n 0, 1) := by decide +kernel
theorem dX10_readUnit_239 : decode cX10_readUnit 239 = .ok (.getfield 199, 3) := by decide +kernel
theorem dX10_readUnit_242 : decode cX10_readUnit 242 = .ok (.iconst 1, 1) := by decide +kernel
theorem dX10_readUnit_243 : decode cX10_readUnit 243 = .ok (.isub, 1) := by decide +kernel
theorem dX10_readUnit_244 : decode cX10_readUnit 244 = .ok (.invokevirtual 237, 3) := by decide +kernel
theorem dX10_readUnit_247 : decode cX10_readUnit 247 = .ok (.aload_n 0, 1) := by decide +kernel
theorem dX10_readUnit_248 : decode cX10_readUnit 248 = .ok (.bipush 91, 2) := by decide +kernel
theorem dX10_readUnit_250 : decode cX10_readUnit 250 = .ok (.invokevirtual 241, 3) := by decide +kernel
theorem dX10_readUnit_253 : decode cX10_readUnit 253 = .ok (.pop, 1) := by decide +kernel
theorem dX10_readUnit_254 : decode cX10_readUnit 254 = .ok (.aload_n 0, 1) := by decide +kernel
theorem dX10_readUnit_255 : decode cX10_readUnit 255 = .ok (.dup, 1) := by decide +kernel
theorem dX10_readUnit_256 : decode cX10_readUnit 256 = .ok (.getfield 230, 3) := by decide +kernel
theorem dX10_readUnit_259 : decode cX10_readUnit 259 = .ok (.iconst 1, 1) := by decide +kernel
theorem dX10_readUnit_260 : decode cX10_readUnit 260 = .ok (.iadd, 1) := by decide +kernel
theorem dX10_readUnit_261 : decode cX10_readUnit 261 = .ok (.putfield 230, 3) := by decide +kernel
theorem dX10_readUnit_264 : decode cX10_readUnit 264 = .ok (.goto 30, 3) := by decide +kernel
theorem dX10_readUnit_267 : decode cX10_readUnit 267 = .ok (.aload_n 0, 1) := by decide +kernel
theorem dX10_readUnit_268 : decode cX10_readUnit 268 = .ok (.iload_n 2, 1) := by decide +kernel
theorem dX10_readUnit_269 : decode cX10_readUnit 269 = .ok (.bipush 45, 2) := by decide +kernel
theorem dX10_readUnit_271 : decode cX10_readUnit 271 = .ok (.if_icmp .ne 7, 3) := by decide +kernel
theorem dX10_readUnit_274 : decode cX10_readUnit 274 = .ok (.iconst 5, 1) := by decide +kernel
theorem dX10_readUnit_275 : decode cX10_readUnit 275 = .ok (.goto 5, 3) := by decide +kernel
theorem dX10_readUnit_278 : decode cX10_readUnit 278 = .ok (.bipush 40, 2) := by decide +kernel
theorem dX10_readUnit_280 : decode cX10_readUnit 280 = .ok (.iconst 0, 1) := by decide +kernel
theorem dX10_readUnit_281 : decode cX10_readUnit 281 = .ok (.invokevirtual 237, 3) := by decide +kernel
theorem dX10_readUnit_284 : decode cX10_readUnit 284 = .ok (.aload_n 0, 1) := by decide +kernel
theorem dX10_readUnit_285 : decode cX10_readUnit 285 = .ok (.dup, 1) := by decide +kernel
theorem dX10_readUnit_286 : decode cX10_readUnit 286 = .ok (.getfield 230, 3) := by decide +kernel
theorem dX10_readUnit_289 : decode cX10_readUnit 289 = .ok (.iconst 1, 1) := by decide +kernel
theorem dX10_readUnit_290 : decode cX10_readUnit 290 = .ok (.iadd, 1) := by decide +kernel
theorem dX10_readUnit_291 : decode cX10_readUnit 291 = .ok (.putfield 230, 3) := by decide +kernel
theorem dX10_readUnit_294 : decode cX10_readUnit 294 = .ok (.goto (-292), 3) := by decide +kernel
theorem dX10_readUnit_297 : decode cX10_readUnit 297 = .ok (.return_, 1) := by decide +kernel
theorem dX10_actOf_0 : decode cX10_actOf 0 = .ok (.iload_n 0, 1) := by decide +kernel
theorem dX10_actOf_1 : decode cX10_actOf 1 = .ok (.bipush 43, 2) := by decide +kernel
theorem dX10_actOf_3 : decode cX10_actOf 3 = .ok (.if_icmp .ne 8, 3) := by decide +kernel
theorem dX10_actOf_6 : decode cX10_actOf 6 = .ok (.bipush 6, 2) := by decide +kernel
theorem dX10_actOf_8 : decode cX10_actOf 8 = .ok (.goto 38, 3) := by decide +kernel
theorem dX10_actOf_11 : decode cX10_actOf 11 = .ok (.iload_n 0, 1) := by decide +kernel
theorem dX10_actOf_12 : decode cX10_actOf 12 = .ok (.bipush 45, 2) := by decide +kernel
theorem dX10_actOf_14 : decode cX10_actOf 14 = .ok (.if_icmp .ne 8, 3) := by decide +kernel
theorem dX10_actOf_17 : decode cX10_actOf 17 = .ok (.bipush 7, 2) := by decide +kernel
theorem dX10_actOf_19 : decode cX10_actOf 19 = .ok (.goto 27, 3) := by decide +kernel
theorem dX10_actOf_22 : decode cX10_actOf 22 = .ok (.iload_n 0, 1) := by decide +kernel
theorem dX10_actOf_23 : decode cX10_actOf 23 = .ok (.bipush 42, 2) := by decide +kernel
theorem dX10_actOf_25 : decode cX10_actOf 25 = .ok (.if_icmp .ne 8, 3) := by decide +kernel
theorem dX10_actOf_28 : decode cX10_actOf 28 = .ok (.bipush 8, 2) := by decide +kernel
theorem dX10_actOf_30 : decode cX10_actOf 30 = .ok (.goto 16, 3) := by decide +kernel
theorem dX10_actOf_33 : decode cX10_actOf 33 = .ok (.iload_n 0, 1) := by decide +kernel
theorem dX10_actOf_34 : decode cX10_actOf 34 = .ok (.bipush 47, 2) := by decide +kernel
theorem dX10_actOf_36 : decode cX10_actOf 36 = .ok (.if_icmp .ne 8, 3) := by decide +kernel
theorem dX10_actOf_39 : decode cX10_actOf 39 = .ok (.bipush 9, 2) := by decide +kernel
theorem dX10_actOf_41 : decode cX10_actOf 41 = .ok (.goto 5, 3) := by decide +kernel
theorem dX10_actOf_44 : decode cX10_actOf 44 = .ok (.bipush 10, 2) := by decide +kernel
theorem dX10_actOf_46 : decode cX10_actOf 46 = .ok (.ireturn, 1) := by decide +kernel
theorem dX10_isLow_0 : decode cX10_isLow 0 = .ok (.iload_n 1, 1) := by decide +kernel
theorem dX10_isLow_1 : decode cX10_isLow 1 = .ok (.bipush 43, 2) := by decide +kernel
theorem dX10_isLow_3 : decode cX10_isLow 3 = .ok (.if_icmp .eq 9, 3) := by decide +kernel
theorem dX10_isLow_6 : decode cX10_isLow 6 = .ok (.iload_n 1, 1) := by decide +kernel
theorem dX10_isLow_7 : decode cX10_isLow 7 = .ok (.bipush 45, 2) := by decide +kernel
theorem dX10_isLow_9 : decode cX10_isLow 9 = .ok (.if_icmp .ne 7, 3) := by decide +kernel
theorem dX10_isLow_12 : decode cX10_isLow 12 = .ok (.iconst 1, 1) := by decide +kernel
theorem dX10_isLow_13 : decode cX10_isLow 13 = .ok (.goto 4, 3) := by decide +kernel
theorem dX10_isLow_16 : decode cX10_isLow 16 = .ok (.iconst 0, 1) := by decide +kernel
theorem dX10_isLow_17 : decode cX10_isLow 17 = .ok (.ireturn, 1) := by decide +kernel
theorem dX10_isHigh_0 : decode cX10_isHigh 0 = .ok (.iload_n 1, 1) := by decide +kernel
theorem dX10_isHigh_1 : decode cX10_isHigh 1 = .ok (.bipush 42, 2) := by decide +kernel
theorem dX10_isHigh_3 : decode cX10_isHigh 3 = .ok (.if_icmp .eq 15, 3) := by decide +kernel
theorem dX10_isHigh_6 : decode cX10_isHigh 6 = .ok (.iload_n 1, 1) := by decide +kernel
theorem dX10_isHigh_7 : decode cX10_isHigh 7 = .ok (.bipush 47, 2) := by decide +kernel
theorem dX10_isHigh_9 : decode cX10_isHigh 9 = .ok (.if_icmp .eq 9, 3) := by decide +kernel
theorem dX10_isHigh_12 : decode cX10_isHigh 12 = .ok (.iload_n 1, 1) := by decide +kernel
theorem dX10_isHigh_13 : decode cX10_isHigh 13 = .ok (.bipush 37, 2) := by decide +kernel
theorem dX10_isHigh_15 : decode cX10_isHigh 15 = .ok (.if_icmp .ne 7, 3) := by decide +kernel
theorem dX10_isHigh_18 : decode cX10_isHigh 18 = .ok (.iconst 1, 1) := by decide +kernel
theorem dX10_isHigh_19 : decode cX10_isHigh 19 = .ok (.goto 4, 3) := by decide +kernel
theorem dX10_isHigh_22 : decode cX10_isHigh 22 = .ok (.iconst 0, 1) := by decide +kernel
theorem dX10_isHigh_23 : decode cX10_isHigh 23 = .ok (.ireturn, 1) := by decide +kernel
theorem dX10_endUnit_0 : decode cX10_endUnit 0 = .ok (.aload_n 0, 1) := by decide +kernel
theorem dX10_endUnit_1 : decode cX10_endUnit 1 = .ok (.invokevirtual 244, 3) := by decide +kernel
theorem dX10_endUnit_4 : decode cX10_endUnit 4 = .ok (.iconst 5, 1) := by decide +kernel
theorem dX10_endUnit_5 : decode cX10_endUnit 5 = .ok (.if_icmp .ne 32, 3) := by decide +kernel
theorem dX10_endUnit_8 : decode cX10_endUnit 8 = .ok (.aload_n 0, 1) := by decide +kernel
theorem dX10_endUnit_9 : decode cX10_endUnit 9 = .ok (.iconst 5, 1) := by decide +kernel
theorem dX10_endUnit_10 : decode cX10_endUnit 10 = .ok (.lconst 0, 1) := by decide +kernel
theorem dX10_endUnit_11 : decode cX10_endUnit 11 = .ok (.invokevirtual 233, 3) := by decide +kernel
theorem dX10_endUnit_14 : decode cX10_endUnit 14 = .ok (.aload_n 0, 1) := by decide +kernel
theorem dX10_endUnit_15 : decode cX10_endUnit 15 = .ok (.dup, 1) := by decide +kernel
theorem dX10_endUnit_16 : decode cX10_endUnit 16 = .ok (.getfield 224, 3) := by decide +kernel
theorem dX10_endUnit_19 : decode cX10_endUnit 19 = .ok (.iconst 1, 1) := by decide +kernel
theorem dX10_endUnit_20 : decode cX10_endUnit 20 = .ok (.isub, 1) := by decide +kernel
theorem dX10_endUnit_21 : decode cX10_endUnit 21 = .ok (.putfield 224, 3) := by decide +kernel
theorem dX10_endUnit_24 : decode cX10_endUnit 24 = .ok (.aload_n 0, 1) := by decide +kernel
theorem dX10_endUnit_25 : decode cX10_endUnit 25 = .ok (.dup, 1) := by decide +kernel
theorem dX10_endUnit_26 : decode cX10_endUnit 26 = .ok (.getfield 230, 3) := by decide +kernel
theorem dX10_endUnit_29 : decode cX10_endUnit 29 = .ok (.iconst 1, 1) := by decide +kernel
theorem dX10_endUnit_30 : decode cX10_endUnit 30 = .ok (.isub, 1) := by decide +kernel
theorem dX10_endUnit_31 : decode cX10_endUnit 31 = .ok (.putfield 230, 3) := by decide +kernel
theorem dX10_endUnit_34 : decode cX10_endUnit 34 = .ok (.goto (-34), 3) := by decide +kernel
theorem dX10_endUnit_37 : decode cX10_endUnit 37 = .ok (.aload_n 0, 1) := by decide +kernel
theorem dX10_endUnit_38 : decode cX10_endUnit 38 = .ok (.aload_n 0, 1) := by decide +kernel
theorem dX10_endUnit_39 : decode cX10_endUnit 39 = .ok (.invokevirtual 244, 3) := by decide +kernel
theorem dX10_endUnit_42 : decode cX10_endUnit 42 = .ok (.invokevirtual 248, 3) := by decide +kernel
theorem dX10_endUnit_45 : decode cX10_endUnit 45 = .ok (.ifCond .eq 25, 3) := by decide +kernel
theorem dX10_endUnit_48 : decode cX10_endUnit 48 = .ok (.aload_n 0, 1) := by decide +kernel
theorem dX10_endUnit_49 : decode cX10_endUnit 49 = .ok (.aload_n 0, 1) := by decide +kernel
theorem dX10_endUnit_50 : decode cX10_endUnit 50 = .ok (.invokevirtual 244, 3) := by decide +kernel
theorem dX10_endUnit_53 : decode cX10_endUnit 53 = .ok (.invokestatic 251, 3) := by decide +kernel
theorem dX10_endUnit_56 : decode cX10_endUnit 56 = .ok (.lconst 0, 1) := by decide +kernel
theorem dX10_endUnit_57 : decode cX10_endUnit 57 = .ok (.invokevirtual 233, 3) := by decide +kernel
theorem dX10_endUnit_60 : decode cX10_endUnit 60 = .ok (.aload_n 0, 1) := by decide +kernel
theorem dX10_endUnit_61 : decode cX10_endUnit 61 = .ok (.dup, 1) := by decide +kernel
theorem dX10_endUnit_62 : decode cX10_endUnit 62 = .ok (.getfield 224, 3) := by decide +kernel
theorem dX10_endUnit_65 : decode cX10_endUnit 65 = .ok (.iconst 1, 1) := by decide +kernel
theorem dX10_endUnit_66 : decode cX10_endUnit 66 = .ok (.isub, 1) := by decide +kernel
theorem dX10_endUnit_67 : decode cX10_endUnit 67 = .ok (.putfield 224, 3) := by decide +kernel
theorem dX10_endUnit_70 : decode cX10_endUnit 70 = .ok (.return_, 1) := by decide +kernel
theorem dX10_endLow_0 : decode cX10_endLow 0 = .ok (.aload_n 0, 1) := by decide +kernel
theorem dX10_endLow_1 : decode cX10_endLow 1 = .ok (.aload_n 0, 1) := by decide +kernel
theorem dX10_endLow_2 : decode cX10_endLow 2 = .ok (.invokevirtual 244, 3) := by decide +kernel
theorem dX10_endLow_5 : decode cX10_endLow 5 = .ok (.invokevirtual 254, 3) := by decide +kernel
theorem dX10_endLow_8 : decode cX10_endLow 8 = .ok (.ifCond .eq 25, 3) := by decide +kernel
theorem dX10_endLow_11 : decode cX10_endLow 11 = .ok (.aload_n 0, 1) := by decide +kernel
theorem dX10_endLow_12 : decode cX10_endLow 12 = .ok (.aload_n 0, 1) := by decide +kernel
theorem dX10_endLow_13 : decode cX10_endLow 13 = .ok (.invokevirtual 244, 3) := by decide +kernel
theorem dX10_endLow_16 : decode cX10_endLow 16 = .ok (.invokestatic 251, 3) := by decide +kernel
theorem dX10_endLow_19 : decode cX10_endLow 19 = .ok (.lconst 0, 1) := by decide +kernel
theorem dX10_endLow_20 : decode cX10_endLow 20 = .ok (.invokevirtual 233, 3) := by decide +kernel
theorem dX10_endLow_23 : decode cX10_endLow 23 = .ok (.aload_n 0, 1) := by decide +kernel
theorem dX10_endLow_24 : decode cX10_endLow 24 = .ok (.dup, 1) := by decide +kernel
theorem dX10_endLow_25 : decode cX10_endLow 25 = .ok (.getfield 224, 3) := by decide +kernel
theorem dX10_endLow_28 : decode cX10_endLow 28 = .ok (.iconst 1, 1) := by decide +kernel
theorem dX10_endLow_29 : decode cX10_endLow 29 = .ok (.isub, 1) := by decide +kernel
theorem dX10_endLow_30 : decode cX10_endLow 30 = .ok (.putfield 224, 3) := by decide +kernel
theorem dX10_endLow_33 : decode cX10_endLow 33 = .ok (.return_, 1) := by decide +kernel
theorem dX10_goOn_0 : decode cX10_goOn 0 = .ok (.aload_n 0, 1) := by decide +kernel
theorem dX10_goOn_1 : decode cX10_goOn 1 = .ok (.getfield 13, 3) := by decide +kernel
theorem dX10_goOn_4 : decode cX10_goOn 4 = .ok (.aload_n 0, 1) := by decide +kernel
theorem dX10_goOn_5 : decode cX10_goOn 5 = .ok (.getfield 199, 3) := by decide +kernel
theorem dX10_goOn_8 : decode cX10_goOn 8 = .ok (.iaload, 1) := by decide +kernel
theorem dX10_goOn_9 : decode cX10_goOn 9 = .ok (.istore_n 1, 1) := by decide +kernel
theorem dX10_goOn_10 : decode cX10_goOn 10 = .ok (.aload_n 0, 1) := by decide +kernel
theorem dX10_goOn_11 : decode cX10_goOn 11 = .ok (.iload_n 1, 1) := by decide +kernel
theorem dX10_goOn_12 : decode cX10_goOn 12 = .ok (.invokevirtual 248, 3) := by decide +kernel
theorem dX10_goOn_15 : decode cX10_goOn 15 = .ok (.ifCond .eq 25, 3) := by decide +kernel
theorem dX10_goOn_18 : decode cX10_goOn 18 = .ok (.aload_n 0, 1) := by decide +kernel
theorem dX10_goOn_19 : decode cX10_goOn 19 = .ok (.iload_n 1, 1) := by decide +kernel
theorem dX10_goOn_20 : decode cX10_goOn 20 = .ok (.iconst 0, 1) := by decide +kernel
theorem dX10_goOn_21 : decode cX10_goOn 21 = .ok (.invokevirtual 237, 3) := by decide +kernel
theorem dX10_goOn_24 : decode cX10_goOn 24 = .ok (.aload_n 0, 1) := by decide +kernel
theorem dX10_goOn_25 : decode cX10_goOn 25 = .ok (.dup, 1) := by decide +kernel
theorem dX10_goOn_26 : decode cX10_goOn 26 = .ok (.getfield 199, 3) := by decide +kernel
theorem dX10_goOn_29 : decode cX10_goOn 29 = .ok (.iconst 1, 1) := by decide +kernel
theorem dX10_goOn_30 : decode cX10_goOn 30 = .ok (.iadd, 1) := by decide +kernel
theorem dX10_goOn_31 : decode cX10_goOn 31 = .ok (.putfield 199, 3) := by decide +kernel
theorem dX10_goOn_34 : decode cX10_goOn 34 = .ok (.aload_n 0, 1) := by decide +kernel
theorem dX10_goOn_35 : decode cX10_goOn 35 = .ok (.invokevirtual 257, 3) := by decide +kernel
theorem dX10_goOn_38 : decode cX10_goOn 38 = .ok (.iconst 1, 1) := by decide +kernel
theorem dX10_goOn_39 : decode cX10_goOn 39 = .ok (.ireturn, 1) := by decide +kernel
theorem dX10_goOn_40 : decode cX10_goOn 40 = .ok (.aload_n 0, 1) := by decide +kernel
theorem dX10_goOn_41 : decode cX10_goOn 41 = .ok (.iload_n 1, 1) := by decide +kernel
theorem dX10_goOn_42 : decode cX10_goOn 42 = .ok (.invokevirtual 254, 3) := by decide +kernel
theorem dX10_goOn_45 : decode cX10_goOn 45 = .ok (.ifCond .eq 29, 3) := by decide +kernel
theorem dX10_goOn_48 : decode cX10_goOn 48 = .ok (.aload_n 0, 1) := by decide +kernel
theorem dX10_goOn_49 : decode cX10_goOn 49 = .ok (.invokevirtual 260, 3) := by decide +kernel
theorem dX10_goOn_52 : decode cX10_goOn 52 = .ok (.aload_n 0, 1) := by decide +kernel
theorem dX10_goOn_53 : decode cX10_goOn 53 = .ok (.iload_n 1, 1) := by decide +kernel
theorem dX10_goOn_54 : decode cX10_goOn 54 = .ok (.iconst 0, 1) := by decide +kernel
theorem dX10_goOn_55 : decode cX10_goOn 55 = .ok (.invokevirtual 237, 3) := by decide +kernel
theorem dX10_goOn_58 : decode cX10_goOn 58 = .ok (.aload_n 0, 1) := by decide +kernel
theorem dX10_goOn_59 : decode cX10_goOn 59 = .ok (.dup, 1) := by decide +kernel
theorem dX10_goOn_60 : decode cX10_goOn 60 = .ok (.getfield 199, 3) := by decide +kernel
theorem dX10_goOn_63 : decode cX10_goOn 63 = .ok (.iconst 1, 1) := by decide +kernel
theorem dX10_goOn_64 : decode cX10_goOn 64 = .ok (.iadd, 1) := by decide +kernel
theorem dX10_goOn_65 : decode cX10_goOn 65 = .ok (.putfield 199, 3) := by decide +kernel
theorem dX10_goOn_68 : decode cX10_goOn 68 = .ok (.aload_n 0, 1) := by decide +kernel
theorem dX10_goOn_69 : decode cX10_goOn 69 = .ok (.invokevirtual 257, 3) := by decide +kernel
theorem dX10_goOn_72 : decode cX10_goOn 72 = .ok (.iconst 1, 1) := by decide +kernel
theorem dX10_goOn_73 : decode cX10_goOn 73 = .ok (.ireturn, 1) := by decide +kernel
theorem dX10_goOn_74 : decode cX10_goOn 74 = .ok (.aload_n 0, 1) := by decide +kernel
theorem dX10_goOn_75 : decode cX10_goOn 75 = .ok (.invokevirtual 260, 3) := by decide +kernel
theorem dX10_goOn_78 : decode cX10_goOn 78 = .ok (.aload_n 0, 1) := by decide +kernel
theorem dX10_goOn_79 : decode cX10_goOn 79 = .ok (.getfield 224, 3) := by decide +kernel
theorem dX10_goOn_82 : decode cX10_goOn 82 = .ok (.ifCond .ne 5, 3) := by decide +kernel
theorem dX10_goOn_85 : decode cX10_goOn 85 = .ok (.iconst 0, 1) := by decide +kernel
theorem dX10_goOn_86 : decode cX10_goOn 86 = .ok (.ireturn, 1) := by decide +kernel
theorem dX10_goOn_87 : decode cX10_goOn 87 = .ok (.aload_n 0, 1) := by decide +kernel
theorem dX10_goOn_88 : decode cX10_goOn 88 = .ok (.getfield 70, 3) := by decide +kernel
theorem dX10_goOn_91 : decode cX10_goOn 91 = .ok (.aload_n 0, 1) := by decide +kernel
theorem dX10_goOn_92 : decode cX10_goOn 92 = .ok (.getfield 224, 3) := by decide +kernel
theorem dX10_goOn_95 : decode cX10_goOn 95 = .ok (.iconst 1, 1) := by decide +kernel
theorem dX10_goOn_96 : decode cX10_goOn 96 = .ok (.isub, 1) := by decide +kernel
theorem dX10_goOn_97 : decode cX10_goOn 97 = .ok (.iaload, 1) := by decide +kernel
theorem dX10_goOn_98 : decode cX10_goOn 98 = .ok (.istore_n 2, 1) := by decide +kernel
theorem dX10_goOn_99 : decode cX10_goOn 99 = .ok (.aload_n 0, 1) := by decide +kernel
theorem dX10_goOn_100 : decode cX10_goOn 100 = .ok (.invokevirtual 244, 3) := by decide +kernel
theorem dX10_goOn_103 : decode cX10_goOn 103 = .ok (.bipush 91, 2) := by decide +kernel
theorem dX10_goOn_105 : decode cX10_goOn 105 = .ok (.if_icmp .ne 52, 3) := by decide +kernel
theorem dX10_goOn_108 : decode cX10_goOn 108 = .ok (.aload_n 0, 1) := by decide +kernel
theorem dX10_goOn_109 : decode cX10_goOn 109 = .ok (.bipush 93, 2) := by decide +kernel
theorem dX10_goOn_111 : decode cX10_goOn 111 = .ok (.invokevirtual 241, 3) := by decide +kernel
theorem dX10_goOn_114 : decode cX10_goOn 114 = .ok (.ifCond .eq 288, 3) := by decide +kernel
theorem dX10_goOn_117 : decode cX10_goOn 117 = .ok (.aload_n 0, 1) := by decide +kernel
theorem dX10_goOn_118 : decode cX10_goOn 118 = .ok (.iconst 4, 1) := by decide +kernel
theorem dX10_goOn_119 : decode cX10_goOn 119 = .ok (.aload_n 0, 1) := by decide +kernel
theorem dX10_goOn_120 : decode cX10_goOn 120 = .ok (.getfield 73, 3) := by decide +kernel
theorem dX10_goOn_123 : decode cX10_goOn 123 = .ok (.aload_n 0, 1) := by decide +kernel
theorem dX10_goOn_124 : decode cX10_goOn 124 = .ok (.getfield 224, 3) := by decide +kernel
theorem dX10_goOn_127 : decode cX10_goOn 127 = .ok (.iconst 1, 1) := by decide +kernel
theorem dX10_goOn_128 : decode cX10_goOn 128 = .ok (.isub, 1) := by decide +kernel
theorem dX10_goOn_129 : decode cX10_goOn 129 = .ok (.iaload, 1) := by decide +kernel
theorem dX10_goOn_130 : decode cX10_goOn 130 = .ok (.i2l, 1) := by decide +kernel
theorem dX10_goOn_131 : decode cX10_goOn 131 = .ok (.invokevirtual 233, 3) := by decide +kernel
theorem dX10_goOn_134 : decode cX10_goOn 134 = .ok (.aload_n 0, 1) := by decide +kernel
theorem dX10_goOn_135 : decode cX10_goOn 135 = .ok (.dup, 1) := by decide +kernel
theorem dX10_goOn_136 : decode cX10_goOn 136 = .ok (.getfield 224, 3) := by decide +kernel
theorem dX10_goOn_139 : decode cX10_goOn 139 = .ok (.iconst 1, 1) := by decide +kernel
theorem dX10_goOn_140 : decode cX10_goOn 140 = .ok (.isub, 1) := by decide +kernel
theorem dX10_goOn_141 : decode cX10_goOn 141 = .ok (.putfield 224, 3) := by decide +kernel
theorem dX10_goOn_144 : decode cX10_goOn 144 = .ok (.aload_n 0, 1) := by decide +kernel
theorem dX10_goOn_145 : decode cX10_goOn 145 = .ok (.dup, 1) := by decide +kernel
theorem dX10_goOn_146 : decode cX10_goOn 146 = .ok (.getfield 230, 3) := by decide +kernel
theorem dX10_goOn_149 : decode cX10_goOn 149 = .ok (.iconst 1, 1) := by decide +kernel
theorem dX10_goOn_150 : decode cX10_goOn 150 = .ok (.isub, 1) := by decide +kernel
theorem dX10_goOn_151 : decode cX10_goOn 151 = .ok (.putfield 230, 3) := by decide +kernel
theorem dX10_goOn_154 : decode cX10_goOn 154 = .ok (.goto 248, 3) := by decide +kernel
theorem dX10_goOn_157 : decode cX10_goOn 157 = .ok (.iload_n 2, 1) := by decide +kernel
theorem dX10_goOn_158 : decode cX10_goOn 158 = .ok (.ifCond .ne 38, 3) := by decide +kernel
theorem dX10_goOn_161 : decode cX10_goOn 161 = .ok (.iload_n 1, 1) := by decide +kernel
theorem dX10_goOn_162 : decode cX10_goOn 162 = .ok (.bipush 60, 2) := by decide +kernel
theorem dX10_goOn_164 : decode cX10_goOn 164 = .ok (.if_icmp .ne 32, 3) := by decide +kernel
theorem dX10_goOn_167 : decode cX10_goOn 167 = .ok (.aload_n 0, 1) := by decide +kernel
theorem dX10_goOn_168 : decode cX10_goOn 168 = .ok (.getfield 70, 3) := by decide +kernel
theorem dX10_goOn_171 : decode cX10_goOn 171 = .ok (.aload_n 0, 1) := by decide +kernel
theorem dX10_goOn_172 : decode cX10_goOn 172 = .ok (.getfield 224, 3) := by decide +kernel
theorem dX10_goOn_175 : decode cX10_goOn 175 = .ok (.iconst 1, 1) := by decide +kernel
theorem dX10_goOn_176 : decode cX10_goOn 176 = .ok (.isub, 1) := by decide +kernel
theorem dX10_goOn_177 : decode cX10_goOn 177 = .ok (.iconst 1, 1) := by decide +kernel
theorem dX10_goOn_178 : decode cX10_goOn 178 = .ok (.iastore, 1) := by decide +kernel
theorem dX10_goOn_179 : decode cX10_goOn 179 = .ok (.aload_n 0, 1) := by decide +kernel
theorem dX10_goOn_180 : decode cX10_goOn 180 = .ok (.dup, 1) := by decide +kernel
theorem dX10_goOn_181 : decode cX10_goOn 181 = .ok (.getfield 199, 3) := by decide +kernel
theorem dX10_goOn_184 : decode cX10_goOn 184 = .ok (.iconst 1, 1) := by decide +kernel
theorem dX10_goOn_185 : decode cX10_goOn 185 = .ok (.iadd, 1) := by decide +kernel
theorem dX10_goOn_186 : decode cX10_goOn 186 = .ok (.putfield 199, 3) := by decide +kernel
theorem dX10_goOn_189 : decode cX10_goOn 189 = .ok (.aload_n 0, 1) := by decide +kernel
theorem dX10_goOn_190 : decode cX10_goOn 190 = .ok (.invokevirtual 257, 3) := by decide +kernel
theorem dX10_goOn_193 : decode cX10_goOn 193 = .ok (.goto 209, 3) := by decide +kernel
theorem dX10_goOn_196 : decode cX10_goOn 196 = .ok (.iload_n 2, 1) := by decide +kernel
theorem dX10_goOn_197 : decode cX10_goOn 197 = .ok (.ifCond .ne 60, 3) := by decide +kernel
theorem dX10_goOn_200 : decode cX10_goOn 200 = .ok (.iload_n 1, 1) := by decide +kernel
theorem dX10_goOn_201 : decode cX10_goOn 201 = .ok (.bipush 63, 2) := by decide +kernel
theorem dX10_goOn_203 : decode cX10_goOn 203 = .ok (.if_icmp .ne 54, 3) := by decide +kernel
theorem dX10_goOn_206 : decode cX10_goOn 206 = .ok (.aload_n 0, 1) := by decide +kernel
theorem dX10_goOn_207 : decode cX10_goOn 207 = .ok (.getfield 70, 3) := by decide +kernel
theorem dX10_goOn_210 : decode cX10_goOn 210 = .ok (.aload_n 0, 1) := by decide +kernel
theorem dX10_goOn_211 : decode cX10_goOn 211 = .ok (.getfield 224, 3) := by decide +kernel
theorem dX10_goOn_214 : decode cX10_goOn 214 = .ok (.iconst 1, 1) := by decide +kernel
theorem dX10_goOn_215 : decode cX10_goOn 215 = .ok (.isub, 1) := by decide +kernel
theorem dX10_goOn_216 : decode cX10_goOn 216 = .ok (.iconst 2, 1) := by decide +kernel
theorem dX10_goOn_217 : decode cX10_goOn 217 = .ok (.iastore, 1) := by decide +kernel
theorem dX10_goOn_218 : decode cX10_goOn 218 = .ok (.aload_n 0, 1) := by decide +kernel
theorem dX10_goOn_219 : decode cX10_goOn 219 = .ok (.getfield 73, 3) := by decide +kernel
theorem dX10_goOn_222 : decode cX10_goOn 222 = .ok (.aload_n 0, 1) := by decide +kernel
theorem dX10_goOn_223 : decode cX10_goOn 223 = .ok (.getfield 224, 3) := by decide +kernel
theorem dX10_goOn_226 : decode cX10_goOn 226 = .ok (.iconst 1, 1) := by decide +kernel
theorem dX10_goOn_227 : decode cX10_goOn 227 = .ok (.isub, 1) := by decide +kernel
theorem dX10_goOn_228 : decode cX10_goOn 228 = .ok (.aload_n 0, 1) := by decide +kernel
theorem dX10_goOn_229 : decode cX10_goOn 229 = .ok (.getfield 206, 3) := by decide +kernel
theorem dX10_goOn_232 : decode cX10_goOn 232 = .ok (.iastore, 1) := by decide +kernel
theorem dX10_goOn_233 : decode cX10_goOn 233 = .ok (.aload_n 0, 1) := by decide +kernel
theorem dX10_goOn_234 : decode cX10_goOn 234 = .ok (.bipush 12, 2) := by decide +kernel
theorem dX10_goOn_236 : decode cX10_goOn 236 = .ok (.lconst 0, 1) := by decide +kernel
theorem dX10_goOn_237 : decode cX10_goOn 237 = .ok (.invokevirtual 233, 3) := by decide +kernel
theorem dX10_goOn_240 : decode cX10_goOn 240 = .ok (.aload_n 0, 1) := by decide +kernel
theorem dX10_goOn_241 : decode cX10_goOn 241 = .ok (.dup, 1) := by decide +kernel
theorem dX10_goOn_242 : decode cX10_goOn 242 = .ok (.getfield 199, 3) := by decide +kernel
theorem dX10_goOn_245 : decode cX10_goOn 245 = .ok (.iconst 1, 1) := by decide +kernel
theorem dX10_goOn_246 : decode cX10_goOn 246 = .ok (.iadd, 1) := by decide +kernel
theorem dX10_goOn_247 : decode cX10_goOn 247 = .ok (.putfield 199, 3) := by decide +kernel
theorem dX10_goOn_250 : decode cX10_goOn 250 = .ok (.aload_n 0, 1) := by decide +kernel
theorem dX10_goOn_251 : decode cX10_goOn 251 = .ok (.invokevirtual 257, 3) := by decide +kernel
theorem dX10_goOn_254 : decode cX10_goOn 254 = .ok (.goto 148, 3) := by decide +kernel
theorem dX10_goOn_257 : decode cX10_goOn 257 = .ok (.iload_n 2, 1) := by decide +kernel
theorem dX10_goOn_258 : decode cX10_goOn 258 = .ok (.iconst 2, 1) := by decide +kernel
theorem dX10_goOn_259 : decode cX10_goOn 259 = .ok (.if_icmp .ne 76, 3) := by decide +kernel
theorem dX10_goOn_262 : decode cX10_goOn 262 = .ok (.aload_n 0, 1) := by decide +kernel
theorem dX10_goOn_263 : decode cX10_goOn 263 = .ok (.bipush 58, 2) := by decide +kernel
theorem dX10_goOn_265 : decode cX10_goOn 265 = .ok (.invokevirtual 241, 3) := by decide +kernel
theorem dX10_goOn_268 : decode cX10_goOn 268 = .ok (.ifCond .eq 134, 3) := by decide +kernel
theorem dX10_goOn_271 : decode cX10_goOn 271 = .ok (.aload_n 0, 1) := by decide +kernel
theorem dX10_goOn_272 : decode cX10_goOn 272 = .ok (.getfield 73, 3) := by decide +kernel
theorem dX10_goOn_275 : decode cX10_goOn 275 = .ok (.aload_n 0, 1) := by decide +kernel
theorem dX10_goOn_276 : decode cX10_goOn 276 = .ok (.getfield 224, 3) := by decide +kernel
theorem dX10_goOn_279 : decode cX10_goOn 279 = .ok (.iconst 1, 1) := by decide +kernel
theorem dX10_goOn_280 : decode cX10_goOn 280 = .ok (.isub, 1) := by decide +kernel
theorem dX10_goOn_281 : decode cX10_goOn 281 = .ok (.iaload, 1) := by decide +kernel
theorem dX10_goOn_282 : decode cX10_goOn 282 = .ok (.istore_n 3, 1) := by decide +kernel
theorem dX10_goOn_283 : decode cX10_goOn 283 = .ok (.aload_n 0, 1) := by decide +kernel
theorem dX10_goOn_284 : decode cX10_goOn 284 = .ok (.getfield 70, 3) := by decide +kernel
theorem dX10_goOn_287 : decode cX10_goOn 287 = .ok (.aload_n 0, 1) := by decide +kernel
theorem dX10_goOn_288 : decode cX10_goOn 288 = .ok (.getfield 224, 3) := by decide +kernel
theorem dX10_goOn_291 : decode cX10_goOn 291 = .ok (.iconst 1, 1) := by decide +kernel
theorem dX10_goOn_292 : decode cX10_goOn 292 = .ok (.isub, 1) := by decide +kernel
theorem dX10_goOn_293 : decode cX10_goOn 293 = .ok (.iconst 3, 1) := by decide +kernel
theorem dX10_goOn_294 : decode cX10_goOn 294 = .ok (.iastore, 1) := by decide +kernel
theorem dX10_goOn_295 : decode cX10_goOn 295 = .ok (.aload_n 0, 1) := by decide +kernel
theorem dX10_goOn_296 : decode cX10_goOn 296 = .ok (.getfield 73, 3) := by decide +kernel
theorem dX10_goOn_299 : decode cX10_goOn 299 = .ok (.aload_n 0, 1) := by decide +kernel
theorem dX10_goOn_300 : decode cX10_goOn 300 = .ok (.getfield 224, 3) := by decide +kernel
theorem dX10_goOn_303 : decode cX10_goOn 303 = .ok (.iconst 1, 1) := by decide +kernel
theorem dX10_goOn_304 : decode cX10_goOn 304 = .ok (.isub, 1) := by decide +kernel
theorem dX10_goOn_305 : decode cX10_goOn 305 = .ok (.aload_n 0, 1) := by decide +kernel
theorem dX10_goOn_306 : decode cX10_goOn 306 = .ok (.getfield 206, 3) := by decide +kernel
theorem dX10_goOn_309 : decode cX10_goOn 309 = .ok (.iastore, 1) := by decide +kernel
theorem dX10_goOn_310 : decode cX10_goOn 310 = .ok (.aload_n 0, 1) := by decide +kernel
theorem dX10_goOn_311 : decode cX10_goOn 311 = .ok (.bipush 13, 2) := by decide +kernel
theorem dX10_goOn_313 : decode cX10_goOn 313 = .ok (.lconst 0, 1) := by decide +kernel
theorem dX10_goOn_314 : decode cX10_goOn 314 = .ok (.invokevirtual 233, 3) := by decide +kernel
theorem dX10_goOn_317 : decode cX10_goOn 317 = .ok (.aload_n 0, 1) := by decide +kernel
theorem dX10_goOn_318 : decode cX10_goOn 318 = .ok (.getfield 49, 3) := by decide +kernel
theorem dX10_goOn_321 : decode cX10_goOn 321 = .ok (.iload_n 3, 1) := by decide +kernel
theorem dX10_goOn_322 : decode cX10_goOn 322 = .ok (.aload_n 0, 1) := by decide +kernel
theorem dX10_goOn_323 : decode cX10_goOn 323 = .ok (.getfield 206, 3) := by decide +kernel
theorem dX10_goOn_326 : decode cX10_goOn 326 = .ok (.i2l, 1) := by decide +kernel
theorem dX10_goOn_327 : decode cX10_goOn 327 = .ok (.lastore, 1) := by decide +kernel
theorem dX10_goOn_328 : decode cX10_goOn 328 = .ok (.aload_n 0, 1) := by decide +kernel
theorem dX10_goOn_329 : decode cX10_goOn 329 = .ok (.invokevirtual 257, 3) := by decide +kernel
theorem dX10_goOn_332 : decode cX10_goOn 332 = .ok (.goto 70, 3) := by decide +kernel
theorem dX10_goOn_335 : decode cX10_goOn 335 = .ok (.aload_n 0, 1) := by decide +kernel
theorem dX10_goOn_336 : decode cX10_goOn 336 = .ok (.bipush 41, 2) := by decide +kernel
theorem dX10_goOn_338 : decode cX10_goOn 338 = .ok (.invokevirtual 241, 3) := by decide +kernel
theorem dX10_goOn_341 : decode cX10_goOn 341 = .ok (.ifCond .eq 61, 3) := by decide +kernel
theorem dX10_goOn_344 : decode cX10_goOn 344 = .ok (.iload_n 2, 1) := by decide +kernel
theorem dX10_goOn_345 : decode cX10_goOn 345 = .ok (.iconst 1, 1) := by decide +kernel
theorem dX10_goOn_346 : decode cX10_goOn 346 = .ok (.if_icmp .ne 10, 3) := by decide +kernel
theorem dX10_goOn_349 : decode cX10_goOn 349 = .ok (.aload_n 0, 1) := by decide +kernel
theorem dX10_goOn_350 : decode cX10_goOn 350 = .ok (.bipush 11, 2) := by decide +kernel
theorem dX10_goOn_352 : decode cX10_goOn 352 = .ok (.lconst 0, 1) := by decide +kernel
theorem dX10_goOn_353 : decode cX10_goOn 353 = .ok (.invokevirtual 233, 3) := by decide +kernel
theorem dX10_goOn_356 : decode cX10_goOn 356 = .ok (.iload_n 2, 1) := by decide +kernel
theorem dX10_goOn_357 : decode cX10_goOn 357 = .ok (.iconst 3, 1) := by decide +kernel
theorem dX10_goOn_358 : decode cX10_goOn 358 = .ok (.if_icmp .ne 24, 3) := by decide +kernel
theorem dX10_goOn_361 : decode cX10_goOn 361 = .ok (.aload_n 0, 1) := by decide +kernel
theorem dX10_goOn_362 : decode cX10_goOn 362 = .ok (.getfield 49, 3) := by decide +kernel
theorem dX10_goOn_365 : decode cX10_goOn 365 = .ok (.aload_n 0, 1) := by decide +kernel
theorem dX10_goOn_366 : decode cX10_goOn 366 = .ok (.getfield 73, 3) := by decide +kernel
theorem dX10_goOn_369 : decode cX10_goOn 369 = .ok (.aload_n 0, 1) := by decide +kernel
theorem dX10_goOn_370 : decode cX10_goOn 370 = .ok (.getfield 224, 3) := by decide +kernel
theorem dX10_goOn_373 : decode cX10_goOn 373 = .ok (.iconst 1, 1) := by decide +kernel
theorem dX10_goOn_374 : decode cX10_goOn 374 = .ok (.isub, 1) := by decide +kernel
theorem dX10_goOn_375 : decode cX10_goOn 375 = .ok (.iaload, 1) := by decide +kernel
theorem dX10_goOn_376 : decode cX10_goOn 376 = .ok (.aload_n 0, 1) := by decide +kernel
theorem dX10_goOn_377 : decode cX10_goOn 377 = .ok (.getfield 206, 3) := by decide +kernel
theorem dX10_goOn_380 : decode cX10_goOn 380 = .ok (.i2l, 1) := by decide +kernel
theorem dX10_goOn_381 : decode cX10_goOn 381 = .ok (.lastore, 1) := by decide +kernel
theorem dX10_goOn_382 : decode cX10_goOn 382 = .ok (.aload_n 0, 1) := by decide +kernel
theorem dX10_goOn_383 : decode cX10_goOn 383 = .ok (.dup, 1) := by decide +kernel
theorem dX10_goOn_384 : decode cX10_goOn 384 = .ok (.getfield 224, 3) := by decide +kernel
theorem dX10_goOn_387 : decode cX10_goOn 387 = .ok (.iconst 1, 1) := by decide +kernel
theorem dX10_goOn_388 : decode cX10_goOn 388 = .ok (.isub, 1) := by decide +kernel
theorem dX10_goOn_389 : decode cX10_goOn 389 = .ok (.putfield 224, 3) := by decide +kernel
theorem dX10_goOn_392 : decode cX10_goOn 392 = .ok (.aload_n 0, 1) := by decide +kernel
theorem dX10_goOn_393 : decode cX10_goOn 393 = .ok (.dup, 1) := by decide +kernel
theorem dX10_goOn_394 : decode cX10_goOn 394 = .ok (.getfield 230, 3) := by decide +kernel
theorem dX10_goOn_397 : decode cX10_goOn 397 = .ok (.iconst 1, 1) := by decide +kernel
theorem dX10_goOn_398 : decode cX10_goOn 398 = .ok (.isub, 1) := by decide +kernel
theorem dX10_goOn_399 : decode cX10_goOn 399 = .ok (.putfield 230, 3) := by decide +kernel
theorem dX10_goOn_402 : decode cX10_goOn 402 = .ok (.iconst 1, 1) := by decide +kernel
theorem dX10_goOn_403 : decode cX10_goOn 403 = .ok (.ireturn, 1) := by decide +kernel
theorem dX10_readSum_0 : decode cX10_readSum 0 = .ok (.aload_n 0, 1) := by decide +kernel
theorem dX10_readSum_1 : decode cX10_readSum 1 = .ok (.iconst 0, 1) := by decide +kernel
theorem dX10_readSum_2 : decode cX10_readSum 2 = .ok (.putfield 224, 3) := by decide +kernel
theorem dX10_readSum_5 : decode cX10_readSum 5 = .ok (.aload_n 0, 1) := by decide +kernel
theorem dX10_readSum_6 : decode cX10_readSum 6 = .ok (.iconst 0, 1) := by decide +kernel
theorem dX10_readSum_7 : decode cX10_readSum 7 = .ok (.putfield 227, 3) := by decide +kernel
theorem dX10_readSum_10 : decode cX10_readSum 10 = .ok (.aload_n 0, 1) := by decide +kernel
theorem dX10_readSum_11 : decode cX10_readSum 11 = .ok (.iconst 0, 1) := by decide +kernel
theorem dX10_readSum_12 : decode cX10_readSum 12 = .ok (.putfield 230, 3) := by decide +kernel
theorem dX10_readSum_15 : decode cX10_readSum 15 = .ok (.aload_n 0, 1) := by decide +kernel
theorem dX10_readSum_16 : decode cX10_readSum 16 = .ok (.invokevirtual 257, 3) := by decide +kernel
theorem dX10_readSum_19 : decode cX10_readSum 19 = .ok (.iconst 1, 1) := by decide +kernel
theorem dX10_readSum_20 : decode cX10_readSum 20 = .ok (.istore_n 1, 1) := by decide +kernel
theorem dX10_readSum_21 : decode cX10_readSum 21 = .ok (.iload_n 1, 1) := by decide +kernel
theorem dX10_readSum_22 : decode cX10_readSum 22 = .ok (.ifCond .eq 24, 3) := by decide +kernel
theorem dX10_readSum_25 : decode cX10_readSum 25 = .ok (.aload_n 0, 1) := by decide +kernel
theorem dX10_readSum_26 : decode cX10_readSum 26 = .ok (.getfield 196, 3) := by decide +kernel
theorem dX10_readSum_29 : decode cX10_readSum 29 = .ok (.bipush (-9), 2) := by decide +kernel
theorem dX10_readSum_31 : decode cX10_readSum 31 = .ok (.if_icmp .ne 15, 3) := by decide +kernel
theorem dX10_readSum_34 : decode cX10_readSum 34 = .ok (.aload_n 0, 1) := by decide +kernel
theorem dX10_readSum_35 : decode cX10_readSum 35 = .ok (.invokevirtual 263, 3) := by decide +kernel
theorem dX10_readSum_38 : decode cX10_readSum 38 = .ok (.aload_n 0, 1) := by decide +kernel
theorem dX10_readSum_39 : decode cX10_readSum 39 = .ok (.invokevirtual 266, 3) := by decide +kernel
theorem dX10_readSum_42 : decode cX10_readSum 42 = .ok (.istore_n 1, 1) := by decide +kernel
theorem dX10_readSum_43 : decode cX10_readSum 43 = .ok (.goto (-22), 3) := by decide +kernel
theorem dX10_readSum_46 : decode cX10_readSum 46 = .ok (.return_, 1) := by decide +kernel
theorem dX10_readTable_0 : decode cX10_readTable 0 = .ok (.aload_n 0, 1) := by decide +kernel
theorem dX10_readTable_1 : decode cX10_readTable 1 = .ok (.aload_n 0, 1) := by decide +kernel
theorem dX10_readTable_2 : decode cX10_readTable 2 = .ok (.getfield 212, 3) := by decide +kernel
theorem dX10_readTable_5 : decode cX10_readTable 5 = .ok (.bipush 12, 2) := by decide +kernel
theorem dX10_readTable_7 : decode cX10_readTable 7 = .ok (.if_icmp .ge 7, 3) := by decide +kernel
theorem dX10_readTable_10 : decode cX10_readTable 10 = .ok (.iconst 1, 1) := by decide +kernel
theorem dX10_readTable_11 : decode cX10_readTable 11 = .ok (.goto 4, 3) := by decide +kernel
theorem dX10_readTable_14 : decode cX10_readTable 14 = .ok (.iconst 0, 1) := by decide +kernel
theorem dX10_readTable_15 : decode cX10_readTable 15 = .ok (.invokevirtual 202, 3) := by decide +kernel
theorem dX10_readTable_18 : decode cX10_readTable 18 = .ok (.pop, 1) := by decide +kernel
theorem dX10_readTable_19 : decode cX10_readTable 19 = .ok (.aload_n 0, 1) := by decide +kernel
theorem dX10_readTable_20 : decode cX10_readTable 20 = .ok (.iconst 4, 1) := by decide +kernel
theorem dX10_readTable_21 : decode cX10_readTable 21 = .ok (.invokevirtual 241, 3) := by decide +kernel
theorem dX10_readTable_24 : decode cX10_readTable 24 = .ok (.ifCond .ne 4, 3) := by decide +kernel
theorem dX10_readTable_27 : decode cX10_readTable 27 = .ok (.return_, 1) := by decide +kernel
theorem dX10_readTable_28 : decode cX10_readTable 28 = .ok (.aload_n 0, 1) := by decide +kernel
theorem dX10_readTable_29 : decode cX10_readTable 29 = .ok (.aload_n 0, 1) := by decide +kernel
theorem dX10_readTable_30 : decode cX10_readTable 30 = .ok (.getfield 13, 3) := by decide +kernel
theorem dX10_readTable_33 : decode cX10_readTable 33 = .ok (.aload_n 0, 1) := by decide +kernel
theorem dX10_readTable_34 : decode cX10_readTable 34 = .ok (.getfield 199, 3) := by decide +kernel
theorem dX10_readTable_37 : decode cX10_readTable 37 = .ok (.iaload, 1) := by decide +kernel
theorem dX10_readTable_38 : decode cX10_readTable 38 = .ok (.iconst 2, 1) := by decide +kernel
theorem dX10_readTable_39 : decode cX10_readTable 39 = .ok (.if_icmp .ne 7, 3) := by decide +kernel
theorem dX10_readTable_42 : decode cX10_readTable 42 = .ok (.iconst 1, 1) := by decide +kernel
theorem dX10_readTable_43 : decode cX10_readTable 43 = .ok (.goto 4, 3) := by decide +kernel
theorem dX10_readTable_46 : decode cX10_readTable 46 = .ok (.iconst 0, 1) := by decide +kernel
theorem dX10_readTable_47 : decode cX10_readTable 47 = .ok (.invokevirtual 202, 3) := by decide +kernel
theorem dX10_readTable_50 : decode cX10_readTable 50 = .ok (.ifCond .eq 49, 3) := by decide +kernel
theorem dX10_readTable_53 : decode cX10_readTable 53 = .ok (.aload_n 0, 1) := by decide +kernel
theorem dX10_readTable_54 : decode cX10_readTable 54 = .ok (.getfield 24, 3) := by decide +kernel
theorem dX10_readTable_57 : decode cX10_readTable 57 = .ok (.aload_n 0, 1) := by decide +kernel
theorem dX10_readTable_58 : decode cX10_readTable 58 = .ok (.getfield 212, 3) := by decide +kernel
theorem dX10_readTable_61 : decode cX10_readTable 61 = .ok (.aload_n 0, 1) := by decide +kernel
theorem dX10_readTable_62 : decode cX10_readTable 62 = .ok (.getfield 20, 3) := by decide +kernel
theorem dX10_readTable_65 : decode cX10_readTable 65 = .ok (.aload_n 0, 1) := by decide +kernel
theorem dX10_readTable_66 : decode cX10_readTable 66 = .ok (.getfield 199, 3) := by decide +kernel
theorem dX10_readTable_69 : decode cX10_readTable 69 = .ok (.laload, 1) := by decide +kernel
theorem dX10_readTable_70 : decode cX10_readTable 70 = .ok (.lastore, 1) := by decide +kernel
theorem dX10_readTable_71 : decode cX10_readTable 71 = .ok (.aload_n 0, 1) := by decide +kernel
theorem dX10_readTable_72 : decode cX10_readTable 72 = .ok (.getfield 27, 3) := by decide +kernel
theorem dX10_readTable_75 : decode cX10_readTable 75 = .ok (.aload_n 0, 1) := by decide +kernel
theorem dX10_readTable_76 : decode cX10_readTable 76 = .ok (.getfield 212, 3) := by decide +kernel
theorem dX10_readTable_79 : decode cX10_readTable 79 = .ok (.aload_n 0, 1) := by decide +kernel
theorem dX10_readTable_80 : decode cX10_readTable 80 = .ok (.getfield 17, 3) := by decide +kernel
theorem dX10_readTable_83 : decode cX10_readTable 83 = .ok (.aload_n 0, 1) := by decide +kernel
theorem dX10_readTable_84 : decode cX10_readTable 84 = .ok (.getfield 199, 3) := by decide +kernel
theorem dX10_readTable_87 : decode cX10_readTable 87 = .ok (.iaload, 1) := by decide +kernel
theorem dX10_readTable_88 : decode cX10_readTable 88 = .ok (.iastore, 1) := by decide +kernel
theorem dX10_readTable_89 : decode cX10_readTable 89 = .ok (.aload_n 0, 1) := by decide +kernel
theorem dX10_readTable_90 : decode cX10_readTable 90 = .ok (.dup, 1) := by decide +kernel
theorem dX10_readTable_91 : decode cX10_readTable 91 = .ok (.getfield 199, 3) := by decide +kernel
theorem dX10_readTable_94 : decode cX10_readTable 94 = .ok (.iconst 1, 1) := by decide +kernel
theorem dX10_readTable_95 : decode cX10_readTable 95 = .ok (.iadd, 1) := by decide +kernel
theorem dX10_readTable_96 : decode cX10_readTable 96 = .ok (.putfield 199, 3) := by decide +kernel
theorem dX10_readTable_99 : decode cX10_readTable 99 = .ok (.aload_n 0, 1) := by decide +kernel
theorem dX10_readTable_100 : decode cX10_readTable 100 = .ok (.bipush 91, 2) := by decide +kernel
theorem dX10_readTable_102 : decode cX10_readTable 102 = .ok (.invokevirtual 241, 3) := by decide +kernel
theorem dX10_readTable_105 : decode cX10_readTable 105 = .ok (.pop, 1) := by decide +kernel
theorem dX10_readTable_106 : decode cX10_readTable 106 = .ok (.aload_n 0, 1) := by decide +kernel
theorem dX10_readTable_107 : decode cX10_readTable 107 = .ok (.getfield 196, 3) := by decide +kernel
theorem dX10_readTable_110 : decode cX10_readTable 110 = .ok (.bipush (-9), 2) := by decide +kernel
theorem dX10_readTable_112 : decode cX10_readTable 112 = .ok (.if_icmp .ne 7, 3) := by decide +kernel
theorem dX10_readTable_115 : decode cX10_readTable 115 = .ok (.aload_n 0, 1) := by decide +kernel
theorem dX10_readTable_116 : decode cX10_readTable 116 = .ok (.invokevirtual 270, 3) := by decide +kernel
theorem dX10_readTable_119 : decode cX10_readTable 119 = .ok (.aload_n 0, 1) := by decide +kernel
theorem dX10_readTable_120 : decode cX10_readTable 120 = .ok (.bipush 93, 2) := by decide +kernel
theorem dX10_readTable_122 : decode cX10_readTable 122 = .ok (.invokevirtual 241, 3) := by decide +kernel
theorem dX10_readTable_125 : decode cX10_readTable 125 = .ok (.pop, 1) := by decide +kernel
theorem dX10_readTable_126 : decode cX10_readTable 126 = .ok (.aload_n 0, 1) := by decide +kernel
theorem dX10_readTable_127 : decode cX10_readTable 127 = .ok (.getfield 30, 3) := by decide +kernel
theorem dX10_readTable_130 : decode cX10_readTable 130 = .ok (.aload_n 0, 1) := by decide +kernel
theorem dX10_readTable_131 : decode cX10_readTable 131 = .ok (.getfield 212, 3) := by decide +kernel
theorem dX10_readTable_134 : decode cX10_readTable 134 = .ok (.aload_n 0, 1) := by decide +kernel
theorem dX10_readTable_135 : decode cX10_readTable 135 = .ok (.getfield 13, 3) := by decide +kernel
theorem dX10_readTable_138 : decode cX10_readTable 138 = .ok (.aload_n 0, 1) := by decide +kernel
theorem dX10_readTable_139 : decode cX10_readTable 139 = .ok (.getfield 199, 3) := by decide +kernel
theorem dX10_readTable_142 : decode cX10_readTable 142 = .ok (.iaload, 1) := by decide +kernel
theorem dX10_readTable_143 : decode cX10_readTable 143 = .ok (.iconst 5, 1) := by decide +kernel
theorem dX10_readTable_144 : decode cX10_readTable 144 = .ok (.if_icmp .ne 7, 3) := by decide +kernel
theorem dX10_readTable_147 : decode cX10_readTable 147 = .ok (.iconst 1, 1) := by decide +kernel
theorem dX10_readTable_148 : decode cX10_readTable 148 = .ok (.goto 4, 3) := by decide +kernel
theorem dX10_readTable_151 : decode cX10_readTable 151 = .ok (.iconst 0, 1) := by decide +kernel
theorem dX10_readTable_152 : decode cX10_readTable 152 = .ok (.bastore, 1) := by decide +kernel
theorem dX10_readTable_153 : decode cX10_readTable 153 = .ok (.aload_n 0, 1) := by decide +kernel
theorem dX10_readTable_154 : decode cX10_readTable 154 = .ok (.aload_n 0, 1) := by decide +kernel
theorem dX10_readTable_155 : decode cX10_readTable 155 = .ok (.getfield 30, 3) := by decide +kernel
theorem dX10_readTable_158 : decode cX10_readTable 158 = .ok (.aload_n 0, 1) := by decide +kernel
theorem dX10_readTable_159 : decode cX10_readTable 159 = .ok (.getfield 212, 3) := by decide +kernel
theorem dX10_readTable_162 : decode cX10_readTable 162 = .ok (.baload, 1) := by decide +kernel
theorem dX10_readTable_163 : decode cX10_readTable 163 = .ok (.ifCond .ne 17, 3) := by decide +kernel
theorem dX10_readTable_166 : decode cX10_readTable 166 = .ok (.aload_n 0, 1) := by decide +kernel
theorem dX10_readTable_167 : decode cX10_readTable 167 = .ok (.getfield 13, 3) := by decide +kernel
theorem dX10_readTable_170 : decode cX10_readTable 170 = .ok (.aload_n 0, 1) := by decide +kernel
theorem dX10_readTable_171 : decode cX10_readTable 171 = .ok (.getfield 199, 3) := by decide +kernel
theorem dX10_readTable_174 : decode cX10_readTable 174 = .ok (.iaload, 1) := by decide +kernel
theorem dX10_readTable_175 : decode cX10_readTable 175 = .ok (.bipush 6, 2) := by decide +kernel
theorem dX10_readTable_177 : decode cX10_readTable 177 = .ok (.if_icmp .ne 7, 3) := by decide +kernel
theorem dX10_readTable_180 : decode cX10_readTable 180 = .ok (.iconst 1, 1) := by decide +kernel
theorem dX10_readTable_181 : decode cX10_readTable 181 = .ok (.goto 4, 3) := by decide +kernel
theorem dX10_readTable_184 : decode cX10_readTable 184 = .ok (.iconst 0, 1) := by decide +kernel
theorem dX10_readTable_185 : decode cX10_readTable 185 = .ok (.invokevirtual 202, 3) := by decide +kernel
theorem dX10_readTable_188 : decode cX10_readTable 188 = .ok (.ifCond .eq 13, 3) := by decide +kernel
theorem dX10_readTable_191 : decode cX10_readTable 191 = .ok (.aload_n 0, 1) := by decide +kernel
theorem dX10_readTable_192 : decode cX10_readTable 192 = .ok (.dup, 1) := by decide +kernel
theorem dX10_readTable_193 : decode cX10_readTable 193 = .ok (.getfield 199, 3) := by decide +kernel
theorem dX10_readTable_196 : decode cX10_readTable 196 = .ok (.iconst 1, 1) := by decide +kernel
theorem dX10_readTable_197 : decode cX10_readTable 197 = .ok (.iadd, 1) := by decide +kernel
theorem dX10_readTable_198 : decode cX10_readTable 198 = .ok (.putfield 199, 3) := by decide +kernel
theorem dX10_readTable_201 : decode cX10_readTable 201 = .ok (.aload_n 0, 1) := by decide +kernel
theorem dX10_readTable_202 : decode cX10_readTable 202 = .ok (.bipush 61, 2) := by decide +kernel
theorem dX10_readTable_204 : decode cX10_readTable 204 = .ok (.invokevirtual 241, 3) := by decide +kernel
theorem dX10_readTable_207 : decode cX10_readTable 207 = .ok (.pop, 1) := by decide +kernel
theorem dX10_readTable_208 : decode cX10_readTable 208 = .ok (.aload_n 0, 1) := by decide +kernel
theorem dX10_readTable_209 : decode cX10_readTable 209 = .ok (.getfield 40, 3) := by decide +kernel
theorem dX10_readTable_212 : decode cX10_readTable 212 = .ok (.aload_n 0, 1) := by decide +kernel
theorem dX10_readTable_213 : decode cX10_readTable 213 = .ok (.getfield 212, 3) := by decide +kernel
theorem dX10_readTable_216 : decode cX10_readTable 216 = .ok (.aload_n 0, 1) := by decide +kernel
theorem dX10_readTable_217 : decode cX10_readTable 217 = .ok (.getfield 206, 3) := by decide +kernel
theorem dX10_readTable_220 : decode cX10_readTable 220 = .ok (.iastore, 1) := by decide +kernel
theorem dX10_readTable_221 : decode cX10_readTable 221 = .ok (.aload_n 0, 1) := by decide +kernel
theorem dX10_readTable_222 : decode cX10_readTable 222 = .ok (.getfield 196, 3) := by decide +kernel
theorem dX10_readTable_225 : decode cX10_readTable 225 = .ok (.bipush (-9), 2) := by decide +kernel
theorem dX10_readTable_227 : decode cX10_readTable 227 = .ok (.if_icmp .ne 7, 3) := by decide +kernel
theorem dX10_readTable_230 : decode cX10_readTable 230 = .ok (.aload_n 0, 1) := by decide +kernel
theorem dX10_readTable_231 : decode cX10_readTable 231 = .ok (.invokevirtual 273, 3) := by decide +kernel
theorem dX10_readTable_234 : decode cX10_readTable 234 = .ok (.aload_n 0, 1) := by decide +kernel
theorem dX10_readTable_235 : decode cX10_readTable 235 = .ok (.getfield 40, 3) := by decide +kernel
theorem dX10_readTable_238 : decode cX10_readTable 238 = .ok (.aload_n 0, 1) := by decide +kernel
theorem dX10_readTable_239 : decode cX10_readTable 239 = .ok (.getfield 212, 3) := by decide +kernel
theorem dX10_readTable_242 : decode cX10_readTable 242 = .ok (.iconst 1, 1) := by decide +kernel
theorem dX10_readTable_243 : decode cX10_readTable 243 = .ok (.iadd, 1) := by decide +kernel
theorem dX10_readTable_244 : decode cX10_readTable 244 = .ok (.aload_n 0, 1) := by decide +kernel
theorem dX10_readTable_245 : decode cX10_readTable 245 = .ok (.getfield 206, 3) := by decide +kernel
theorem dX10_readTable_248 : decode cX10_readTable 248 = .ok (.iastore, 1) := by decide +kernel
theorem dX10_readTable_249 : decode cX10_readTable 249 = .ok (.aload_n 0, 1) := by decide +kernel
theorem dX10_readTable_250 : decode cX10_readTable 250 = .ok (.getfield 34, 3) := by decide +kernel
theorem dX10_readTable_253 : decode cX10_readTable 253 = .ok (.aload_n 0, 1) := by decide +kernel
theorem dX10_readTable_254 : decode cX10_readTable 254 = .ok (.getfield 212, 3) := by decide +kernel
theorem dX10_readTable_257 : decode cX10_readTable 257 = .ok (.aload_n 0, 1) := by decide +kernel
theorem dX10_readTable_258 : decode cX10_readTable 258 = .ok (.getfield 13, 3) := by decide +kernel
theorem dX10_readTable_261 : decode cX10_readTable 261 = .ok (.aload_n 0, 1) := by decide +kernel
theorem dX10_readTable_262 : decode cX10_readTable 262 = .ok (.getfield 199, 3) := by decide +kernel
theorem dX10_readTable_265 : decode cX10_readTable 265 = .ok (.iaload, 1) := by decide +kernel
theorem dX10_readTable_266 : decode cX10_readTable 266 = .ok (.bipush 7, 2) := by decide +kernel
theorem dX10_readTable_268 : decode cX10_readTable 268 = .ok (.if_icmp .ne 7, 3) := by decide +kernel
theorem dX10_readTable_271 : decode cX10_readTable 271 = .ok (.iconst 1, 1) := by decide +kernel
theorem dX10_readTable_272 : decode cX10_readTable 272 = .ok (.goto 4, 3) := by decide +kernel
theorem dX10_readTable_275 : decode cX10_readTable 275 = .ok (.iconst 0, 1) := by decide +kernel
theorem dX10_readTable_276 : decode cX10_readTable 276 = .ok (.bastore, 1) := by decide +kernel
theorem dX10_readTable_277 : decode cX10_readTable 277 = .ok (.aload_n 0, 1) := by decide +kernel
theorem dX10_readTable_278 : decode cX10_readTable 278 = .ok (.getfield 37, 3) := by decide +kernel
theorem dX10_readTable_281 : decode cX10_readTable 281 = .ok (.aload_n 0, 1) := by decide +kernel
theorem dX10_readTable_282 : decode cX10_readTable 282 = .ok (.getfield 212, 3) := by decide +kernel
theorem dX10_readTable_285 : decode cX10_readTable 285 = .ok (.lconst 0, 1) := by decide +kernel
theorem dX10_readTable_286 : decode cX10_readTable 286 = .ok (.lastore, 1) := by decide +kernel
theorem dX10_readTable_287 : decode cX10_readTable 287 = .ok (.aload_n 0, 1) := by decide +kernel
theorem dX10_readTable_288 : decode cX10_readTable 288 = .ok (.getfield 34, 3) := by decide +kernel
theorem dX10_readTable_291 : decode cX10_readTable 291 = .ok (.aload_n 0, 1) := by decide +kernel
theorem dX10_readTable_292 : decode cX10_readTable 292 = .ok (.getfield 212, 3) := by decide +kernel
theorem dX10_readTable_295 : decode cX10_readTable 295 = .ok (.baload, 1) := by decide +kernel
theorem dX10_readTable_296 : decode cX10_readTable 296 = .ok (.ifCond .eq 130, 3) := by decide +kernel
theorem dX10_readTable_299 : decode cX10_readTable 299 = .ok (.aload_n 0, 1) := by decide +kernel
theorem dX10_readTable_300 : decode cX10_readTable 300 = .ok (.getfield 196, 3) := by decide +kernel
theorem dX10_readTable_303 : decode cX10_readTable 303 = .ok (.bipush (-9), 2) := by decide +kernel
theorem dX10_readTable_305 : decode cX10_readTable 305 = .ok (.if_icmp .ne 121, 3) := by decide +kernel
theorem dX10_readTable_308 : decode cX10_readTable 308 = .ok (.aload_n 0, 1) := by decide +kernel
theorem dX10_readTable_309 : decode cX10_readTable 309 = .ok (.dup, 1) := by decide +kernel
theorem dX10_readTable_310 : decode cX10_readTable 310 = .ok (.getfield 199, 3) := by decide +kernel
theorem dX10_readTable_313 : decode cX10_readTable 313 = .ok (.iconst 1, 1) := by decide +kernel
theorem dX10_readTable_314 : decode cX10_readTable 314 = .ok (.iadd, 1) := by decide +kernel
theorem dX10_readTable_315 : decode cX10_readTable 315 = .ok (.putfield 199, 3) := by decide +kernel
theorem dX10_readTable_318 : decode cX10_readTable 318 = .ok (.aload_n 0, 1) := by decide +kernel
theorem dX10_readTable_319 : decode cX10_readTable 319 = .ok (.getfield 13, 3) := by decide +kernel
theorem dX10_readTable_322 : decode cX10_readTable 322 = .ok (.aload_n 0, 1) := by decide +kernel
theorem dX10_readTable_323 : decode cX10_readTable 323 = .ok (.getfield 199, 3) := by decide +kernel
theorem dX10_readTable_326 : decode cX10_readTable 326 = .ok (.iaload, 1) := by decide +kernel
theorem dX10_readTable_327 : decode cX10_readTable 327 = .ok (.bipush 45, 2) := by decide +kernel
theorem dX10_readTable_329 : decode cX10_readTable 329 = .ok (.if_icmp .ne 7, 3) := by decide +kernel
theorem dX10_readTable_332 : decode cX10_readTable 332 = .ok (.iconst 1, 1) := by decide +kernel
theorem dX10_readTable_333 : decode cX10_readTable 333 = .ok (.goto 4, 3) := by decide +kernel
theorem dX10_readTable_336 : decode cX10_readTable 336 = .ok (.iconst 0, 1) := by decide +kernel
theorem dX10_readTable_337 : decode cX10_readTable 337 = .ok (.istore_n 1, 1) := by decide +kernel
theorem dX10_readTable_338 : decode cX10_readTable 338 = .ok (.aload_n 0, 1) := by decide +kernel
theorem dX10_readTable_339 : decode cX10_readTable 339 = .ok (.dup, 1) := by decide +kernel
theorem dX10_readTable_340 : decode cX10_readTable 340 = .ok (.getfield 199, 3) := by decide +kernel
theorem dX10_readTable_343 : decode cX10_readTable 343 = .ok (.iload_n 1, 1) := by decide +kernel
theorem dX10_readTable_344 : decode cX10_readTable 344 = .ok (.ifCond .eq 7, 3) := by decide +kernel
theorem dX10_readTable_347 : decode cX10_readTable 347 = .ok (.iconst 1, 1) := by decide +kernel
theorem dX10_readTable_348 : decode cX10_readTable 348 = .ok (.goto 4, 3) := by decide +kernel
theorem dX10_readTable_351 : decode cX10_readTable 351 = .ok (.iconst 0, 1) := by decide +kernel
theorem dX10_readTable_352 : decode cX10_readTable 352 = .ok (.iadd, 1) := by decide +kernel
theorem dX10_readTable_353 : decode cX10_readTable 353 = .ok (.putfield 199, 3) := by decide +kernel
theorem dX10_readTable_356 : decode cX10_readTable 356 = .ok (.aload_n 0, 1) := by decide +kernel
theorem dX10_readTable_357 : decode cX10_readTable 357 = .ok (.aload_n 0, 1) := by decide +kernel
theorem dX10_readTable_358 : decode cX10_readTable 358 = .ok (.getfield 13, 3) := by decide +kernel
theorem dX10_readTable_361 : decode cX10_readTable 361 = .ok (.aload_n 0, 1) := by decide +kernel
theorem dX10_readTable_362 : decode cX10_readTable 362 = .ok (.getfield 199, 3) := by decide +kernel
theorem dX10_readTable_365 : decode cX10_readTable 365 = .ok (.iaload, 1) := by decide +kernel
theorem dX10_readTable_366 : decode cX10_readTable 366 = .ok (.iconst 1, 1) := by decide +kernel
theorem dX10_readTable_367 : decode cX10_readTable 367 = .ok (.if_icmp .ne 7, 3) := by decide +kernel
theorem dX10_readTable_370 : decode cX10_readTable 370 = .ok (.iconst 1, 1) := by decide +kernel
theorem dX10_readTable_371 : decode cX10_readTable 371 = .ok (.goto 4, 3) := by decide +kernel
theorem dX10_readTable_374 : decode cX10_readTable 374 = .ok (.iconst 0, 1) := by decide +kernel
theorem dX10_readTable_375 : decode cX10_readTable 375 = .ok (.invokevirtual 202, 3) := by decide +kernel
theorem dX10_readTable_378 : decode cX10_readTable 378 = .ok (.ifCond .eq 48, 3) := by decide +kernel
theorem dX10_readTable_381 : decode cX10_readTable 381 = .ok (.aload_n 0, 1) := by decide +kernel
theorem dX10_readTable_382 : decode cX10_readTable 382 = .ok (.getfield 37, 3) := by decide +kernel
theorem dX10_readTable_385 : decode cX10_readTable 385 = .ok (.aload_n 0, 1) := by decide +kernel
theorem dX10_readTable_386 : decode cX10_readTable 386 = .ok (.getfield 212, 3) := by decide +kernel
theorem dX10_readTable_389 : decode cX10_readTable 389 = .ok (.iload_n 1, 1) := by decide +kernel
theorem dX10_readTable_390 : decode cX10_readTable 390 = .ok (.ifCond .eq 16, 3) := by decide +kernel
theorem dX10_readTable_393 : decode cX10_readTable 393 = .ok (.aload_n 0, 1) := by decide +kernel
theorem dX10_readTable_394 : decode cX10_readTable 394 = .ok (.getfield 20, 3) := by decide +kernel
theorem dX10_readTable_397 : decode cX10_readTable 397 = .ok (.aload_n 0, 1) := by decide +kernel
theorem dX10_readTable_398 : decode cX10_readTable 398 = .ok (.getfield 199, 3) := by decide +kernel
theorem dX10_readTable_401 : decode cX10_readTable 401 = .ok (.laload, 1) := by decide +kernel
theorem dX10_readTable_402 : decode cX10_readTable 402 = .ok (.lneg, 1) := by decide +kernel
theorem dX10_readTable_403 : decode cX10_readTable 403 = .ok (.goto 12, 3) := by decide +kernel
theorem dX10_readTable_406 : decode cX10_readTable 406 = .ok (.aload_n 0, 1) := by decide +kernel
theorem dX10_readTable_407 : decode cX10_readTable 407 = .ok (.getfield 20, 3) := by decide +kernel
theorem dX10_readTable_410 : decode cX10_readTable 410 = .ok (.aload_n 0, 1) := by decide +kernel
theorem dX10_readTable_411 : decode cX10_readTable 411 = .ok (.getfield 199, 3) := by decide +kernel
theorem dX10_readTable_414 : decode cX10_readTable 414 = .ok (.laload, 1) := by decide +kernel
theorem dX10_readTable_415 : decode cX10_readTable 415 = .ok (.lastore, 1) := by decide +kernel
theorem dX10_readTable_416 : decode cX10_readTable 416 = .ok (.aload_n 0, 1) := by decide +kernel
theorem dX10_readTable_417 : decode cX10_readTable 417 = .ok (.dup, 1) := by decide +kernel
theorem dX10_readTable_418 : decode cX10_readTable 418 = .ok (.getfield 199, 3) := by decide +kernel
theorem dX10_readTable_421 : decode cX10_readTable 421 = .ok (.iconst 1, 1) := by decide +kernel
theorem dX10_readTable_422 : decode cX10_readTable 422 = .ok (.iadd, 1) := by decide +kernel
theorem dX10_readTable_423 : decode cX10_readTable 423 = .ok (.putfield 199, 3) := by decide +kernel
theorem dX10_readTable_426 : decode cX10_readTable 426 = .ok (.aload_n 0, 1) := by decide +kernel
theorem dX10_readTable_427 : decode cX10_readTable 427 = .ok (.bipush 59, 2) := by decide +kernel
theorem dX10_readTable_429 : decode cX10_readTable 429 = .ok (.invokevirtual 241, 3) := by decide +kernel
theorem dX10_readTable_432 : decode cX10_readTable 432 = .ok (.pop, 1) := by decide +kernel
theorem dX10_readTable_433 : decode cX10_readTable 433 = .ok (.aload_n 0, 1) := by decide +kernel
theorem dX10_readTable_434 : decode cX10_readTable 434 = .ok (.dup, 1) := by decide +kernel
theorem dX10_readTable_435 : decode cX10_readTable 435 = .ok (.getfield 212, 3) := by decide +kernel
theorem dX10_readTable_438 : decode cX10_readTable 438 = .ok (.iconst 1, 1) := by decide +kernel
theorem dX10_readTable_439 : decode cX10_readTable 439 = .ok (.iadd, 1) := by decide +kernel
theorem dX10_readTable_440 : decode cX10_readTable 440 = .ok (.putfield 212, 3) := by decide +kernel
theorem dX10_readTable_443 : decode cX10_readTable 443 = .ok (.return_, 1) := by decide +kernel
theorem dX10_tableOf_0 : decode cX10_tableOf 0 = .ok (.iconst 0, 1) := by decide +kernel
theorem dX10_tableOf_1 : decode cX10_tableOf 1 = .ok (.istore 4, 2) := by decide +kernel
theorem dX10_tableOf_3 : decode cX10_tableOf 3 = .ok (.iload 4, 2) := by decide +kernel
theorem dX10_tableOf_5 : decode cX10_tableOf 5 = .ok (.iload_n 3, 1) := by decide +kernel
theorem dX10_tableOf_6 : decode cX10_tableOf 6 = .ok (.if_icmp .ge 24, 3) := by decide +kernel
theorem dX10_tableOf_9 : decode cX10_tableOf 9 = .ok (.aload_n 0, 1) := by decide +kernel
theorem dX10_tableOf_10 : decode cX10_tableOf 10 = .ok (.getfield 24, 3) := by decide +kernel
theorem dX10_tableOf_13 : decode cX10_tableOf 13 = .ok (.iload 4, 2) := by decide +kernel
theorem dX10_tableOf_15 : decode cX10_tableOf 15 = .ok (.laload, 1) := by decide +kernel
theorem dX10_tableOf_16 : decode cX10_tableOf 16 = .ok (.lload_n 1, 1) := by decide +kernel
theorem dX10_tableOf_17 : decode cX10_tableOf 17 = .ok (.lcmp, 1) := by decide +kernel
theorem dX10_tableOf_18 : decode cX10_tableOf 18 = .ok (.ifCond .ne 6, 3) := by decide +kernel
theorem dX10_tableOf_21 : decode cX10_tableOf 21 = .ok (.iload 4, 2) := by decide +kernel
theorem dX10_tableOf_23 : decode cX10_tableOf 23 = .ok (.ireturn, 1) := by decide +kernel
theorem dX10_tableOf_24 : decode cX10_tableOf 24 = .ok (.iinc 4 1, 3) := by decide +kernel
theorem dX10_tableOf_27 : decode cX10_tableOf 27 = .ok (.goto (-24), 3) := by decide +kernel
theorem dX10_tableOf_30 : decode cX10_tableOf 30 = .ok (.bipush (-9), 2) := by decide +kernel
theorem dX10_tableOf_32 : decode cX10_tableOf 32 = .ok (.ireturn, 1) := by decide +kernel
theorem dX10_checkNames_0 : decode cX10_checkNames 0 = .ok (.sipush 9999, 3) := by decide +kernel
theorem dX10_checkNames_3 : decode cX10_checkNames 3 = .ok (.istore_n 1, 1) := by decide +kernel
theorem dX10_checkNames_4 : decode cX10_checkNames 4 = .ok (.iconst 0, 1) := by decide +kernel
theorem dX10_checkNames_5 : decode cX10_checkNames 5 = .ok (.istore_n 2, 1) := by decide +kernel
theorem dX10_checkNames_6 : decode cX10_checkNames 6 = .ok (.iload_n 2, 1) := by decide +kernel
theorem dX10_checkNames_7 : decode cX10_checkNames 7 = .ok (.aload_n 0, 1) := by decide +kernel
theorem dX10_checkNames_8 : decode cX10_checkNames 8 = .ok (.getfield 212, 3) := by decide +kernel
theorem dX10_checkNames_11 : decode cX10_checkNames 11 = .ok (.if_icmp .ge 56, 3) := by decide +kernel
theorem dX10_checkNames_14 : decode cX10_checkNames 14 = .ok (.aload_n 0, 1) := by decide +kernel
theorem dX10_checkNames_15 : decode cX10_checkNames 15 = .ok (.aload_n 0, 1) := by decide +kernel
theorem dX10_checkNames_16 : decode cX10_checkNames 16 = .ok (.getfield 24, 3) := by decide +kernel
theorem dX10_checkNames_19 : decode cX10_checkNames 19 = .ok (.iload_n 2, 1) := by decide +kernel
theorem dX10_checkNames_20 : decode cX10_checkNames 20 = .ok (.laload, 1) := by decide +kernel
theorem dX10_checkNames_21 : decode cX10_checkNames 21 = .ok (.iload_n 2, 1) := by decide +kernel
theorem dX10_checkNames_22 : decode cX10_checkNames 22 = .ok (.invokevirtual 276, 3) := by decide +kernel
theorem dX10_checkNames_25 : decode cX10_checkNames 25 = .ok (.bipush (-9), 2) := by decide +kernel
theorem dX10_checkNames_27 : decode cX10_checkNames 27 = .ok (.if_icmp .eq 7, 3) := by decide +kernel
theorem dX10_checkNames_30 : decode cX10_checkNames 30 = .ok (.iconst 1, 1) := by decide +kernel
theorem dX10_checkNames_31 : decode cX10_checkNames 31 = .ok (.goto 4, 3) := by decide +kernel
theorem dX10_checkNames_34 : decode cX10_checkNames 34 = .ok (.iconst 0, 1) := by decide +kernel
theorem dX10_checkNames_35 : decode cX10_checkNames 35 = .ok (.istore_n 3, 1) := by decide +kernel
theorem dX10_checkNames_36 : decode cX10_checkNames 36 = .ok (.iload_n 3, 1) := by decide +kernel
theorem dX10_checkNames_37 : decode cX10_checkNames 37 = .ok (.ifCond .eq 22, 3) := by decide +kernel
theorem dX10_checkNames_40 : decode cX10_checkNames 40 = .ok (.aload_n 0, 1) := by decide +kernel
theorem dX10_checkNames_41 : decode cX10_checkNames 41 = .ok (.getfield 27, 3) := by decide +kernel
theorem dX10_checkNames_44 : decode cX10_checkNames 44 = .ok (.iload_n 2, 1) := by decide +kernel
theorem dX10_checkNames_45 : decode cX10_checkNames 45 = .ok (.iaload, 1) := by decide +kernel
theorem dX10_checkNames_46 : decode cX10_checkNames 46 = .ok (.iload_n 1, 1) := by decide +kernel
theorem dX10_checkNames_47 : decode cX10_checkNames 47 = .ok (.if_icmp .ge 12, 3) := by decide +kernel
theorem dX10_checkNames_50 : decode cX10_checkNames 50 = .ok (.aload_n 0, 1) := by decide +kernel
theorem dX10_checkNames_51 : decode cX10_checkNames 51 = .ok (.getfield 27, 3) := by decide +kernel
theorem dX10_checkNames_54 : decode cX10_checkNames 54 = .ok (.iload_n 2, 1) := by decide +kernel
theorem dX10_checkNames_55 : decode cX10_checkNames 55 = .ok (.iaload, 1) := by decide +kernel
theorem dX10_checkNames_56 : decode cX10_checkNames 56 = .ok (.goto 4, 3) := by decide +kernel
theorem dX10_checkNames_59 : decode cX10_checkNames 59 = .ok (.iload_n 1, 1) := by decide +kernel
theorem dX10_checkNames_60 : decode cX10_checkNames 60 = .ok (.istore_n 1, 1) := by decide +kernel
theorem dX10_checkNames_61 : decode cX10_checkNames 61 = .ok (.iinc 2 1, 3) := by decide +kernel
theorem dX10_checkNames_64 : decode cX10_checkNames 64 = .ok (.goto (-58), 3) := by decide +kernel
theorem dX10_checkNames_67 : decode cX10_checkNames 67 = .ok (.iconst 0, 1) := by decide +kernel
theorem dX10_checkNames_68 : decode cX10_checkNames 68 = .ok (.istore_n 2, 1) := by decide +kernel
theorem dX10_checkNames_69 : decode cX10_checkNames 69 = .ok (.iload_n 2, 1) := by decide +kernel
theorem dX10_checkNames_70 : decode cX10_checkNames 70 = .ok (.aload_n 0, 1) := by decide +kernel
theorem dX10_checkNames_71 : decode cX10_checkNames 71 = .ok (.getfield 209, 3) := by decide +kernel
theorem dX10_checkNames_74 : decode cX10_checkNames 74 = .ok (.if_icmp .ge 84, 3) := by decide +kernel
theorem dX10_checkNames_77 : decode cX10_checkNames 77 = .ok (.aload_n 0, 1) := by decide +kernel
theorem dX10_checkNames_78 : decode cX10_checkNames 78 = .ok (.aload_n 0, 1) := by decide +kernel
theorem dX10_checkNames_79 : decode cX10_checkNames 79 = .ok (.getfield 20, 3) := by decide +kernel
theorem dX10_checkNames_82 : decode cX10_checkNames 82 = .ok (.aload_n 0, 1) := by decide +kernel
theorem dX10_checkNames_83 : decode cX10_checkNames 83 = .ok (.getfield 58, 3) := by decide +kernel
theorem dX10_checkNames_86 : decode cX10_checkNames 86 = .ok (.iload_n 2, 1) := by decide +kernel
theorem dX10_checkNames_87 : decode cX10_checkNames 87 = .ok (.iaload, 1) := by decide +kernel
theorem dX10_checkNames_88 : decode cX10_checkNames 88 = .ok (.laload, 1) := by decide +kernel
theorem dX10_checkNames_89 : decode cX10_checkNames 89 = .ok (.aload_n 0, 1) := by decide +kernel
theorem dX10_checkNames_90 : decode cX10_checkNames 90 = .ok (.getfield 64, 3) := by decide +kernel
theorem dX10_checkNames_93 : decode cX10_checkNames 93 = .ok (.iload_n 2, 1) := by decide +kernel
theorem dX10_checkNames_94 : decode cX10_checkNames 94 = .ok (.baload, 1) := by decide +kernel
theorem dX10_checkNames_95 : decode cX10_checkNames 95 = .ok (.ifCond .eq 12, 3) := by decide +kernel
theorem dX10_checkNames_98 : decode cX10_checkNames 98 = .ok (.aload_n 0, 1) := by decide +kernel
theorem dX10_checkNames_99 : decode cX10_checkNames 99 = .ok (.getfield 61, 3) := by decide +kernel
theorem dX10_checkNames_102 : decode cX10_checkNames 102 = .ok (.iload_n 2, 1) := by decide +kernel
theorem dX10_checkNames_103 : decode cX10_checkNames 103 = .ok (.iaload, 1) := by decide +kernel
theorem dX10_checkNames_104 : decode cX10_checkNames 104 = .ok (.goto 7, 3) := by decide +kernel
theorem dX10_checkNames_107 : decode cX10_checkNames 107 = .ok (.aload_n 0, 1) := by decide +kernel
theorem dX10_checkNames_108 : decode cX10_checkNames 108 = .ok (.getfield 212, 3) := by decide +kernel
theorem dX10_checkNames_111 : decode cX10_checkNames 111 = .ok (.invokevirtual 276, 3) := by decide +kernel
theorem dX10_checkNames_114 : decode cX10_checkNames 114 = .ok (.istore_n 3, 1) := by decide +kernel
theorem dX10_checkNames_115 : decode cX10_checkNames 115 = .ok (.iload_n 3, 1) := by decide +kernel
theorem dX10_checkNames_116 : decode cX10_checkNames 116 = .ok (.bipush (-9), 2) := by decide +kernel
theorem dX10_checkNames_118 : decode cX10_checkNames 118 = .ok (.if_icmp .ne 32, 3) := by decide +kernel
theorem dX10_checkNames_121 : decode cX10_checkNames 121 = .ok (.aload_n 0, 1) := by decide +kernel
theorem dX10_checkNames_122 : decode cX10_checkNames 122 = .ok (.getfield 17, 3) := by decide +kernel
theorem dX10_checkNames_125 : decode cX10_checkNames 125 = .ok (.aload_n 0, 1) := by decide +kernel
theorem dX10_checkNames_126 : decode cX10_checkNames 126 = .ok (.getfield 58, 3) := by decide +kernel
theorem dX10_checkNames_129 : decode cX10_checkNames 129 = .ok (.iload_n 2, 1) := by decide +kernel
theorem dX10_checkNames_130 : decode cX10_checkNames 130 = .ok (.iaload, 1) := by decide +kernel
theorem dX10_checkNames_131 : decode cX10_checkNames 131 = .ok (.iaload, 1) := by decide +kernel
theorem dX10_checkNames_132 : decode cX10_checkNames 132 = .ok (.iload_n 1, 1) := by decide +kernel
theorem dX10_checkNames_133 : decode cX10_checkNames 133 = .ok (.if_icmp .ge 17, 3) := by decide +kernel
theorem dX10_checkNames_136 : decode cX10_checkNames 136 = .ok (.aload_n 0, 1) := by decide +kernel
theorem dX10_checkNames_137 : decode cX10_checkNames 137 = .ok (.getfield 17, 3) := by decide +kernel
theorem dX10_checkNames_140 : decode cX10_checkNames 140 = .ok (.aload_n 0, 1) := by decide +kernel
theorem dX10_checkNames_141 : decode cX10_checkNames 141 = .ok (.getfield 58, 3) := by decide +kernel
theorem dX10_checkNames_144 : decode cX10_checkNames 144 = .ok (.iload_n 2, 1) := by decide +kernel
theorem dX10_checkNames_145 : decode cX10_checkNames 145 = .ok (.iaload, 1) := by decide +kernel
theorem dX10_checkNames_146 : decode cX10_checkNames 146 = .ok (.iaload, 1) := by decide +kernel
theorem dX10_checkNames_147 : decode cX10_checkNames 147 = .ok (.goto 4, 3) := by decide +kernel
theorem dX10_checkNames_150 : decode cX10_checkNames 150 = .ok (.iload_n 1, 1) := by decide +kernel
theorem dX10_checkNames_151 : decode cX10_checkNames 151 = .ok (.istore_n 1, 1) := by decide +kernel
theorem dX10_checkNames_152 : decode cX10_checkNames 152 = .ok (.iinc 2 1, 3) := by decide +kernel
theorem dX10_checkNames_155 : decode cX10_checkNames 155 = .ok (.goto (-86), 3) := by decide +kernel
theorem dX10_checkNames_158 : decode cX10_checkNames 158 = .ok (.iload_n 1, 1) := by decide +kernel
theorem dX10_checkNames_159 : decode cX10_checkNames 159 = .ok (.sipush 9999, 3) := by decide +kernel
theorem dX10_checkNames_162 : decode cX10_checkNames 162 = .ok (.if_icmp .ge 17, 3) := by decide +kernel
theorem dX10_checkNames_165 : decode cX10_checkNames 165 = .ok (.aload_n 0, 1) := by decide +kernel
theorem dX10_checkNames_166 : decode cX10_checkNames 166 = .ok (.getfield 196, 3) := by decide +kernel
theorem dX10_checkNames_169 : decode cX10_checkNames 169 = .ok (.bipush (-9), 2) := by decide +kernel
theorem dX10_checkNames_171 : decode cX10_checkNames 171 = .ok (.if_icmp .ne 8, 3) := by decide +kernel
theorem dX10_checkNames_174 : decode cX10_checkNames 174 = .ok (.aload_n 0, 1) := by decide +kernel
theorem dX10_checkNames_175 : decode cX10_checkNames 175 = .ok (.iload_n 1, 1) := by decide +kernel
theorem dX10_checkNames_176 : decode cX10_checkNames 176 = .ok (.putfield 196, 3) := by decide +kernel
theorem dX10_checkNames_179 : decode cX10_checkNames 179 = .ok (.return_, 1) := by decide +kernel
theorem dX10_read_0 : decode cX10_read 0 = .ok (.aload_n 0, 1) := by decide +kernel
theorem dX10_read_1 : decode cX10_read 1 = .ok (.invokevirtual 280, 3) := by decide +kernel
theorem dX10_read_4 : decode cX10_read 4 = .ok (.aload_n 0, 1) := by decide +kernel
theorem dX10_read_5 : decode cX10_read 5 = .ok (.iconst 0, 1) := by decide +kernel
theorem dX10_read_6 : decode cX10_read 6 = .ok (.putfield 199, 3) := by decide +kernel
theorem dX10_read_9 : decode cX10_read 9 = .ok (.aload_n 0, 1) := by decide +kernel
theorem dX10_read_10 : decode cX10_read 10 = .ok (.bipush (-9), 2) := by decide +kernel
theorem dX10_read_12 : decode cX10_read 12 = .ok (.putfield 196, 3) := by decide +kernel
theorem dX10_read_15 : decode cX10_read 15 = .ok (.aload_n 0, 1) := by decide +kernel
theorem dX10_read_16 : decode cX10_read 16 = .ok (.iconst 0, 1) := by decide +kernel
theorem dX10_read_17 : decode cX10_read 17 = .ok (.putfield 212, 3) := by decide +kernel
theorem dX10_read_20 : decode cX10_read 20 = .ok (.aload_n 0, 1) := by decide +kernel
theorem dX10_read_21 : decode cX10_read 21 = .ok (.iconst 0, 1) := by decide +kernel
theorem dX10_read_22 : decode cX10_read 22 = .ok (.putfield 206, 3) := by decide +kernel
theorem dX10_read_25 : decode cX10_read 25 = .ok (.aload_n 0, 1) := by decide +kernel
theorem dX10_read_26 : decode cX10_read 26 = .ok (.iconst 0, 1) := by decide +kernel
theorem dX10_read_27 : decode cX10_read 27 = .ok (.putfield 215, 3) := by decide +kernel
theorem dX10_read_30 : decode cX10_read 30 = .ok (.aload_n 0, 1) := by decide +kernel
theorem dX10_read_31 : decode cX10_read 31 = .ok (.iconst 0, 1) := by decide +kernel
theorem dX10_read_32 : decode cX10_read 32 = .ok (.putfield 209, 3) := by decide +kernel
theorem dX10_read_35 : decode cX10_read 35 = .ok (.iconst 1, 1) := by decide +kernel
theorem dX10_read_36 : decode cX10_read 36 = .ok (.istore_n 1, 1) := by decide +kernel
theorem dX10_read_37 : decode cX10_read 37 = .ok (.iload_n 1, 1) := by decide +kernel
theorem dX10_read_38 : decode cX10_read 38 = .ok (.ifCond .eq 37, 3) := by decide +kernel
theorem dX10_read_41 : decode cX10_read 41 = .ok (.aload_n 0, 1) := by decide +kernel
theorem dX10_read_42 : decode cX10_read 42 = .ok (.getfield 196, 3) := by decide +kernel
theorem dX10_read_45 : decode cX10_read 45 = .ok (.bipush (-9), 2) := by decide +kernel
theorem dX10_read_47 : decode cX10_read 47 = .ok (.if_icmp .ne 28, 3) := by decide +kernel
theorem dX10_read_50 : decode cX10_read 50 = .ok (.aload_n 0, 1) := by decide +kernel
theorem dX10_read_51 : decode cX10_read 51 = .ok (.invokevirtual 283, 3) := by decide +kernel
theorem dX10_read_54 : decode cX10_read 54 = .ok (.aload_n 0, 1) := by decide +kernel
theorem dX10_read_55 : decode cX10_read 55 = .ok (.getfield 13, 3) := by decide +kernel
theorem dX10_read_58 : decode cX10_read 58 = .ok (.aload_n 0, 1) := by decide +kernel
theorem dX10_read_59 : decode cX10_read 59 = .ok (.getfield 199, 3) := by decide +kernel
theorem dX10_read_62 : decode cX10_read 62 = .ok (.iaload, 1) := by decide +kernel
theorem dX10_read_63 : decode cX10_read 63 = .ok (.ifCond .eq 7, 3) := by decide +kernel
theorem dX10_read_66 : decode cX10_read 66 = .ok (.iconst 1, 1) := by decide +kernel
theorem dX10_read_67 : decode cX10_read 67 = .ok (.goto 4, 3) := by decide +kernel
theorem dX10_read_70 : decode cX10_read 70 = .ok (.iconst 0, 1) := by decide +kernel
theorem dX10_read_71 : decode cX10_read 71 = .ok (.istore_n 1, 1) := by decide +kernel
theorem dX10_read_72 : decode cX10_read 72 = .ok (.goto (-35), 3) := by decide +kernel
theorem dX10_read_75 : decode cX10_read 75 = .ok (.aload_n 0, 1) := by decide +kernel
theorem dX10_read_76 : decode cX10_read 76 = .ok (.getfield 196, 3) := by decide +kernel
theorem dX10_read_79 : decode cX10_read 79 = .ok (.bipush (-9), 2) := by decide +kernel
theorem dX10_read_81 : decode cX10_read 81 = .ok (.if_icmp .ne 7, 3) := by decide +kernel
theorem dX10_read_84 : decode cX10_read 84 = .ok (.aload_n 0, 1) := by decide +kernel
theorem dX10_read_85 : decode cX10_read 85 = .ok (.invokevirtual 286, 3) := by decide +kernel
theorem dX10_read_88 : decode cX10_read 88 = .ok (.aload_n 0, 1) := by decide +kernel
theorem dX10_read_89 : decode cX10_read 89 = .ok (.getfield 196, 3) := by decide +kernel
theorem dX10_read_92 : decode cX10_read 92 = .ok (.bipush (-9), 2) := by decide +kernel
theorem dX10_read_94 : decode cX10_read 94 = .ok (.if_icmp .eq 11, 3) := by decide +kernel
theorem dX10_read_97 : decode cX10_read 97 = .ok (.bipush (-100), 2) := by decide +kernel
theorem dX10_read_99 : decode cX10_read 99 = .ok (.aload_n 0, 1) := by decide +kernel
theorem dX10_read_100 : decode cX10_read 100 = .ok (.getfield 196, 3) := by decide +kernel
theorem dX10_read_103 : decode cX10_read 103 = .ok (.isub, 1) := by decide +kernel
theorem dX10_read_104 : decode cX10_read 104 = .ok (.ireturn, 1) := by decide +kernel
theorem dX10_read_105 : decode cX10_read 105 = .ok (.aload_n 0, 1) := by decide +kernel
theorem dX10_read_106 : decode cX10_read 106 = .ok (.aload_n 0, 1) := by decide +kernel
theorem dX10_read_107 : decode cX10_read 107 = .ok (.getfield 212, 3) := by decide +kernel
theorem dX10_read_110 : decode cX10_read 110 = .ok (.putfield 289, 3) := by decide +kernel
theorem dX10_read_113 : decode cX10_read 113 = .ok (.iconst 0, 1) := by decide +kernel
theorem dX10_read_114 : decode cX10_read 114 = .ok (.istore_n 2, 1) := by decide +kernel
theorem dX10_read_115 : decode cX10_read 115 = .ok (.iload_n 2, 1) := by decide +kernel
theorem dX10_read_116 : decode cX10_read 116 = .ok (.aload_n 0, 1) := by decide +kernel
theorem dX10_read_117 : decode cX10_read 117 = .ok (.getfield 212, 3) := by decide +kernel
theorem dX10_read_120 : decode cX10_read 120 = .ok (.if_icmp .ge 87, 3) := by decide +kernel
theorem dX10_read_123 : decode cX10_read 123 = .ok (.aload_n 0, 1) := by decide +kernel
theorem dX10_read_124 : decode cX10_read 124 = .ok (.getfield 76, 3) := by decide +kernel
theorem dX10_read_127 : decode cX10_read 127 = .ok (.iload_n 2, 1) := by decide +kernel
theorem dX10_read_128 : decode cX10_read 128 = .ok (.aload_n 0, 1) := by decide +kernel
theorem dX10_read_129 : decode cX10_read 129 = .ok (.getfield 24, 3) := by decide +kernel
theorem dX10_read_132 : decode cX10_read 132 = .ok (.iload_n 2, 1) := by decide +kernel
theorem dX10_read_133 : decode cX10_read 133 = .ok (.laload, 1) := by decide +kernel
theorem dX10_read_134 : decode cX10_read 134 = .ok (.lastore, 1) := by decide +kernel
theorem dX10_read_135 : decode cX10_read 135 = .ok (.aload_n 0, 1) := by decide +kernel
theorem dX10_read_136 : decode cX10_read 136 = .ok (.getfield 79, 3) := by decide +kernel
theorem dX10_read_139 : decode cX10_read 139 = .ok (.iload_n 2, 1) := by decide +kernel
theorem dX10_read_140 : decode cX10_read 140 = .ok (.aload_n 0, 1) := by decide +kernel
theorem dX10_read_141 : decode cX10_read 141 = .ok (.getfield 30, 3) := by decide +kernel
theorem dX10_read_144 : decode cX10_read 144 = .ok (.iload_n 2, 1) := by decide +kernel
theorem dX10_read_145 : decode cX10_read 145 = .ok (.baload, 1) := by decide +kernel
theorem dX10_read_146 : decode cX10_read 146 = .ok (.bastore, 1) := by decide +kernel
theorem dX10_read_147 : decode cX10_read 147 = .ok (.aload_n 0, 1) := by decide +kernel
theorem dX10_read_148 : decode cX10_read 148 = .ok (.getfield 82, 3) := by decide +kernel
theorem dX10_read_151 : decode cX10_read 151 = .ok (.iload_n 2, 1) := by decide +kernel
theorem dX10_read_152 : decode cX10_read 152 = .ok (.aload_n 0, 1) := by decide +kernel
theorem dX10_read_153 : decode cX10_read 153 = .ok (.getfield 34, 3) := by decide +kernel
theorem dX10_read_156 : decode cX10_read 156 = .ok (.iload_n 2, 1) := by decide +kernel
theorem dX10_read_157 : decode cX10_read 157 = .ok (.baload, 1) := by decide +kernel
theorem dX10_read_158 : decode cX10_read 158 = .ok (.bastore, 1) := by decide +kernel
theorem dX10_read_159 : decode cX10_read 159 = .ok (.aload_n 0, 1) := by decide +kernel
theorem dX10_read_160 : decode cX10_read 160 = .ok (.getfield 85, 3) := by decide +kernel
theorem dX10_read_163 : decode cX10_read 163 = .ok (.iload_n 2, 1) := by decide +kernel
theorem dX10_read_164 : decode cX10_read 164 = .ok (.aload_n 0, 1) := by decide +kernel
theorem dX10_read_165 : decode cX10_read 165 = .ok (.getfield 37, 3) := by decide +kernel
theorem dX10_read_168 : decode cX10_read 168 = .ok (.iload_n 2, 1) := by decide +kernel
theorem dX10_read_169 : decode cX10_read 169 = .ok (.laload, 1) := by decide +kernel
theorem dX10_read_170 : decode cX10_read 170 = .ok (.lastore, 1) := by decide +kernel
theorem dX10_read_171 : decode cX10_read 171 = .ok (.aload_n 0, 1) := by decide +kernel
theorem dX10_read_172 : decode cX10_read 172 = .ok (.getfield 91, 3) := by decide +kernel
theorem dX10_read_175 : decode cX10_read 175 = .ok (.iload_n 2, 1) := by decide +kernel
theorem dX10_read_176 : decode cX10_read 176 = .ok (.aload_n 0, 1) := by decide +kernel
theorem dX10_read_177 : decode cX10_read 177 = .ok (.getfield 40, 3) := by decide +kernel
theorem dX10_read_180 : decode cX10_read 180 = .ok (.iload_n 2, 1) := by decide +kernel
theorem dX10_read_181 : decode cX10_read 181 = .ok (.iaload, 1) := by decide +kernel
theorem dX10_read_182 : decode cX10_read 182 = .ok (.iastore, 1) := by decide +kernel
theorem dX10_read_183 : decode cX10_read 183 = .ok (.aload_n 0, 1) := by decide +kernel
theorem dX10_read_184 : decode cX10_read 184 = .ok (.getfield 88, 3) := by decide +kernel
theorem dX10_read_187 : decode cX10_read 187 = .ok (.iload_n 2, 1) := by decide +kernel
theorem dX10_read_188 : decode cX10_read 188 = .ok (.aload_n 0, 1) := by decide +kernel
theorem dX10_read_189 : decode cX10_read 189 = .ok (.iload_n 2, 1) := by decide +kernel
theorem dX10_read_190 : decode cX10_read 190 = .ok (.invokevirtual 292, 3) := by decide +kernel
theorem dX10_read_193 : decode cX10_read 193 = .ok (.lastore, 1) := by decide +kernel
theorem dX10_read_194 : decode cX10_read 194 = .ok (.aload_n 0, 1) := by decide +kernel
theorem dX10_read_195 : decode cX10_read 195 = .ok (.getfield 100, 3) := by decide +kernel
theorem dX10_read_198 : decode cX10_read 198 = .ok (.iload_n 2, 1) := by decide +kernel
theorem dX10_read_199 : decode cX10_read 199 = .ok (.iconst 0, 1) := by decide +kernel
theorem dX10_read_200 : decode cX10_read 200 = .ok (.iastore, 1) := by decide +kernel
theorem dX10_read_201 : decode cX10_read 201 = .ok (.iinc 2 1, 3) := by decide +kernel
theorem dX10_read_204 : decode cX10_read 204 = .ok (.goto (-89), 3) := by decide +kernel
theorem dX10_read_207 : decode cX10_read 207 = .ok (.aload_n 0, 1) := by decide +kernel
theorem dX10_read_208 : decode cX10_read 208 = .ok (.getfield 91, 3) := by decide +kernel
theorem dX10_read_211 : decode cX10_read 211 = .ok (.aload_n 0, 1) := by decide +kernel
theorem dX10_read_212 : decode cX10_read 212 = .ok (.getfield 212, 3) := by decide +kernel
theorem dX10_read_215 : decode cX10_read 215 = .ok (.aload_n 0, 1) := by decide +kernel
theorem dX10_read_216 : decode cX10_read 216 = .ok (.getfield 206, 3) := by decide +kernel
theorem dX10_read_219 : decode cX10_read 219 = .ok (.iastore, 1) := by decide +kernel
theorem dX10_read_220 : decode cX10_read 220 = .ok (.iconst 0, 1) := by decide +kernel
theorem dX10_read_221 : decode cX10_read 221 = .ok (.istore_n 2, 1) := by decide +kernel
theorem dX10_read_222 : decode cX10_read 222 = .ok (.iload_n 2, 1) := by decide +kernel
theorem dX10_read_223 : decode cX10_read 223 = .ok (.aload_n 0, 1) := by decide +kernel
theorem dX10_read_224 : decode cX10_read 224 = .ok (.getfield 206, 3) := by decide +kernel
theorem dX10_read_227 : decode cX10_read 227 = .ok (.if_icmp .ge 87, 3) := by decide +kernel
theorem dX10_read_230 : decode cX10_read 230 = .ok (.aload_n 0, 1) := by decide +kernel
theorem dX10_read_231 : decode cX10_read 231 = .ok (.getfield 46, 3) := by decide +kernel
theorem dX10_read_234 : decode cX10_read 234 = .ok (.iload_n 2, 1) := by decide +kernel
theorem dX10_read_235 : decode cX10_read 235 = .ok (.iaload, 1) := by decide +kernel
theorem dX10_read_236 : decode cX10_read 236 = .ok (.iconst 3, 1) := by decide +kernel
theorem dX10_read_237 : decode cX10_read 237 = .ok (.if_icmp .eq 13, 3) := by decide +kernel
theorem dX10_read_240 : decode cX10_read 240 = .ok (.aload_n 0, 1) := by decide +kernel
theorem dX10_read_241 : decode cX10_read 241 = .ok (.getfield 46, 3) := by decide +kernel
theorem dX10_read_244 : decode cX10_read 244 = .ok (.iload_n 2, 1) := by decide +kernel
theorem dX10_read_245 : decode cX10_read 245 = .ok (.iaload, 1) := by decide +kernel
theorem dX10_read_246 : decode cX10_read 246 = .ok (.iconst 4, 1) := by decide +kernel
theorem dX10_read_247 : decode cX10_read 247 = .ok (.if_icmp .ne 7, 3) := by decide +kernel
theorem dX10_read_250 : decode cX10_read 250 = .ok (.iconst 1, 1) := by decide +kernel
theorem dX10_read_251 : decode cX10_read 251 = .ok (.goto 4, 3) := by decide +kernel
theorem dX10_read_254 : decode cX10_read 254 = .ok (.iconst 0, 1) := by decide +kernel
theorem dX10_read_255 : decode cX10_read 255 = .ok (.istore_n 3, 1) := by decide +kernel
theorem dX10_read_256 : decode cX10_read 256 = .ok (.aload_n 0, 1) := by decide +kernel
theorem dX10_read_257 : decode cX10_read 257 = .ok (.getfield 94, 3) := by decide +kernel
theorem dX10_read_260 : decode cX10_read 260 = .ok (.iload_n 2, 1) := by decide +kernel
theorem dX10_read_261 : decode cX10_read 261 = .ok (.aload_n 0, 1) := by decide +kernel
theorem dX10_read_262 : decode cX10_read 262 = .ok (.getfield 46, 3) := by decide +kernel
theorem dX10_read_265 : decode cX10_read 265 = .ok (.iload_n 2, 1) := by decide +kernel
theorem dX10_read_266 : decode cX10_read 266 = .ok (.iaload, 1) := by decide +kernel
theorem dX10_read_267 : decode cX10_read 267 = .ok (.iastore, 1) := by decide +kernel
theorem dX10_read_268 : decode cX10_read 268 = .ok (.aload_n 0, 1) := by decide +kernel
theorem dX10_read_269 : decode cX10_read 269 = .ok (.getfield 97, 3) := by decide +kernel
theorem dX10_read_272 : decode cX10_read 272 = .ok (.iload_n 2, 1) := by decide +kernel
theorem dX10_read_273 : decode cX10_read 273 = .ok (.iload_n 3, 1) := by decide +kernel
theorem dX10_read_274 : decode cX10_read 274 = .ok (.ifCond .eq 27, 3) := by decide +kernel
theorem dX10_read_277 : decode cX10_read 277 = .ok (.aload_n 0, 1) := by decide +kernel
theorem dX10_read_278 : decode cX10_read 278 = .ok (.aload_n 0, 1) := by decide +kernel
theorem dX10_read_279 : decode cX10_read 279 = .ok (.getfield 20, 3) := by decide +kernel
theorem dX10_read_282 : decode cX10_read 282 = .ok (.aload_n 0, 1) := by decide +kernel
theorem dX10_read_283 : decode cX10_read 283 = .ok (.getfield 49, 3) := by decide +kernel
theorem dX10_read_286 : decode cX10_read 286 = .ok (.iload_n 2, 1) := by decide +kernel
theorem dX10_read_287 : decode cX10_read 287 = .ok (.laload, 1) := by decide +kernel
theorem dX10_read_288 : decode cX10_read 288 = .ok (.l2i, 1) := by decide +kernel
theorem dX10_read_289 : decode cX10_read 289 = .ok (.laload, 1) := by decide +kernel
theorem dX10_read_290 : decode cX10_read 290 = .ok (.aload_n 0, 1) := by decide +kernel
theorem dX10_read_291 : decode cX10_read 291 = .ok (.getfield 212, 3) := by decide +kernel
theorem dX10_read_294 : decode cX10_read 294 = .ok (.invokevirtual 276, 3) := by decide +kernel
theorem dX10_read_297 : decode cX10_read 297 = .ok (.i2l, 1) := by decide +kernel
theorem dX10_read_298 : decode cX10_read 298 = .ok (.goto 9, 3) := by decide +kernel
theorem dX10_read_301 : decode cX10_read 301 = .ok (.aload_n 0, 1) := by decide +kernel
theorem dX10_read_302 : decode cX10_read 302 = .ok (.getfield 49, 3) := by decide +kernel
theorem dX10_read_305 : decode cX10_read 305 = .ok (.iload_n 2, 1) := by decide +kernel
theorem dX10_read_306 : decode cX10_read 306 = .ok (.laload, 1) := by decide +kernel
theorem dX10_read_307 : decode cX10_read 307 = .ok (.lastore, 1) := by decide +kernel
theorem dX10_read_308 : decode cX10_read 308 = .ok (.iinc 2 1, 3) := by decide +kernel
theorem dX10_read_311 : decode cX10_read 311 = .ok (.goto (-89), 3) := by decide +kernel
theorem dX10_read_314 : decode cX10_read 314 = .ok (.aload_n 0, 1) := by decide +kernel
theorem dX10_read_315 : decode cX10_read 315 = .ok (.iconst 0, 1) := by decide +kernel
theorem dX10_read_316 : decode cX10_read 316 = .ok (.putfield 296, 3) := by decide +kernel
theorem dX10_read_319 : decode cX10_read 319 = .ok (.aload_n 0, 1) := by decide +kernel
theorem dX10_read_320 : decode cX10_read 320 = .ok (.iconst 0, 1) := by decide +kernel
theorem dX10_read_321 : decode cX10_read 321 = .ok (.putfield 299, 3) := by decide +kernel
theorem dX10_read_324 : decode cX10_read 324 = .ok (.aload_n 0, 1) := by decide +kernel
theorem dX10_read_325 : decode cX10_read 325 = .ok (.iconst 0, 1) := by decide +kernel
theorem dX10_read_326 : decode cX10_read 326 = .ok (.putfield 302, 3) := by decide +kernel
theorem dX10_read_329 : decode cX10_read 329 = .ok (.aload_n 0, 1) := by decide +kernel
theorem dX10_read_330 : decode cX10_read 330 = .ok (.iconst 0, 1) := by decide +kernel
theorem dX10_read_331 : decode cX10_read 331 = .ok (.putfield 153, 3) := by decide +kernel
theorem dX10_read_334 : decode cX10_read 334 = .ok (.aload_n 0, 1) := by decide +kernel
theorem dX10_read_335 : decode cX10_read 335 = .ok (.getfield 289, 3) := by decide +kernel
theorem dX10_read_338 : decode cX10_read 338 = .ok (.ireturn, 1) := by decide +kernel
theorem dX10_sizeOf_0 : decode cX10_sizeOf 0 = .ok (.lconst 0, 1) := by decide +kernel
theorem dX10_sizeOf_1 : decode cX10_sizeOf 1 = .ok (.lstore_n 2, 1) := by decide +kernel
theorem dX10_sizeOf_2 : decode cX10_sizeOf 2 = .ok (.aload_n 0, 1) := by decide +kernel
theorem dX10_sizeOf_3 : decode cX10_sizeOf 3 = .ok (.getfield 43, 3) := by decide +kernel
theorem dX10_sizeOf_6 : decode cX10_sizeOf 6 = .ok (.iload_n 1, 1) := by decide +kernel
theorem dX10_sizeOf_7 : decode cX10_sizeOf 7 = .ok (.iaload, 1) := by decide +kernel
theorem dX10_sizeOf_8 : decode cX10_sizeOf 8 = .ok (.istore 4, 2) := by decide +kernel
theorem dX10_sizeOf_10 : decode cX10_sizeOf 10 = .ok (.iload 4, 2) := by decide +kernel
theorem dX10_sizeOf_12 : decode cX10_sizeOf 12 = .ok (.aload_n 0, 1) := by decide +kernel
theorem dX10_sizeOf_13 : decode cX10_sizeOf 13 = .ok (.getfield 43, 3) := by decide +kernel
theorem dX10_sizeOf_16 : decode cX10_sizeOf 16 = .ok (.iload_n 1, 1) := by decide +kernel
theorem dX10_sizeOf_17 : decode cX10_sizeOf 17 = .ok (.iconst 1, 1) := by decide +kernel
theorem dX10_sizeOf_18 : decode cX10_sizeOf 18 = .ok (.iadd, 1) := by decide +kernel
theorem dX10_sizeOf_19 : decode cX10_sizeOf 19 = .ok (.iaload, 1) := by decide +kernel
theorem dX10_sizeOf_20 : decode cX10_sizeOf 20 = .ok (.if_icmp .ge 103, 3) := by decide +kernel
theorem dX10_sizeOf_23 : decode cX10_sizeOf 23 = .ok (.aload_n 0, 1) := by decide +kernel
theorem dX10_sizeOf_24 : decode cX10_sizeOf 24 = .ok (.getfield 55, 3) := by decide +kernel
theorem dX10_sizeOf_27 : decode cX10_sizeOf 27 = .ok (.iload 4, 2) := by decide +kernel
theorem dX10_sizeOf_29 : decode cX10_sizeOf 29 = .ok (.laload, 1) := by decide +kernel
theorem dX10_sizeOf_30 : decode cX10_sizeOf 30 = .ok (.lconst 0, 1) := by decide +kernel
theorem dX10_sizeOf_31 : decode cX10_sizeOf 31 = .ok (.lcmp, 1) := by decide +kernel
theorem dX10_sizeOf_32 : decode cX10_sizeOf 32 = .ok (.ifCond .ge 33, 3) := by decide +kernel
theorem dX10_sizeOf_35 : decode cX10_sizeOf 35 = .ok (.aload_n 0, 1) := by decide +kernel
theorem dX10_sizeOf_36 : decode cX10_sizeOf 36 = .ok (.getfield 88, 3) := by decide +kernel
theorem dX10_sizeOf_39 : decode cX10_sizeOf 39 = .ok (.aload_n 0, 1) := by decide +kernel
theorem dX10_sizeOf_40 : decode cX10_sizeOf 40 = .ok (.aload_n 0, 1) := by decide +kernel
theorem dX10_sizeOf_41 : decode cX10_sizeOf 41 = .ok (.getfield 20, 3) := by decide +kernel
theorem dX10_sizeOf_44 : decode cX10_sizeOf 44 = .ok (.ldc2_w 222, 3) := by decide +kernel
theorem dX10_sizeOf_47 : decode cX10_sizeOf 47 = .ok (.aload_n 0, 1) := by decide +kernel
theorem dX10_sizeOf_48 : decode cX10_sizeOf 48 = .ok (.getfield 55, 3) := by decide +kernel
theorem dX10_sizeOf_51 : decode cX10_sizeOf 51 = .ok (.iload 4, 2) := by decide +kernel
theorem dX10_sizeOf_53 : decode cX10_sizeOf 53 = .ok (.laload, 1) := by decide +kernel
theorem dX10_sizeOf_54 : decode cX10_sizeOf 54 = .ok (.lsub, 1) := by decide +kernel
theorem dX10_sizeOf_55 : decode cX10_sizeOf 55 = .ok (.l2i, 1) := by decide +kernel
theorem dX10_sizeOf_56 : decode cX10_sizeOf 56 = .ok (.laload, 1) := by decide +kernel
theorem dX10_sizeOf_57 : decode cX10_sizeOf 57 = .ok (.iload_n 1, 1) := by decide +kernel
theorem dX10_sizeOf_58 : decode cX10_sizeOf 58 = .ok (.invokevirtual 276, 3) := by decide +kernel
theorem dX10_sizeOf_61 : decode cX10_sizeOf 61 = .ok (.laload, 1) := by decide +kernel
theorem dX10_sizeOf_62 : decode cX10_sizeOf 62 = .ok (.goto 10, 3) := by decide +kernel
theorem dX10_sizeOf_65 : decode cX10_sizeOf 65 = .ok (.aload_n 0, 1) := by decide +kernel
theorem dX10_sizeOf_66 : decode cX10_sizeOf 66 = .ok (.getfield 55, 3) := by decide +kernel
theorem dX10_sizeOf_69 : decode cX10_sizeOf 69 = .ok (.iload 4, 2) := by decide +kernel
theorem dX10_sizeOf_71 : decode cX10_sizeOf 71 = .ok (.laload, 1) := by decide +kernel
theorem dX10_sizeOf_72 : decode cX10_sizeOf 72 = .ok (.lstore 5, 2) := by decide +kernel
theorem dX10_sizeOf_74 : decode cX10_sizeOf 74 = .ok (.aload_n 0, 1) := by decide +kernel
theorem dX10_sizeOf_75 : decode cX10_sizeOf 75 = .ok (.getfield 52, 3) := by decide +kernel
theorem dX10_sizeOf_78 : decode cX10_sizeOf 78 = .ok (.iload 4, 2) := by decide +kernel
theorem dX10_sizeOf_80 : decode cX10_sizeOf 80 = .ok (.iaload, 1) := by decide +kernel
theorem dX10_sizeOf_81 : decode cX10_sizeOf 81 = .ok (.bipush 43, 2) := by decide +kernel
theorem dX10_sizeOf_83 : decode cX10_sizeOf 83 = .ok (.if_icmp .ne 10, 3) := by decide +kernel
theorem dX10_sizeOf_86 : decode cX10_sizeOf 86 = .ok (.lload_n 2, 1) := by decide +kernel
theorem dX10_sizeOf_87 : decode cX10_sizeOf 87 = .ok (.lload 5, 2) := by decide +kernel
theorem dX10_sizeOf_89 : decode cX10_sizeOf 89 = .ok (.ladd, 1) := by decide +kernel
theorem dX10_sizeOf_90 : decode cX10_sizeOf 90 = .ok (.goto 26, 3) := by decide +kernel
theorem dX10_sizeOf_93 : decode cX10_sizeOf 93 = .ok (.aload_n 0, 1) := by decide +kernel
theorem dX10_sizeOf_94 : decode cX10_sizeOf 94 = .ok (.getfield 52, 3) := by decide +kernel
theorem dX10_sizeOf_97 : decode cX10_sizeOf 97 = .ok (.iload 4, 2) := by decide +kernel
theorem dX10_sizeOf_99 : decode cX10_sizeOf 99 = .ok (.iaload, 1) := by decide +kernel
theorem dX10_sizeOf_100 : decode cX10_sizeOf 100 = .ok (.bipush 45, 2) := by decide +kernel
theorem dX10_sizeOf_102 : decode cX10_sizeOf 102 = .ok (.if_icmp .ne 10, 3) := by decide +kernel
theorem dX10_sizeOf_105 : decode cX10_sizeOf 105 = .ok (.lload_n 2, 1) := by decide +kernel
theorem dX10_sizeOf_106 : decode cX10_sizeOf 106 = .ok (.lload 5, 2) := by decide +kernel
theorem dX10_sizeOf_108 : decode cX10_sizeOf 108 = .ok (.lsub, 1) := by decide +kernel
theorem dX10_sizeOf_109 : decode cX10_sizeOf 109 = .ok (.goto 7, 3) := by decide +kernel
theorem dX10_sizeOf_112 : decode cX10_sizeOf 112 = .ok (.lload_n 2, 1) := by decide +kernel
theorem dX10_sizeOf_113 : decode cX10_sizeOf 113 = .ok (.lload 5, 2) := by decide +kernel
theorem dX10_sizeOf_115 : decode cX10_sizeOf 115 = .ok (.lmul, 1) := by decide +kernel
theorem dX10_sizeOf_116 : decode cX10_sizeOf 116 = .ok (.lstore_n 2, 1) := by decide +kernel
theorem dX10_sizeOf_117 : decode cX10_sizeOf 117 = .ok (.iinc 4 1, 3) := by decide +kernel
theorem dX10_sizeOf_120 : decode cX10_sizeOf 120 = .ok (.goto (-110), 3) := by decide +kernel
theorem dX10_sizeOf_123 : decode cX10_sizeOf 123 = .ok (.lload_n 2, 1) := by decide +kernel
theorem dX10_sizeOf_124 : decode cX10_sizeOf 124 = .ok (.lreturn, 1) := by decide +kernel
theorem dX10_named_0 : decode cX10_named 0 = .ok (.iconst 0, 1) := by decide +kernel
theorem dX10_named_1 : decode cX10_named 1 = .ok (.istore_n 3, 1) := by decide +kernel
theorem dX10_named_2 : decode cX10_named 2 = .ok (.iload_n 3, 1) := by decide +kernel
theorem dX10_named_3 : decode cX10_named 3 = .ok (.aload_n 0, 1) := by decide +kernel
theorem dX10_named_4 : decode cX10_named 4 = .ok (.getfield 289, 3) := by decide +kernel
theorem dX10_named_7 : decode cX10_named 7 = .ok (.if_icmp .ge 22, 3) := by decide +kernel
theorem dX10_named_10 : decode cX10_named 10 = .ok (.aload_n 0, 1) := by decide +kernel
theorem dX10_named_11 : decode cX10_named 11 = .ok (.getfield 76, 3) := by decide +kernel
theorem dX10_named_14 : decode cX10_named 14 = .ok (.iload_n 3, 1) := by decide +kernel
theorem dX10_named_15 : decode cX10_named 15 = .ok (.laload, 1) := by decide +kernel
theorem dX10_named_16 : decode cX10_named 16 = .ok (.lload_n 1, 1) := by decide +kernel
theorem dX10_named_17 : decode cX10_named 17 = .ok (.lcmp, 1) := by decide +kernel
theorem dX10_named_18 : decode cX10_named 18 = .ok (.ifCond .ne 5, 3) := by decide +kernel
theorem dX10_named_21 : decode cX10_named 21 = .ok (.iload_n 3, 1) := by decide +kernel
theorem dX10_named_22 : decode cX10_named 22 = .ok (.ireturn, 1) := by decide +kernel
theorem dX10_named_23 : decode cX10_named 23 = .ok (.iinc 3 1, 3) := by decide +kernel
theorem dX10_named_26 : decode cX10_named 26 = .ok (.goto (-24), 3) := by decide +kernel
theorem dX10_named_29 : decode cX10_named 29 = .ok (.bipush (-9), 2) := by decide +kernel
theorem dX10_named_31 : decode cX10_named 31 = .ok (.ireturn, 1) := by decide +kernel
theorem dX10_isTable_0 : decode cX10_isTable 0 = .ok (.iload_n 1, 1) := by decide +kernel
theorem dX10_isTable_1 : decode cX10_isTable 1 = .ok (.i2l, 1) := by decide +kernel
theorem dX10_isTable_2 : decode cX10_isTable 2 = .ok (.lconst 0, 1) := by decide +kernel
theorem dX10_isTable_3 : decode cX10_isTable 3 = .ok (.aload_n 0, 1) := by decide +kernel
theorem dX10_isTable_4 : decode cX10_isTable 4 = .ok (.getfield 289, 3) := by decide +kernel
theorem dX10_isTable_7 : decode cX10_isTable 7 = .ok (.iconst 1, 1) := by decide +kernel
theorem dX10_isTable_8 : decode cX10_isTable 8 = .ok (.isub, 1) := by decide +kernel
theorem dX10_isTable_9 : decode cX10_isTable 9 = .ok (.i2l, 1) := by decide +kernel
theorem dX10_isTable_10 : decode cX10_isTable 10 = .ok (.invokestatic 305, 3) := by decide +kernel
theorem dX10_isTable_13 : decode cX10_isTable 13 = .ok (.ireturn, 1) := by decide +kernel
theorem dX10_size_0 : decode cX10_size 0 = .ok (.aload_n 0, 1) := by decide +kernel
theorem dX10_size_1 : decode cX10_size 1 = .ok (.iload_n 1, 1) := by decide +kernel
theorem dX10_size_2 : decode cX10_size 2 = .ok (.invokevirtual 309, 3) := by decide +kernel
theorem dX10_size_5 : decode cX10_size 5 = .ok (.ifCond .eq 13, 3) := by decide +kernel
theorem dX10_size_8 : decode cX10_size 8 = .ok (.aload_n 0, 1) := by decide +kernel
theorem dX10_size_9 : decode cX10_size 9 = .ok (.getfield 88, 3) := by decide +kernel
theorem dX10_size_12 : decode cX10_size 12 = .ok (.iload_n 1, 1) := by decide +kernel
theorem dX10_size_13 : decode cX10_size 13 = .ok (.laload, 1) := by decide +kernel
theorem dX10_size_14 : decode cX10_size 14 = .ok (.l2i, 1) := by decide +kernel
theorem dX10_size_15 : decode cX10_size 15 = .ok (.goto 4, 3) := by decide +kernel
theorem dX10_size_18 : decode cX10_size 18 = .ok (.iconst (-1), 1) := by decide +kernel
theorem dX10_size_19 : decode cX10_size 19 = .ok (.ireturn, 1) := by decide +kernel
theorem dX10_state_0 : decode cX10_state 0 = .ok (.aload_n 0, 1) := by decide +kernel
theorem dX10_state_1 : decode cX10_state 1 = .ok (.iload_n 1, 1) := by decide +kernel
theorem dX10_state_2 : decode cX10_state 2 = .ok (.invokevirtual 309, 3) := by decide +kernel
theorem dX10_state_5 : decode cX10_state 5 = .ok (.ifCond .eq 12, 3) := by decide +kernel
theorem dX10_state_8 : decode cX10_state 8 = .ok (.aload_n 0, 1) := by decide +kernel
theorem dX10_state_9 : decode cX10_state 9 = .ok (.getfield 100, 3) := by decide +kernel
theorem dX10_state_12 : decode cX10_state 12 = .ok (.iload_n 1, 1) := by decide +kernel
theorem dX10_state_13 : decode cX10_state 13 = .ok (.iaload, 1) := by decide +kernel
theorem dX10_state_14 : decode cX10_state 14 = .ok (.goto 4, 3) := by decide +kernel
theorem dX10_state_17 : decode cX10_state 17 = .ok (.iconst (-1), 1) := by decide +kernel
theorem dX10_state_18 : decode cX10_state 18 = .ok (.ireturn, 1) := by decide +kernel
theorem dX10_row_0 : decode cX10_row 0 = .ok (.aload_n 0, 1) := by decide +kernel
theorem dX10_row_1 : decode cX10_row 1 = .ok (.iload_n 1, 1) := by decide +kernel
theorem dX10_row_2 : decode cX10_row 2 = .ok (.invokevirtual 309, 3) := by decide +kernel
theorem dX10_row_5 : decode cX10_row 5 = .ok (.ifCond .ne 5, 3) := by decide +kernel
theorem dX10_row_8 : decode cX10_row 8 = .ok (.iconst (-1), 1) := by decide +kernel
theorem dX10_row_9 : decode cX10_row 9 = .ok (.ireturn, 1) := by decide +kernel
theorem dX10_row_10 : decode cX10_row 10 = .ok (.aload_n 0, 1) := by decide +kernel
theorem dX10_row_11 : decode cX10_row 11 = .ok (.getfield 79, 3) := by decide +kernel
theorem dX10_row_14 : decode cX10_row 14 = .ok (.iload_n 1, 1) := by decide +kernel
theorem dX10_row_15 : decode cX10_row 15 = .ok (.baload, 1) := by decide +kernel
theorem dX10_row_16 : decode cX10_row 16 = .ok (.ifCond .ne 13, 3) := by decide +kernel
theorem dX10_row_19 : decode cX10_row 19 = .ok (.aload_n 0, 1) := by decide +kernel
theorem dX10_row_20 : decode cX10_row 20 = .ok (.getfield 100, 3) := by decide +kernel
theorem dX10_row_23 : decode cX10_row 23 = .ok (.iload_n 1, 1) := by decide +kernel
theorem dX10_row_24 : decode cX10_row 24 = .ok (.iaload, 1) := by decide +kernel
theorem dX10_row_25 : decode cX10_row 25 = .ok (.iconst 2, 1) := by decide +kernel
theorem dX10_row_26 : decode cX10_row 26 = .ok (.if_icmp .eq 6, 3) := by decide +kernel
theorem dX10_row_29 : decode cX10_row 29 = .ok (.bipush (-3), 2) := by decide +kernel
theorem dX10_row_31 : decode cX10_row 31 = .ok (.ireturn, 1) := by decide +kernel
theorem dX10_row_32 : decode cX10_row 32 = .ok (.iload_n 2, 1) := by decide +kernel
theorem dX10_row_33 : decode cX10_row 33 = .ok (.i2l, 1) := by decide +kernel
theorem dX10_row_34 : decode cX10_row 34 = .ok (.lconst 0, 1) := by decide +kernel
theorem dX10_row_35 : decode cX10_row 35 = .ok (.aload_n 0, 1) := by decide +kernel
theorem dX10_row_36 : decode cX10_row 36 = .ok (.iload_n 1, 1) := by decide +kernel
theorem dX10_row_37 : decode cX10_row 37 = .ok (.invokevirtual 312, 3) := by decide +kernel
theorem dX10_row_40 : decode cX10_row 40 = .ok (.iconst 1, 1) := by decide +kernel
theorem dX10_row_41 : decode cX10_row 41 = .ok (.isub, 1) := by decide +kernel
theorem dX10_row_42 : decode cX10_row 42 = .ok (.i2l, 1) := by decide +kernel
theorem dX10_row_43 : decode cX10_row 43 = .ok (.invokestatic 305, 3) := by decide +kernel
theorem dX10_row_46 : decode cX10_row 46 = .ok (.ifCond .eq 17, 3) := by decide +kernel
theorem dX10_row_49 : decode cX10_row 49 = .ok (.aload_n 0, 1) := by decide +kernel
theorem dX10_row_50 : decode cX10_row 50 = .ok (.getfield 103, 3) := by decide +kernel
theorem dX10_row_53 : decode cX10_row 53 = .ok (.bipush 25, 2) := by decide +kernel
theorem dX10_row_55 : decode cX10_row 55 = .ok (.iload_n 1, 1) := by decide +kernel
theorem dX10_row_56 : decode cX10_row 56 = .ok (.imul, 1) := by decide +kernel
theorem dX10_row_57 : decode cX10_row 57 = .ok (.iload_n 2, 1) := by decide +kernel
theorem dX10_row_58 : decode cX10_row 58 = .ok (.iadd, 1) := by decide +kernel
theorem dX10_row_59 : decode cX10_row 59 = .ok (.iaload, 1) := by decide +kernel
theorem dX10_row_60 : decode cX10_row 60 = .ok (.goto 5, 3) := by decide +kernel
theorem dX10_row_63 : decode cX10_row 63 = .ok (.bipush (-2), 2) := by decide +kernel
theorem dX10_row_65 : decode cX10_row 65 = .ok (.ireturn, 1) := by decide +kernel
theorem dX10_rowsOf_0 : decode cX10_rowsOf 0 = .ok (.aload_n 0, 1) := by decide +kernel
theorem dX10_rowsOf_1 : decode cX10_rowsOf 1 = .ok (.getfield 88, 3) := by decide +kernel
theorem dX10_rowsOf_4 : decode cX10_rowsOf 4 = .ok (.iload_n 1, 1) := by decide +kernel
theorem dX10_rowsOf_5 : decode cX10_rowsOf 5 = .ok (.laload, 1) := by decide +kernel
theorem dX10_rowsOf_6 : decode cX10_rowsOf 6 = .ok (.l2i, 1) := by decide +kernel
theorem dX10_rowsOf_7 : decode cX10_rowsOf 7 = .ok (.bipush 7, 2) := by decide +kernel
theorem dX10_rowsOf_9 : decode cX10_rowsOf 9 = .ok (.iadd, 1) := by decide +kernel
theorem dX10_rowsOf_10 : decode cX10_rowsOf 10 = .ok (.bipush 8, 2) := by decide +kernel
theorem dX10_rowsOf_12 : decode cX10_rowsOf 12 = .ok (.idiv, 1) := by decide +kernel
theorem dX10_rowsOf_13 : decode cX10_rowsOf 13 = .ok (.ireturn, 1) := by decide +kernel
theorem dX10_noteBuild_0 : decode cX10_noteBuild 0 = .ok (.aload_n 0, 1) := by decide +kernel
theorem dX10_noteBuild_1 : decode cX10_noteBuild 1 = .ok (.getfield 296, 3) := by decide +kernel
theorem dX10_noteBuild_4 : decode cX10_noteBuild 4 = .ok (.bipush 100, 2) := by decide +kernel
theorem dX10_noteBuild_6 : decode cX10_noteBuild 6 = .ok (.if_icmp .ge 33, 3) := by decide +kernel
theorem dX10_noteBuild_9 : decode cX10_noteBuild 9 = .ok (.aload_n 0, 1) := by decide +kernel
theorem dX10_noteBuild_10 : decode cX10_noteBuild 10 = .ok (.getfield 109, 3) := by decide +kernel
theorem dX10_noteBuild_13 : decode cX10_noteBuild 13 = .ok (.aload_n 0, 1) := by decide +kernel
theorem dX10_noteBuild_14 : decode cX10_noteBuild 14 = .ok (.getfield 296, 3) := by decide +kernel
theorem dX10_noteBuild_17 : decode cX10_noteBuild 17 = .ok (.iload_n 1, 1) := by decide +kernel
theorem dX10_noteBuild_18 : decode cX10_noteBuild 18 = .ok (.iastore, 1) := by decide +kernel
theorem dX10_noteBuild_19 : decode cX10_noteBuild 19 = .ok (.aload_n 0, 1) := by decide +kernel
theorem dX10_noteBuild_20 : decode cX10_noteBuild 20 = .ok (.getfield 112, 3) := by decide +kernel
theorem dX10_noteBuild_23 : decode cX10_noteBuild 23 = .ok (.aload_n 0, 1) := by decide +kernel
theorem dX10_noteBuild_24 : decode cX10_noteBuild 24 = .ok (.getfield 296, 3) := by decide +kernel
theorem dX10_noteBuild_27 : decode cX10_noteBuild 27 = .ok (.iload_n 2, 1) := by decide +kernel
theorem dX10_noteBuild_28 : decode cX10_noteBuild 28 = .ok (.iastore, 1) := by decide +kernel
theorem dX10_noteBuild_29 : decode cX10_noteBuild 29 = .ok (.aload_n 0, 1) := by decide +kernel
theorem dX10_noteBuild_30 : decode cX10_noteBuild 30 = .ok (.getfield 115, 3) := by decide +kernel
theorem dX10_noteBuild_33 : decode cX10_noteBuild 33 = .ok (.aload_n 0, 1) := by decide +kernel
theorem dX10_noteBuild_34 : decode cX10_noteBuild 34 = .ok (.getfield 296, 3) := by decide +kernel
theorem dX10_noteBuild_37 : decode cX10_noteBuild 37 = .ok (.iload_n 3, 1) := by decide +kernel
theorem dX10_noteBuild_38 : decode cX10_noteBuild 38 = .ok (.iastore, 1) := by decide +kernel
theorem dX10_noteBuild_39 : decode cX10_noteBuild 39 = .ok (.aload_n 0, 1) := by decide +kernel
theorem dX10_noteBuild_40 : decode cX10_noteBuild 40 = .ok (.dup, 1) := by decide +kernel
theorem dX10_noteBuild_41 : decode cX10_noteBuild 41 = .ok (.getfield 296, 3) := by decide +kernel
theorem dX10_noteBuild_44 : decode cX10_noteBuild 44 = .ok (.iconst 1, 1) := by decide +kernel
theorem dX10_noteBuild_45 : decode cX10_noteBuild 45 = .ok (.iadd, 1) := by decide +kernel
theorem dX10_noteBuild_46 : decode cX10_noteBuild 46 = .ok (.putfield 296, 3) := by decide +kernel
theorem dX10_noteBuild_49 : decode cX10_noteBuild 49 = .ok (.return_, 1) := by decide +kernel
theorem dX10_half_0 : decode cX10_half 0 = .ok (.aload_n 0, 1) := by decide +kernel
theorem dX10_half_1 : decode cX10_half 1 = .ok (.getfield 299, 3) := by decide +kernel
theorem dX10_half_4 : decode cX10_half 4 = .ok (.bipush 100, 2) := by decide +kernel
theorem dX10_half_6 : decode cX10_half 6 = .ok (.if_icmp .ge 44, 3) := by decide +kernel
theorem dX10_half_9 : decode cX10_half 9 = .ok (.aload_n 0, 1) := by decide +kernel
theorem dX10_half_10 : decode cX10_half 10 = .ok (.getfield 118, 3) := by decide +kernel
theorem dX10_half_13 : decode cX10_half 13 = .ok (.aload_n 0, 1) := by decide +kernel
theorem dX10_half_14 : decode cX10_half 14 = .ok (.getfield 299, 3) := by decide +kernel
theorem dX10_half_17 : decode cX10_half 17 = .ok (.iload_n 1, 1) := by decide +kernel
theorem dX10_half_18 : decode cX10_half 18 = .ok (.iastore, 1) := by decide +kernel
theorem dX10_half_19 : decode cX10_half 19 = .ok (.aload_n 0, 1) := by decide +kernel
theorem dX10_half_20 : decode cX10_half 20 = .ok (.getfield 121, 3) := by decide +kernel
theorem dX10_half_23 : decode cX10_half 23 = .ok (.aload_n 0, 1) := by decide +kernel
theorem dX10_half_24 : decode cX10_half 24 = .ok (.getfield 299, 3) := by decide +kernel
theorem dX10_half_27 : decode cX10_half 27 = .ok (.iload_n 2, 1) := by decide +kernel
theorem dX10_half_28 : decode cX10_half 28 = .ok (.iastore, 1) := by decide +kernel
theorem dX10_half_29 : decode cX10_half 29 = .ok (.aload_n 0, 1) := by decide +kernel
theorem dX10_half_30 : decode cX10_half 30 = .ok (.getfield 124, 3) := by decide +kernel
theorem dX10_half_33 : decode cX10_half 33 = .ok (.aload_n 0, 1) := by decide +kernel
theorem dX10_half_34 : decode cX10_half 34 = .ok (.getfield 299, 3) := by decide +kernel
theorem dX10_half_37 : decode cX10_half 37 = .ok (.iload_n 3, 1) := by decide +kernel
theorem dX10_half_38 : decode cX10_half 38 = .ok (.iastore, 1) := by decide +kernel
theorem dX10_half_39 : decode cX10_half 39 = .ok (.aload_n 0, 1) := by decide +kernel
theorem dX10_half_40 : decode cX10_half 40 = .ok (.getfield 127, 3) := by decide +kernel
theorem dX10_half_43 : decode cX10_half 43 = .ok (.aload_n 0, 1) := by decide +kernel
theorem dX10_half_44 : decode cX10_half 44 = .ok (.getfield 299, 3) := by decide +kernel
theorem dX10_half_47 : decode cX10_half 47 = .ok (.lload 4, 2) := by decide +kernel
theorem dX10_half_49 : decode cX10_half 49 = .ok (.lastore, 1) := by decide +kernel
theorem dX10_half_50 : decode cX10_half 50 = .ok (.aload_n 0, 1) := by decide +kernel
theorem dX10_half_51 : decode cX10_half 51 = .ok (.dup, 1) := by decide +kernel
theorem dX10_half_52 : decode cX10_half 52 = .ok (.getfield 299, 3) := by decide +kernel
theorem dX10_half_55 : decode cX10_half 55 = .ok (.iconst 1, 1) := by decide +kernel
theorem dX10_half_56 : decode cX10_half 56 = .ok (.iadd, 1) := by decide +kernel
theorem dX10_half_57 : decode cX10_half 57 = .ok (.putfield 299, 3) := by decide +kernel
theorem dX10_half_60 : decode cX10_half 60 = .ok (.lload 4, 2) := by decide +kernel
theorem dX10_half_62 : decode cX10_half 62 = .ok (.lreturn, 1) := by decide +kernel
theorem dX10_begin_0 : decode cX10_begin 0 = .ok (.aload_n 0, 1) := by decide +kernel
theorem dX10_begin_1 : decode cX10_begin 1 = .ok (.getfield 315, 3) := by decide +kernel
theorem dX10_begin_4 : decode cX10_begin 4 = .ok (.bipush 12, 2) := by decide +kernel
theorem dX10_begin_6 : decode cX10_begin 6 = .ok (.if_icmp .ne 6, 3) := by decide +kernel
theorem dX10_begin_9 : decode cX10_begin 9 = .ok (.bipush 8, 2) := by decide +kernel
theorem dX10_begin_11 : decode cX10_begin 11 = .ok (.ireturn, 1) := by decide +kernel
theorem dX10_begin_12 : decode cX10_begin 12 = .ok (.aload_n 0, 1) := by decide +kernel
theorem dX10_begin_13 : decode cX10_begin 13 = .ok (.iload_n 1, 1) := by decide +kernel
theorem dX10_begin_14 : decode cX10_begin 14 = .ok (.iload_n 2, 1) := by decide +kernel
theorem dX10_begin_15 : decode cX10_begin 15 = .ok (.iload_n 3, 1) := by decide +kernel
theorem dX10_begin_16 : decode cX10_begin 16 = .ok (.invokevirtual 318, 3) := by decide +kernel
theorem dX10_begin_19 : decode cX10_begin 19 = .ok (.aload_n 0, 1) := by decide +kernel
theorem dX10_begin_20 : decode cX10_begin 20 = .ok (.getfield 130, 3) := by decide +kernel
theorem dX10_begin_23 : decode cX10_begin 23 = .ok (.aload_n 0, 1) := by decide +kernel
theorem dX10_begin_24 : decode cX10_begin 24 = .ok (.getfield 315, 3) := by decide +kernel
theorem dX10_begin_27 : decode cX10_begin 27 = .ok (.iload_n 1, 1) := by decide +kernel
theorem dX10_begin_28 : decode cX10_begin 28 = .ok (.iastore, 1) := by decide +kernel
theorem dX10_begin_29 : decode cX10_begin 29 = .ok (.aload_n 0, 1) := by decide +kernel
theorem dX10_begin_30 : decode cX10_begin 30 = .ok (.getfield 133, 3) := by decide +kernel
theorem dX10_begin_33 : decode cX10_begin 33 = .ok (.aload_n 0, 1) := by decide +kernel
theorem dX10_begin_34 : decode cX10_begin 34 = .ok (.getfield 315, 3) := by decide +kernel
theorem dX10_begin_37 : decode cX10_begin 37 = .ok (.iload_n 2, 1) := by decide +kernel
theorem dX10_begin_38 : decode cX10_begin 38 = .ok (.iastore, 1) := by decide +kernel
theorem dX10_begin_39 : decode cX10_begin 39 = .ok (.aload_n 0, 1) := by decide +kernel
theorem dX10_begin_40 : decode cX10_begin 40 = .ok (.dup, 1) := by decide +kernel
theorem dX10_begin_41 : decode cX10_begin 41 = .ok (.getfield 315, 3) := by decide +kernel
theorem dX10_begin_44 : decode cX10_begin 44 = .ok (.iconst 1, 1) := by decide +kernel
theorem dX10_begin_45 : decode cX10_begin 45 = .ok (.iadd, 1) := by decide +kernel
theorem dX10_begin_46 : decode cX10_begin 46 = .ok (.putfield 315, 3) := by decide +kernel
theorem dX10_begin_49 : decode cX10_begin 49 = .ok (.aload_n 0, 1) := by decide +kernel
theorem dX10_begin_50 : decode cX10_begin 50 = .ok (.getfield 315, 3) := by decide +kernel
theorem dX10_begin_53 : decode cX10_begin 53 = .ok (.iconst 1, 1) := by decide +kernel
theorem dX10_begin_54 : decode cX10_begin 54 = .ok (.isub, 1) := by decide +kernel
theorem dX10_begin_55 : decode cX10_begin 55 = .ok (.istore 4, 2) := by decide +kernel
theorem dX10_begin_57 : decode cX10_begin 57 = .ok (.iload_n 2, 1) := by decide +kernel
theorem dX10_begin_58 : decode cX10_begin 58 = .ok (.bipush (-9), 2) := by decide +kernel
theorem dX10_begin_60 : decode cX10_begin 60 = .ok (.if_icmp .ne 149, 3) := by decide +kernel
theorem dX10_begin_63 : decode cX10_begin 63 = .ok (.aload_n 0, 1) := by decide +kernel
theorem dX10_begin_64 : decode cX10_begin 64 = .ok (.getfield 100, 3) := by decide +kernel
theorem dX10_begin_67 : decode cX10_begin 67 = .ok (.iload_n 1, 1) := by decide +kernel
theorem dX10_begin_68 : decode cX10_begin 68 = .ok (.iconst 1, 1) := by decide +kernel
theorem dX10_begin_69 : decode cX10_begin 69 = .ok (.iastore, 1) := by decide +kernel
theorem dX10_begin_70 : decode cX10_begin 70 = .ok (.aload_n 0, 1) := by decide +kernel
theorem dX10_begin_71 : decode cX10_begin 71 = .ok (.getfield 88, 3) := by decide +kernel
theorem dX10_begin_74 : decode cX10_begin 74 = .ok (.iload_n 1, 1) := by decide +kernel
theorem dX10_begin_75 : decode cX10_begin 75 = .ok (.laload, 1) := by decide +kernel
theorem dX10_begin_76 : decode cX10_begin 76 = .ok (.lconst 0, 1) := by decide +kernel
theorem dX10_begin_77 : decode cX10_begin 77 = .ok (.lcmp, 1) := by decide +kernel
theorem dX10_begin_78 : decode cX10_begin 78 = .ok (.ifCond .lt 16, 3) := by decide +kernel
theorem dX10_begin_81 : decode cX10_begin 81 = .ok (.aload_n 0, 1) := by decide +kernel
theorem dX10_begin_82 : decode cX10_begin 82 = .ok (.getfield 88, 3) := by decide +kernel
theorem dX10_begin_85 : decode cX10_begin 85 = .ok (.iload_n 1, 1) := by decide +kernel
theorem dX10_begin_86 : decode cX10_begin 86 = .ok (.laload, 1) := by decide +kernel
theorem dX10_begin_87 : decode cX10_begin 87 = .ok (.ldc2_w 322, 3) := by decide +kernel
theorem dX10_begin_90 : decode cX10_begin 90 = .ok (.lcmp, 1) := by decide +kernel
theorem dX10_begin_91 : decode cX10_begin 91 = .ok (.ifCond .le 20, 3) := by decide +kernel
theorem dX10_begin_94 : decode cX10_begin 94 = .ok (.aload_n 0, 1) := by decide +kernel
theorem dX10_begin_95 : decode cX10_begin 95 = .ok (.getfield 88, 3) := by decide +kernel
theorem dX10_begin_98 : decode cX10_begin 98 = .ok (.iload_n 1, 1) := by decide +kernel
theorem dX10_begin_99 : decode cX10_begin 99 = .ok (.laload, 1) := by decide +kernel
theorem dX10_begin_100 : decode cX10_begin 100 = .ok (.lconst 0, 1) := by decide +kernel
theorem dX10_begin_101 : decode cX10_begin 101 = .ok (.lcmp, 1) := by decide +kernel
theorem dX10_begin_102 : decode cX10_begin 102 = .ok (.ifCond .ge 7, 3) := by decide +kernel
theorem dX10_begin_105 : decode cX10_begin 105 = .ok (.iconst 3, 1) := by decide +kernel
theorem dX10_begin_106 : decode cX10_begin 106 = .ok (.goto 4, 3) := by decide +kernel
theorem dX10_begin_109 : decode cX10_begin 109 = .ok (.iconst 4, 1) := by decide +kernel
theorem dX10_begin_110 : decode cX10_begin 110 = .ok (.ireturn, 1) := by decide +kernel
theorem dX10_begin_111 : decode cX10_begin 111 = .ok (.iconst 0, 1) := by decide +kernel
theorem dX10_begin_112 : decode cX10_begin 112 = .ok (.istore 5, 2) := by decide +kernel
theorem dX10_begin_114 : decode cX10_begin 114 = .ok (.iload 5, 2) := by decide +kernel
theorem dX10_begin_116 : decode cX10_begin 116 = .ok (.sipush 200, 3) := by decide +kernel
theorem dX10_begin_119 : decode cX10_begin 119 = .ok (.if_icmp .ge 23, 3) := by decide +kernel
theorem dX10_begin_122 : decode cX10_begin 122 = .ok (.aload_n 0, 1) := by decide +kernel
theorem dX10_begin_123 : decode cX10_begin 123 = .ok (.getfield 106, 3) := by decide +kernel
theorem dX10_begin_126 : decode cX10_begin 126 = .ok (.sipush 200, 3) := by decide +kernel
theorem dX10_begin_129 : decode cX10_begin 129 = .ok (.iload_n 1, 1) := by decide +kernel
theorem dX10_begin_130 : decode cX10_begin 130 = .ok (.imul, 1) := by decide +kernel
theorem dX10_begin_131 : decode cX10_begin 131 = .ok (.iload 5, 2) := by decide +kernel
theorem dX10_begin_133 : decode cX10_begin 133 = .ok (.iadd, 1) := by decide +kernel
theorem dX10_begin_134 : decode cX10_begin 134 = .ok (.lconst 0, 1) := by decide +kernel
theorem dX10_begin_135 : decode cX10_begin 135 = .ok (.lastore, 1) := by decide +kernel
theorem dX10_begin_136 : decode cX10_begin 136 = .ok (.iinc 5 1, 3) := by decide +kernel
theorem dX10_begin_139 : decode cX10_begin 139 = .ok (.goto (-25), 3) := by decide +kernel
theorem dX10_begin_142 : decode cX10_begin 142 = .ok (.iconst 0, 1) := by decide +kernel
theorem dX10_begin_143 : decode cX10_begin 143 = .ok (.istore 5, 2) := by decide +kernel
theorem dX10_begin_145 : decode cX10_begin 145 = .ok (.iload 5, 2) := by decide +kernel
theorem dX10_begin_147 : decode cX10_begin 147 = .ok (.bipush 25, 2) := by decide +kernel
theorem dX10_begin_149 : decode cX10_begin 149 = .ok (.if_icmp .ge 22, 3) := by decide +kernel
theorem dX10_begin_152 : decode cX10_begin 152 = .ok (.aload_n 0, 1) := by decide +kernel
theorem dX10_begin_153 : decode cX10_begin 153 = .ok (.getfield 103, 3) := by decide +kernel
theorem dX10_begin_156 : decode cX10_begin 156 = .ok (.bipush 25, 2) := by decide +kernel
theorem dX10_begin_158 : decode cX10_begin 158 = .ok (.iload_n 1, 1) := by decide +kernel
theorem dX10_begin_159 : decode cX10_begin 159 = .ok (.imul, 1) := by decide +kernel
theorem dX10_begin_160 : decode cX10_begin 160 = .ok (.iload 5, 2) := by decide +kernel
theorem dX10_begin_162 : decode cX10_begin 162 = .ok (.iadd, 1) := by decide +kernel
theorem dX10_begin_163 : decode cX10_begin 163 = .ok (.iconst 0, 1) := by decide +kernel
theorem dX10_begin_164 : decode cX10_begin 164 = .ok (.iastore, 1) := by decide +kernel
theorem dX10_begin_165 : decode cX10_begin 165 = .ok (.iinc 5 1, 3) := by decide +kernel
theorem dX10_begin_168 : decode cX10_begin 168 = .ok (.goto (-23), 3) := by decide +kernel
theorem dX10_begin_171 : decode cX10_begin 171 = .ok (.aload_n 0, 1) := by decide +kernel
theorem dX10_begin_172 : decode cX10_begin 172 = .ok (.getfield 136, 3) := by decide +kernel
theorem dX10_begin_175 : decode cX10_begin 175 = .ok (.iload 4, 2) := by decide +kernel
theorem dX10_begin_177 : decode cX10_begin 177 = .ok (.iconst 0, 1) := by decide +kernel
theorem dX10_begin_178 : decode cX10_begin 178 = .ok (.iastore, 1) := by decide +kernel
theorem dX10_begin_179 : decode cX10_begin 179 = .ok (.aload_n 0, 1) := by decide +kernel
theorem dX10_begin_180 : decode cX10_begin 180 = .ok (.getfield 139, 3) := by decide +kernel
theorem dX10_begin_183 : decode cX10_begin 183 = .ok (.iload 4, 2) := by decide +kernel
theorem dX10_begin_185 : decode cX10_begin 185 = .ok (.aload_n 0, 1) := by decide +kernel
theorem dX10_begin_186 : decode cX10_begin 186 = .ok (.getfield 79, 3) := by decide +kernel
theorem dX10_begin_189 : decode cX10_begin 189 = .ok (.iload_n 1, 1) := by decide +kernel
theorem dX10_begin_190 : decode cX10_begin 190 = .ok (.baload, 1) := by decide +kernel
theorem dX10_begin_191 : decode cX10_begin 191 = .ok (.ifCond .eq 13, 3) := by decide +kernel
theorem dX10_begin_194 : decode cX10_begin 194 = .ok (.aload_n 0, 1) := by decide +kernel
theorem dX10_begin_195 : decode cX10_begin 195 = .ok (.getfield 88, 3) := by decide +kernel
theorem dX10_begin_198 : decode cX10_begin 198 = .ok (.iload_n 1, 1) := by decide +kernel
theorem dX10_begin_199 : decode cX10_begin 199 = .ok (.laload, 1) := by decide +kernel
theorem dX10_begin_200 : decode cX10_begin 200 = .ok (.l2i, 1) := by decide +kernel
theorem dX10_begin_201 : decode cX10_begin 201 = .ok (.goto 4, 3) := by decide +kernel
theorem dX10_begin_204 : decode cX10_begin 204 = .ok (.iconst 0, 1) := by decide +kernel
theorem dX10_begin_205 : decode cX10_begin 205 = .ok (.iastore, 1) := by decide +kernel
theorem dX10_begin_206 : decode cX10_begin 206 = .ok (.goto 68, 3) := by decide +kernel
theorem dX10_begin_209 : decode cX10_begin 209 = .ok (.aload_n 0, 1) := by decide +kernel
theorem dX10_begin_210 : decode cX10_begin 210 = .ok (.getfield 103, 3) := by decide +kernel
theorem dX10_begin_213 : decode cX10_begin 213 = .ok (.bipush 25, 2) := by decide +kernel
theorem dX10_begin_215 : decode cX10_begin 215 = .ok (.iload_n 1, 1) := by decide +kernel
theorem dX10_begin_216 : decode cX10_begin 216 = .ok (.imul, 1) := by decide +kernel
theorem dX10_begin_217 : decode cX10_begin 217 = .ok (.iload_n 2, 1) := by decide +kernel
theorem dX10_begin_218 : decode cX10_begin 218 = .ok (.iadd, 1) := by decide +kernel
theorem dX10_begin_219 : decode cX10_begin 219 = .ok (.iconst 1, 1) := by decide +kernel
theorem dX10_begin_220 : decode cX10_begin 220 = .ok (.iastore, 1) := by decide +kernel
theorem dX10_begin_221 : decode cX10_begin 221 = .ok (.aload_n 0, 1) := by decide +kernel
theorem dX10_begin_222 : decode cX10_begin 222 = .ok (.getfield 136, 3) := by decide +kernel
theorem dX10_begin_225 : decode cX10_begin 225 = .ok (.iload 4, 2) := by decide +kernel
theorem dX10_begin_227 : decode cX10_begin 227 = .ok (.bipush 8, 2) := by decide +kernel
theorem dX10_begin_229 : decode cX10_begin 229 = .ok (.iload_n 2, 1) := by decide +kernel
theorem dX10_begin_230 : decode cX10_begin 230 = .ok (.imul, 1) := by decide +kernel
theorem dX10_begin_231 : decode cX10_begin 231 = .ok (.iastore, 1) := by decide +kernel
theorem dX10_begin_232 : decode cX10_begin 232 = .ok (.aload_n 0, 1) := by decide +kernel
theorem dX10_begin_233 : decode cX10_begin 233 = .ok (.getfield 139, 3) := by decide +kernel
theorem dX10_begin_236 : decode cX10_begin 236 = .ok (.iload 4, 2) := by decide +kernel
theorem dX10_begin_238 : decode cX10_begin 238 = .ok (.bipush 8, 2) := by decide +kernel
theorem dX10_begin_240 : decode cX10_begin 240 = .ok (.iload_n 2, 1) := by decide +kernel
theorem dX10_begin_241 : decode cX10_begin 241 = .ok (.imul, 1) := by decide +kernel
theorem dX10_begin_242 : decode cX10_begin 242 = .ok (.bipush 8, 2) := by decide +kernel
theorem dX10_begin_244 : decode cX10_begin 244 = .ok (.iadd, 1) := by decide +kernel
theorem dX10_begin_245 : decode cX10_begin 245 = .ok (.i2l, 1) := by decide +kernel
theorem dX10_begin_246 : decode cX10_begin 246 = .ok (.aload_n 0, 1) := by decide +kernel
theorem dX10_begin_247 : decode cX10_begin 247 = .ok (.getfield 88, 3) := by decide +kernel
theorem dX10_begin_250 : decode cX10_begin 250 = .ok (.iload_n 1, 1) := by decide +kernel
theorem dX10_begin_251 : decode cX10_begin 251 = .ok (.laload, 1) := by decide +kernel
theorem dX10_begin_252 : decode cX10_begin 252 = .ok (.lcmp, 1) := by decide +kernel
theorem dX10_begin_253 : decode cX10_begin 253 = .ok (.ifCond .ge 13, 3) := by decide +kernel
theorem dX10_begin_256 : decode cX10_begin 256 = .ok (.bipush 8, 2) := by decide +kernel
theorem dX10_begin_258 : decode cX10_begin 258 = .ok (.iload_n 2, 1) := by decide +kernel
theorem dX10_begin_259 : decode cX10_begin 259 = .ok (.imul, 1) := by decide +kernel
theorem dX10_begin_260 : decode cX10_begin 260 = .ok (.bipush 8, 2) := by decide +kernel
theorem dX10_begin_262 : decode cX10_begin 262 = .ok (.iadd, 1) := by decide +kernel
theorem dX10_begin_263 : decode cX10_begin 263 = .ok (.goto 10, 3) := by decide +kernel
theorem dX10_begin_266 : decode cX10_begin 266 = .ok (.aload_n 0, 1) := by decide +kernel
theorem dX10_begin_267 : decode cX10_begin 267 = .ok (.getfield 88, 3) := by decide +kernel
theorem dX10_begin_270 : decode cX10_begin 270 = .ok (.iload_n 1, 1) := by decide +kernel
theorem dX10_begin_271 : decode cX10_begin 271 = .ok (.laload, 1) := by decide +kernel
theorem dX10_begin_272 : decode cX10_begin 272 = .ok (.l2i, 1) := by decide +kernel
theorem dX10_begin_273 : decode cX10_begin 273 = .ok (.iastore, 1) := by decide +kernel
theorem dX10_begin_274 : decode cX10_begin 274 = .ok (.aload_n 0, 1) := by decide +kernel
theorem dX10_begin_275 : decode cX10_begin 275 = .ok (.getfield 142, 3) := by decide +kernel
theorem dX10_begin_278 : decode cX10_begin 278 = .ok (.iload 4, 2) := by decide +kernel
theorem dX10_begin_280 : decode cX10_begin 280 = .ok (.aload_n 0, 1) := by decide +kernel
theorem dX10_begin_281 : decode cX10_begin 281 = .ok (.getfield 91, 3) := by decide +kernel
theorem dX10_begin_284 : decode cX10_begin 284 = .ok (.iload_n 1, 1) := by decide +kernel
theorem dX10_begin_285 : decode cX10_begin 285 = .ok (.iaload, 1) := by decide +kernel
theorem dX10_begin_286 : decode cX10_begin 286 = .ok (.iastore, 1) := by decide +kernel
theorem dX10_begin_287 : decode cX10_begin 287 = .ok (.aload_n 0, 1) := by decide +kernel
theorem dX10_begin_288 : decode cX10_begin 288 = .ok (.getfield 145, 3) := by decide +kernel
theorem dX10_begin_291 : decode cX10_begin 291 = .ok (.iload 4, 2) := by decide +kernel
theorem dX10_begin_293 : decode cX10_begin 293 = .ok (.iconst 0, 1) := by decide +kernel
theorem dX10_begin_294 : decode cX10_begin 294 = .ok (.iastore, 1) := by decide +kernel
theorem dX10_begin_295 : decode cX10_begin 295 = .ok (.iconst (-1), 1) := by decide +kernel
theorem dX10_begin_296 : decode cX10_begin 296 = .ok (.ireturn, 1) := by decide +kernel
theorem dX10_ask_0 : decode cX10_ask 0 = .ok (.aload_n 0, 1) := by decide +kernel
theorem dX10_ask_1 : decode cX10_ask 1 = .ok (.getfield 100, 3) := by decide +kernel
theorem dX10_ask_4 : decode cX10_ask 4 = .ok (.iload_n 1, 1) := by decide +kernel
theorem dX10_ask_5 : decode cX10_ask 5 = .ok (.iaload, 1) := by decide +kernel
theorem dX10_ask_6 : decode cX10_ask 6 = .ok (.ifCond .ne 13, 3) := by decide +kernel
theorem dX10_ask_9 : decode cX10_ask 9 = .ok (.aload_n 0, 1) := by decide +kernel
theorem dX10_ask_10 : decode cX10_ask 10 = .ok (.iload_n 1, 1) := by decide +kernel
theorem dX10_ask_11 : decode cX10_ask 11 = .ok (.bipush (-9), 2) := by decide +kernel
theorem dX10_ask_13 : decode cX10_ask 13 = .ok (.iload 4, 2) := by decide +kernel
theorem dX10_ask_15 : decode cX10_ask 15 = .ok (.invokevirtual 324, 3) := by decide +kernel
theorem dX10_ask_18 : decode cX10_ask 18 = .ok (.ireturn, 1) := by decide +kernel
theorem dX10_ask_19 : decode cX10_ask 19 = .ok (.aload_n 0, 1) := by decide +kernel
theorem dX10_ask_20 : decode cX10_ask 20 = .ok (.getfield 100, 3) := by decide +kernel
theorem dX10_ask_23 : decode cX10_ask 23 = .ok (.iload_n 1, 1) := by decide +kernel
theorem dX10_ask_24 : decode cX10_ask 24 = .ok (.iaload, 1) := by decide +kernel
theorem dX10_ask_25 : decode cX10_ask 25 = .ok (.iconst 3, 1) := by decide +kernel
theorem dX10_ask_26 : decode cX10_ask 26 = .ok (.if_icmp .ne 6, 3) := by decide +kernel
theorem dX10_ask_29 : decode cX10_ask 29 = .ok (.bipush 6, 2) := by decide +kernel
theorem dX10_ask_31 : decode cX10_ask 31 = .ok (.ireturn, 1) := by decide +kernel
theorem dX10_ask_32 : decode cX10_ask 32 = .ok (.iload 5, 2) := by decide +kernel
theorem dX10_ask_34 : decode cX10_ask 34 = .ok (.ifCond .eq 5, 3) := by decide +kernel
theorem dX10_ask_37 : decode cX10_ask 37 = .ok (.iconst 0, 1) := by decide +kernel
theorem dX10_ask_38 : decode cX10_ask 38 = .ok (.ireturn, 1) := by decide +kernel
theorem dX10_ask_39 : decode cX10_ask 39 = .ok (.lload_n 2, 1) := by decide +kernel
theorem dX10_ask_40 : decode cX10_ask 40 = .ok (.lconst 0, 1) := by decide +kernel
theorem dX10_ask_41 : decode cX10_ask 41 = .ok (.lcmp, 1) := by decide +kernel
theorem dX10_ask_42 : decode cX10_ask 42 = .ok (.ifCond .lt 14, 3) := by decide +kernel
theorem dX10_ask_45 : decode cX10_ask 45 = .ok (.lload_n 2, 1) := by decide +kernel
theorem dX10_ask_46 : decode cX10_ask 46 = .ok (.aload_n 0, 1) := by decide +kernel
theorem dX10_ask_47 : decode cX10_ask 47 = .ok (.getfield 88, 3) := by decide +kernel
theorem dX10_ask_50 : decode cX10_ask 50 = .ok (.iload_n 1, 1) := by decide +kernel
theorem dX10_ask_51 : decode cX10_ask 51 = .ok (.laload, 1) := by decide +kernel
theorem dX10_ask_52 : decode cX10_ask 52 = .ok (.lcmp, 1) := by decide +kernel
theorem dX10_ask_53 : decode cX10_ask 53 = .ok (.ifCond .lt 5, 3) := by decide +kernel
theorem dX10_ask_56 : decode cX10_ask 56 = .ok (.iconst 2, 1) := by decide +kernel
theorem dX10_ask_57 : decode cX10_ask 57 = .ok (.ireturn, 1) := by decide +kernel
theorem dX10_ask_58 : decode cX10_ask 58 = .ok (.lload_n 2, 1) := by decide +kernel
theorem dX10_ask_59 : decode cX10_ask 59 = .ok (.l2i, 1) := by decide +kernel
theorem dX10_ask_60 : decode cX10_ask 60 = .ok (.istore 6, 2) := by decide +kernel
theorem dX10_ask_62 : decode cX10_ask 62 = .ok (.bipush 25, 2) := by decide +kernel
theorem dX10_ask_64 : decode cX10_ask 64 = .ok (.iload_n 1, 1) := by decide +kernel
theorem dX10_ask_65 : decode cX10_ask 65 = .ok (.imul, 1) := by decide +kernel
theorem dX10_ask_66 : decode cX10_ask 66 = .ok (.iload 6, 2) := by decide +kernel
theorem dX10_ask_68 : decode cX10_ask 68 = .ok (.bipush 8, 2) := by decide +kernel
theorem dX10_ask_70 : decode cX10_ask 70 = .ok (.idiv, 1) := by decide +kernel
theorem dX10_ask_71 : decode cX10_ask 71 = .ok (.iadd, 1) := by decide +kernel
theorem dX10_ask_72 : decode cX10_ask 72 = .ok (.istore 7, 2) := by decide +kernel
theorem dX10_ask_74 : decode cX10_ask 74 = .ok (.aload_n 0, 1) := by decide +kernel
theorem dX10_ask_75 : decode cX10_ask 75 = .ok (.aload_n 0, 1) := by decide +kernel
theorem dX10_ask_76 : decode cX10_ask 76 = .ok (.getfield 106, 3) := by decide +kernel
theorem dX10_ask_79 : decode cX10_ask 79 = .ok (.sipush 200, 3) := by decide +kernel
theorem dX10_ask_82 : decode cX10_ask 82 = .ok (.iload_n 1, 1) := by decide +kernel
theorem dX10_ask_83 : decode cX10_ask 83 = .ok (.imul, 1) := by decide +kernel
theorem dX10_ask_84 : decode cX10_ask 84 = .ok (.iload 6, 2) := by decide +kernel
theorem dX10_ask_86 : decode cX10_ask 86 = .ok (.iadd, 1) := by decide +kernel
theorem dX10_ask_87 : decode cX10_ask 87 = .ok (.laload, 1) := by decide +kernel
theorem dX10_ask_88 : decode cX10_ask 88 = .ok (.putfield 328, 3) := by decide +kernel
theorem dX10_ask_91 : decode cX10_ask 91 = .ok (.aload_n 0, 1) := by decide +kernel
theorem dX10_ask_92 : decode cX10_ask 92 = .ok (.getfield 100, 3) := by decide +kernel
theorem dX10_ask_95 : decode cX10_ask 95 = .ok (.iload_n 1, 1) := by decide +kernel
theorem dX10_ask_96 : decode cX10_ask 96 = .ok (.iaload, 1) := by decide +kernel
theorem dX10_ask_97 : decode cX10_ask 97 = .ok (.iconst 1, 1) := by decide +kernel
theorem dX10_ask_98 : decode cX10_ask 98 = .ok (.if_icmp .ne 22, 3) := by decide +kernel
theorem dX10_ask_101 : decode cX10_ask 101 = .ok (.aload_n 0, 1) := by decide +kernel
theorem dX10_ask_102 : decode cX10_ask 102 = .ok (.aload_n 0, 1) := by decide +kernel
theorem dX10_ask_103 : decode cX10_ask 103 = .ok (.iload_n 1, 1) := by decide +kernel
theorem dX10_ask_104 : decode cX10_ask 104 = .ok (.iload 6, 2) := by decide +kernel
theorem dX10_ask_106 : decode cX10_ask 106 = .ok (.iload 4, 2) := by decide +kernel
theorem dX10_ask_108 : decode cX10_ask 108 = .ok (.aload_n 0, 1) := by decide +kernel
theorem dX10_ask_109 : decode cX10_ask 109 = .ok (.getfield 328, 3) := by decide +kernel
theorem dX10_ask_112 : decode cX10_ask 112 = .ok (.invokevirtual 332, 3) := by decide +kernel
theorem dX10_ask_115 : decode cX10_ask 115 = .ok (.putfield 328, 3) := by decide +kernel
theorem dX10_ask_118 : decode cX10_ask 118 = .ok (.iconst 0, 1) := by decide +kernel
theorem dX10_ask_119 : decode cX10_ask 119 = .ok (.ireturn, 1) := by decide +kernel
theorem dX10_ask_120 : decode cX10_ask 120 = .ok (.aload_n 0, 1) := by decide +kernel
theorem dX10_ask_121 : decode cX10_ask 121 = .ok (.getfield 79, 3) := by decide +kernel
theorem dX10_ask_124 : decode cX10_ask 124 = .ok (.iload_n 1, 1) := by decide +kernel
theorem dX10_ask_125 : decode cX10_ask 125 = .ok (.baload, 1) := by decide +kernel
theorem dX10_ask_126 : decode cX10_ask 126 = .ok (.ifCond .ne 14, 3) := by decide +kernel
theorem dX10_ask_129 : decode cX10_ask 129 = .ok (.aload_n 0, 1) := by decide +kernel
theorem dX10_ask_130 : decode cX10_ask 130 = .ok (.getfield 103, 3) := by decide +kernel
theorem dX10_ask_133 : decode cX10_ask 133 = .ok (.iload 7, 2) := by decide +kernel
theorem dX10_ask_135 : decode cX10_ask 135 = .ok (.iaload, 1) := by decide +kernel
theorem dX10_ask_136 : decode cX10_ask 136 = .ok (.iconst 2, 1) := by decide +kernel
theorem dX10_ask_137 : decode cX10_ask 137 = .ok (.if_icmp .ne 5, 3) := by decide +kernel
theorem dX10_ask_140 : decode cX10_ask 140 = .ok (.iconst 0, 1) := by decide +kernel
theorem dX10_ask_141 : decode cX10_ask 141 = .ok (.ireturn, 1) := by decide +kernel
theorem dX10_ask_142 : decode cX10_ask 142 = .ok (.aload_n 0, 1) := by decide +kernel
theorem dX10_ask_143 : decode cX10_ask 143 = .ok (.getfield 103, 3) := by decide +kernel
theorem dX10_ask_146 : decode cX10_ask 146 = .ok (.iload 7, 2) := by decide +kernel
theorem dX10_ask_148 : decode cX10_ask 148 = .ok (.iaload, 1) := by decide +kernel
theorem dX10_ask_149 : decode cX10_ask 149 = .ok (.ifCond .ne 16, 3) := by decide +kernel
theorem dX10_ask_152 : decode cX10_ask 152 = .ok (.aload_n 0, 1) := by decide +kernel
theorem dX10_ask_153 : decode cX10_ask 153 = .ok (.iload_n 1, 1) := by decide +kernel
theorem dX10_ask_154 : decode cX10_ask 154 = .ok (.iload 6, 2) := by decide +kernel
theorem dX10_ask_156 : decode cX10_ask 156 = .ok (.bipush 8, 2) := by decide +kernel
theorem dX10_ask_158 : decode cX10_ask 158 = .ok (.idiv, 1) := by decide +kernel
theorem dX10_ask_159 : decode cX10_ask 159 = .ok (.iload 4, 2) := by decide +kernel
theorem dX10_ask_161 : decode cX10_ask 161 = .ok (.invokevirtual 324, 3) := by decide +kernel
theorem dX10_ask_164 : decode cX10_ask 164 = .ok (.ireturn, 1) := by decide +kernel
theorem dX10_ask_165 : decode cX10_ask 165 = .ok (.aload_n 0, 1) := by decide +kernel
theorem dX10_ask_166 : decode cX10_ask 166 = .ok (.getfield 103, 3) := by decide +kernel
theorem dX10_ask_169 : decode cX10_ask 169 = .ok (.iload 7, 2) := by decide +kernel
theorem dX10_ask_171 : decode cX10_ask 171 = .ok (.iaload, 1) := by decide +kernel
theorem dX10_ask_172 : decode cX10_ask 172 = .ok (.iconst 3, 1) := by decide +kernel
theorem dX10_ask_173 : decode cX10_ask 173 = .ok (.if_icmp .ne 6, 3) := by decide +kernel
theorem dX10_ask_176 : decode cX10_ask 176 = .ok (.bipush 6, 2) := by decide +kernel
theorem dX10_ask_178 : decode cX10_ask 178 = .ok (.ireturn, 1) := by decide +kernel
theorem dX10_ask_179 : decode cX10_ask 179 = .ok (.aload_n 0, 1) := by decide +kernel
theorem dX10_ask_180 : decode cX10_ask 180 = .ok (.aload_n 0, 1) := by decide +kernel
theorem dX10_ask_181 : decode cX10_ask 181 = .ok (.iload_n 1, 1) := by decide +kernel
theorem dX10_ask_182 : decode cX10_ask 182 = .ok (.iload 6, 2) := by decide +kernel
theorem dX10_ask_184 : decode cX10_ask 184 = .ok (.iload 4, 2) := by decide +kernel
theorem dX10_ask_186 : decode cX10_ask 186 = .ok (.aload_n 0, 1) := by decide +kernel
theorem dX10_ask_187 : decode cX10_ask 187 = .ok (.getfield 328, 3) := by decide +kernel
theorem dX10_ask_190 : decode cX10_ask 190 = .ok (.invokevirtual 332, 3) := by decide +kernel
theorem dX10_ask_193 : decode cX10_ask 193 = .ok (.putfield 328, 3) := by decide +kernel
theorem dX10_ask_196 : decode cX10_ask 196 = .ok (.iconst 0, 1) := by decide +kernel
theorem dX10_ask_197 : decode cX10_ask 197 = .ok (.ireturn, 1) := by decide +kernel
theorem dX10_failAll_0 : decode cX10_failAll 0 = .ok (.aload_n 0, 1) := by decide +kernel
theorem dX10_failAll_1 : decode cX10_failAll 1 = .ok (.aload_n 0, 1) := by decide +kernel
theorem dX10_failAll_2 : decode cX10_failAll 2 = .ok (.getfield 315, 3) := by decide +kernel
theorem dX10_failAll_5 : decode cX10_failAll 5 = .ok (.ifCond .ne 7, 3) := by decide +kernel
theorem dX10_failAll_8 : decode cX10_failAll 8 = .ok (.iconst 1, 1) := by decide +kernel
theorem dX10_failAll_9 : decode cX10_failAll 9 = .ok (.goto 7, 3) := by decide +kernel
theorem dX10_failAll_12 : decode cX10_failAll 12 = .ok (.aload_n 0, 1) := by decide +kernel
theorem dX10_failAll_13 : decode cX10_failAll 13 = .ok (.getfield 315, 3) := by decide +kernel
theorem dX10_failAll_16 : decode cX10_failAll 16 = .ok (.putfield 302, 3) := by decide +kernel
theorem dX10_failAll_19 : decode cX10_failAll 19 = .ok (.aload_n 0, 1) := by decide +kernel
theorem dX10_failAll_20 : decode cX10_failAll 20 = .ok (.iload_n 1, 1) := by decide +kernel
theorem dX10_failAll_21 : decode cX10_failAll 21 = .ok (.putfield 336, 3) := by decide +kernel
theorem dX10_failAll_24 : decode cX10_failAll 24 = .ok (.aload_n 0, 1) := by decide +kernel
theorem dX10_failAll_25 : decode cX10_failAll 25 = .ok (.getfield 315, 3) := by decide +kernel
theorem dX10_failAll_28 : decode cX10_failAll 28 = .ok (.ifCond .le 128, 3) := by decide +kernel
theorem dX10_failAll_31 : decode cX10_failAll 31 = .ok (.aload_n 0, 1) := by decide +kernel
theorem dX10_failAll_32 : decode cX10_failAll 32 = .ok (.dup, 1) := by decide +kernel
theorem dX10_failAll_33 : decode cX10_failAll 33 = .ok (.getfield 315, 3) := by decide +kernel
theorem dX10_failAll_36 : decode cX10_failAll 36 = .ok (.iconst 1, 1) := by decide +kernel
theorem dX10_failAll_37 : decode cX10_failAll 37 = .ok (.isub, 1) := by decide +kernel
theorem dX10_failAll_38 : decode cX10_failAll 38 = .ok (.putfield 315, 3) := by decide +kernel
theorem dX10_failAll_41 : decode cX10_failAll 41 = .ok (.aload_n 0, 1) := by decide +kernel
theorem dX10_failAll_42 : decode cX10_failAll 42 = .ok (.getfield 130, 3) := by decide +kernel
theorem dX10_failAll_45 : decode cX10_failAll 45 = .ok (.aload_n 0, 1) := by decide +kernel
theorem dX10_failAll_46 : decode cX10_failAll 46 = .ok (.getfield 315, 3) := by decide +kernel
theorem dX10_failAll_49 : decode cX10_failAll 49 = .ok (.iaload, 1) := by decide +kernel
theorem dX10_failAll_50 : decode cX10_failAll 50 = .ok (.istore_n 2, 1) := by decide +kernel
theorem dX10_failAll_51 : decode cX10_failAll 51 = .ok (.aload_n 0, 1) := by decide +kernel
theorem dX10_failAll_52 : decode cX10_failAll 52 = .ok (.getfield 133, 3) := by decide +kernel
theorem dX10_failAll_55 : decode cX10_failAll 55 = .ok (.aload_n 0, 1) := by decide +kernel
theorem dX10_failAll_56 : decode cX10_failAll 56 = .ok (.getfield 315, 3) := by decide +kernel
theorem dX10_failAll_59 : decode cX10_failAll 59 = .ok (.iaload, 1) := by decide +kernel
theorem dX10_failAll_60 : decode cX10_failAll 60 = .ok (.bipush (-9), 2) := by decide +kernel
theorem dX10_failAll_62 : decode cX10_failAll 62 = .ok (.if_icmp .ne 13, 3) := by decide +kernel
theorem dX10_failAll_65 : decode cX10_failAll 65 = .ok (.aload_n 0, 1) := by decide +kernel
theorem dX10_failAll_66 : decode cX10_failAll 66 = .ok (.getfield 100, 3) := by decide +kernel
theorem dX10_failAll_69 : decode cX10_failAll 69 = .ok (.iload_n 2, 1) := by decide +kernel
theorem dX10_failAll_70 : decode cX10_failAll 70 = .ok (.iconst 3, 1) := by decide +kernel
theorem dX10_failAll_71 : decode cX10_failAll 71 = .ok (.iastore, 1) := by decide +kernel
theorem dX10_failAll_72 : decode cX10_failAll 72 = .ok (.goto 81, 3) := by decide +kernel
theorem dX10_failAll_75 : decode cX10_failAll 75 = .ok (.aload_n 0, 1) := by decide +kernel
theorem dX10_failAll_76 : decode cX10_failAll 76 = .ok (.getfield 103, 3) := by decide +kernel
theorem dX10_failAll_79 : decode cX10_failAll 79 = .ok (.bipush 25, 2) := by decide +kernel
theorem dX10_failAll_81 : decode cX10_failAll 81 = .ok (.iload_n 2, 1) := by decide +kernel
theorem dX10_failAll_82 : decode cX10_failAll 82 = .ok (.imul, 1) := by decide +kernel
theorem dX10_failAll_83 : decode cX10_failAll 83 = .ok (.aload_n 0, 1) := by decide +kernel
theorem dX10_failAll_84 : decode cX10_failAll 84 = .ok (.getfield 133, 3) := by decide +kernel
theorem dX10_failAll_87 : decode cX10_failAll 87 = .ok (.aload_n 0, 1) := by decide +kernel
theorem dX10_failAll_88 : decode cX10_failAll 88 = .ok (.getfield 315, 3) := by decide +kernel
theorem dX10_failAll_91 : decode cX10_failAll 91 = .ok (.iaload, 1) := by decide +kernel
theorem dX10_failAll_92 : decode cX10_failAll 92 = .ok (.iadd, 1) := by decide +kernel
theorem dX10_failAll_93 : decode cX10_failAll 93 = .ok (.iconst 3, 1) := by decide +kernel
theorem dX10_failAll_94 : decode cX10_failAll 94 = .ok (.iastore, 1) := by decide +kernel
theorem dX10_failAll_95 : decode cX10_failAll 95 = .ok (.bipush 8, 2) := by decide +kernel
theorem dX10_failAll_97 : decode cX10_failAll 97 = .ok (.aload_n 0, 1) := by decide +kernel
theorem dX10_failAll_98 : decode cX10_failAll 98 = .ok (.getfield 133, 3) := by decide +kernel
theorem dX10_failAll_101 : decode cX10_failAll 101 = .ok (.aload_n 0, 1) := by decide +kernel
theorem dX10_failAll_102 : decode cX10_failAll 102 = .ok (.getfield 315, 3) := by decide +kernel
theorem dX10_failAll_105 : decode cX10_failAll 105 = .ok (.iaload, 1) := by decide +kernel
theorem dX10_failAll_106 : decode cX10_failAll 106 = .ok (.imul, 1) := by decide +kernel
theorem dX10_failAll_107 : decode cX10_failAll 107 = .ok (.istore_n 3, 1) := by decide +kernel
theorem dX10_failAll_108 : decode cX10_failAll 108 = .ok (.iload_n 3, 1) := by decide +kernel
theorem dX10_failAll_109 : decode cX10_failAll 109 = .ok (.bipush 8, 2) := by decide +kernel
theorem dX10_failAll_111 : decode cX10_failAll 111 = .ok (.aload_n 0, 1) := by decide +kernel
theorem dX10_failAll_112 : decode cX10_failAll 112 = .ok (.getfield 133, 3) := by decide +kernel
theorem dX10_failAll_115 : decode cX10_failAll 115 = .ok (.aload_n 0, 1) := by decide +kernel
theorem dX10_failAll_116 : decode cX10_failAll 116 = .ok (.getfield 315, 3) := by decide +kernel
theorem dX10_failAll_119 : decode cX10_failAll 119 = .ok (.iaload, 1) := by decide +kernel
theorem dX10_failAll_120 : decode cX10_failAll 120 = .ok (.imul, 1) := by decide +kernel
theorem dX10_failAll_121 : decode cX10_failAll 121 = .ok (.bipush 8, 2) := by decide +kernel
theorem dX10_failAll_123 : decode cX10_failAll 123 = .ok (.iadd, 1) := by decide +kernel
theorem dX10_failAll_124 : decode cX10_failAll 124 = .ok (.if_icmp .ge 29, 3) := by decide +kernel
theorem dX10_failAll_127 : decode cX10_failAll 127 = .ok (.iload_n 3, 1) := by decide +kernel
theorem dX10_failAll_128 : decode cX10_failAll 128 = .ok (.sipush 200, 3) := by decide +kernel
theorem dX10_failAll_131 : decode cX10_failAll 131 = .ok (.if_icmp .ge 22, 3) := by decide +kernel
theorem dX10_failAll_134 : decode cX10_failAll 134 = .ok (.aload_n 0, 1) := by decide +kernel
theorem dX10_failAll_135 : decode cX10_failAll 135 = .ok (.getfield 106, 3) := by decide +kernel
theorem dX10_failAll_138 : decode cX10_failAll 138 = .ok (.sipush 200, 3) := by decide +kernel
theorem dX10_failAll_141 : decode cX10_failAll 141 = .ok (.iload_n 2, 1) := by decide +kernel
theorem dX10_failAll_142 : decode cX10_failAll 142 = .ok (.imul, 1) := by decide +kernel
theorem dX10_failAll_143 : decode cX10_failAll 143 = .ok (.iload_n 3, 1) := by decide +kernel
theorem dX10_failAll_144 : decode cX10_failAll 144 = .ok (.iadd, 1) := by decide +kernel
theorem dX10_failAll_145 : decode cX10_failAll 145 = .ok (.lconst 0, 1) := by decide +kernel
theorem dX10_failAll_146 : decode cX10_failAll 146 = .ok (.lastore, 1) := by decide +kernel
theorem dX10_failAll_147 : decode cX10_failAll 147 = .ok (.iinc 3 1, 3) := by decide +kernel
theorem dX10_failAll_150 : decode cX10_failAll 150 = .ok (.goto (-42), 3) := by decide +kernel
theorem dX10_failAll_153 : decode cX10_failAll 153 = .ok (.goto (-129), 3) := by decide +kernel
theorem dX10_failAll_156 : decode cX10_failAll 156 = .ok (.return_, 1) := by decide +kernel
theorem dX10_takeTop_0 : decode cX10_takeTop 0 = .ok (.aload_n 0, 1) := by decide +kernel
theorem dX10_takeTop_1 : decode cX10_takeTop 1 = .ok (.getfield 145, 3) := by decide +kernel
theorem dX10_takeTop_4 : decode cX10_takeTop 4 = .ok (.iload_n 1, 1) := by decide +kernel
theorem dX10_takeTop_5 : decode cX10_takeTop 5 = .ok (.dup2, 1) := by decide +kernel
theorem dX10_takeTop_6 : decode cX10_takeTop 6 = .ok (.iaload, 1) := by decide +kernel
theorem dX10_takeTop_7 : decode cX10_takeTop 7 = .ok (.iconst 1, 1) := by decide +kernel
theorem dX10_takeTop_8 : decode cX10_takeTop 8 = .ok (.isub, 1) := by decide +kernel
theorem dX10_takeTop_9 : decode cX10_takeTop 9 = .ok (.iastore, 1) := by decide +kernel
theorem dX10_takeTop_10 : decode cX10_takeTop 10 = .ok (.aload_n 0, 1) := by decide +kernel
theorem dX10_takeTop_11 : decode cX10_takeTop 11 = .ok (.getfield 148, 3) := by decide +kernel
theorem dX10_takeTop_14 : decode cX10_takeTop 14 = .ok (.bipush 40, 2) := by decide +kernel
theorem dX10_takeTop_16 : decode cX10_takeTop 16 = .ok (.iload_n 1, 1) := by decide +kernel
theorem dX10_takeTop_17 : decode cX10_takeTop 17 = .ok (.imul, 1) := by decide +kernel
theorem dX10_takeTop_18 : decode cX10_takeTop 18 = .ok (.aload_n 0, 1) := by decide +kernel
theorem dX10_takeTop_19 : decode cX10_takeTop 19 = .ok (.getfield 145, 3) := by decide +kernel
theorem dX10_takeTop_22 : decode cX10_takeTop 22 = .ok (.iload_n 1, 1) := by decide +kernel
theorem dX10_takeTop_23 : decode cX10_takeTop 23 = .ok (.iaload, 1) := by decide +kernel
theorem dX10_takeTop_24 : decode cX10_takeTop 24 = .ok (.iadd, 1) := by decide +kernel
theorem dX10_takeTop_25 : decode cX10_takeTop 25 = .ok (.laload, 1) := by decide +kernel
theorem dX10_takeTop_26 : decode cX10_takeTop 26 = .ok (.lreturn, 1) := by decide +kernel
theorem dX10_putTop_0 : decode cX10_putTop 0 = .ok (.aload_n 0, 1) := by decide +kernel
theorem dX10_putTop_1 : decode cX10_putTop 1 = .ok (.getfield 148, 3) := by decide +kernel
theorem dX10_putTop_4 : decode cX10_putTop 4 = .ok (.bipush 40, 2) := by decide +kernel
theorem dX10_putTop_6 : decode cX10_putTop 6 = .ok (.iload_n 1, 1) := by decide +kernel
theorem dX10_putTop_7 : decode cX10_putTop 7 = .ok (.imul, 1) := by decide +kernel
theorem dX10_putTop_8 : decode cX10_putTop 8 = .ok (.aload_n 0, 1) := by decide +kernel
theorem dX10_putTop_9 : decode cX10_putTop 9 = .ok (.getfield 145, 3) := by decide +kernel
theorem dX10_putTop_12 : decode cX10_putTop 12 = .ok (.iload_n 1, 1) := by decide +kernel
theorem dX10_putTop_13 : decode cX10_putTop 13 = .ok (.iaload, 1) := by decide +kernel
theorem dX10_putTop_14 : decode cX10_putTop 14 = .ok (.iadd, 1) := by decide +kernel
theorem dX10_putTop_15 : decode cX10_putTop 15 = .ok (.lload_n 2, 1) := by decide +kernel
theorem dX10_putTop_16 : decode cX10_putTop 16 = .ok (.lastore, 1) := by decide +kernel
theorem dX10_putTop_17 : decode cX10_putTop 17 = .ok (.aload_n 0, 1) := by decide +kernel
theorem dX10_putTop_18 : decode cX10_putTop 18 = .ok (.getfield 145, 3) := by decide +kernel
theorem dX10_putTop_21 : decode cX10_putTop 21 = .ok (.iload_n 1, 1) := by decide +kernel
theorem dX10_putTop_22 : decode cX10_putTop 22 = .ok (.dup2, 1) := by decide +kernel
theorem dX10_putTop_23 : decode cX10_putTop 23 = .ok (.iaload, 1) := by decide +kernel
theorem dX10_putTop_24 : decode cX10_putTop 24 = .ok (.iconst 1, 1) := by decide +kernel
theorem dX10_putTop_25 : decode cX10_putTop 25 = .ok (.iadd, 1) := by decide +kernel
theorem dX10_putTop_26 : decode cX10_putTop 26 = .ok (.iastore, 1) := by decide +kernel
theorem dX10_putTop_27 : decode cX10_putTop 27 = .ok (.return_, 1) := by decide +kernel
theorem dX10_step_0 : decode cX10_step 0 = .ok (.aload_n 0, 1) := by decide +kernel
theorem dX10_step_1 : decode cX10_step 1 = .ok (.getfield 142, 3) := by decide +kernel
theorem dX10_step_4 : decode cX10_step 4 = .ok (.iload_n 1, 1) := by decide +kernel
theorem dX10_step_5 : decode cX10_step 5 = .ok (.iaload, 1) := by decide +kernel
theorem dX10_step_6 : decode cX10_step 6 = .ok (.istore_n 2, 1) := by decide +kernel
theorem dX10_step_7 : decode cX10_step 7 = .ok (.aload_n 0, 1) := by decide +kernel
theorem dX10_step_8 : decode cX10_step 8 = .ok (.getfield 94, 3) := by decide +kernel
theorem dX10_step_11 : decode cX10_step 11 = .ok (.iload_n 2, 1) := by decide +kernel
theorem dX10_step_12 : decode cX10_step 12 = .ok (.iaload, 1) := by decide +kernel
theorem dX10_step_13 : decode cX10_step 13 = .ok (.istore_n 3, 1) := by decide +kernel
theorem dX10_step_14 : decode cX10_step 14 = .ok (.aload_n 0, 1) := by decide +kernel
theorem dX10_step_15 : decode cX10_step 15 = .ok (.getfield 142, 3) := by decide +kernel
theorem dX10_step_18 : decode cX10_step 18 = .ok (.iload_n 1, 1) := by decide +kernel
theorem dX10_step_19 : decode cX10_step 19 = .ok (.dup2, 1) := by decide +kernel
theorem dX10_step_20 : decode cX10_step 20 = .ok (.iaload, 1) := by decide +kernel
theorem dX10_step_21 : decode cX10_step 21 = .ok (.iconst 1, 1) := by decide +kernel
theorem dX10_step_22 : decode cX10_step 22 = .ok (.iadd, 1) := by decide +kernel
theorem dX10_step_23 : decode cX10_step 23 = .ok (.iastore, 1) := by decide +kernel
theorem dX10_step_24 : decode cX10_step 24 = .ok (.iload_n 3, 1) := by decide +kernel
theorem dX10_step_25 : decode cX10_step 25 = .ok (.iconst 1, 1) := by decide +kernel
theorem dX10_step_26 : decode cX10_step 26 = .ok (.if_icmp .eq 13, 3) := by decide +kernel
theorem dX10_step_29 : decode cX10_step 29 = .ok (.iload_n 3, 1) := by decide +kernel
theorem dX10_step_30 : decode cX10_step 30 = .ok (.iconst 2, 1) := by decide +kernel
theorem dX10_step_31 : decode cX10_step 31 = .ok (.if_icmp .eq 8, 3) := by decide +kernel
theorem dX10_step_34 : decode cX10_step 34 = .ok (.iload_n 3, 1) := by decide +kernel
theorem dX10_step_35 : decode cX10_step 35 = .ok (.iconst 3, 1) := by decide +kernel
theorem dX10_step_36 : decode cX10_step 36 = .ok (.if_icmp .ne 51, 3) := by decide +kernel
theorem dX10_step_39 : decode cX10_step 39 = .ok (.aload_n 0, 1) := by decide +kernel
theorem dX10_step_40 : decode cX10_step 40 = .ok (.iload_n 1, 1) := by decide +kernel
theorem dX10_step_41 : decode cX10_step 41 = .ok (.iload_n 3, 1) := by decide +kernel
theorem dX10_step_42 : decode cX10_step 42 = .ok (.iconst 1, 1) := by decide +kernel
theorem dX10_step_43 : decode cX10_step 43 = .ok (.if_icmp .ne 12, 3) := by decide +kernel
theorem dX10_step_46 : decode cX10_step 46 = .ok (.aload_n 0, 1) := by decide +kernel
theorem dX10_step_47 : decode cX10_step 47 = .ok (.getfield 97, 3) := by decide +kernel
theorem dX10_step_50 : decode cX10_step 50 = .ok (.iload_n 2, 1) := by decide +kernel
theorem dX10_step_51 : decode cX10_step 51 = .ok (.laload, 1) := by decide +kernel
theorem dX10_step_52 : decode cX10_step 52 = .ok (.goto 30, 3) := by decide +kernel
theorem dX10_step_55 : decode cX10_step 55 = .ok (.iload_n 3, 1) := by decide +kernel
theorem dX10_step_56 : decode cX10_step 56 = .ok (.iconst 2, 1) := by decide +kernel
theorem dX10_step_57 : decode cX10_step 57 = .ok (.if_icmp .ne 13, 3) := by decide +kernel
theorem dX10_step_60 : decode cX10_step 60 = .ok (.aload_n 0, 1) := by decide +kernel
theorem dX10_step_61 : decode cX10_step 61 = .ok (.getfield 136, 3) := by decide +kernel
theorem dX10_step_64 : decode cX10_step 64 = .ok (.iload_n 1, 1) := by decide +kernel
theorem dX10_step_65 : decode cX10_step 65 = .ok (.iaload, 1) := by decide +kernel
theorem dX10_step_66 : decode cX10_step 66 = .ok (.i2l, 1) := by decide +kernel
theorem dX10_step_67 : decode cX10_step 67 = .ok (.goto 15, 3) := by decide +kernel
theorem dX10_step_70 : decode cX10_step 70 = .ok (.aload_n 0, 1) := by decide +kernel
theorem dX10_step_71 : decode cX10_step 71 = .ok (.getfield 88, 3) := by decide +kernel
theorem dX10_step_74 : decode cX10_step 74 = .ok (.aload_n 0, 1) := by decide +kernel
theorem dX10_step_75 : decode cX10_step 75 = .ok (.getfield 97, 3) := by decide +kernel
theorem dX10_step_78 : decode cX10_step 78 = .ok (.iload_n 2, 1) := by decide +kernel
theorem dX10_step_79 : decode cX10_step 79 = .ok (.laload, 1) := by decide +kernel
theorem dX10_step_80 : decode cX10_step 80 = .ok (.l2i, 1) := by decide +kernel
theorem dX10_step_81 : decode cX10_step 81 = .ok (.laload, 1) := by decide +kernel
theorem dX10_step_82 : decode cX10_step 82 = .ok (.invokevirtual 339, 3) := by decide +kernel
theorem dX10_step_85 : decode cX10_step 85 = .ok (.iconst 0, 1) := by decide +kernel
theorem dX10_step_86 : decode cX10_step 86 = .ok (.ireturn, 1) := by decide +kernel
theorem dX10_step_87 : decode cX10_step 87 = .ok (.iload_n 3, 1) := by decide +kernel
theorem dX10_step_88 : decode cX10_step 88 = .ok (.bipush 13, 2) := by decide +kernel
theorem dX10_step_90 : decode cX10_step 90 = .ok (.if_icmp .ne 18, 3) := by decide +kernel
theorem dX10_step_93 : decode cX10_step 93 = .ok (.aload_n 0, 1) := by decide +kernel
theorem dX10_step_94 : decode cX10_step 94 = .ok (.getfield 142, 3) := by decide +kernel
theorem dX10_step_97 : decode cX10_step 97 = .ok (.iload_n 1, 1) := by decide +kernel
theorem dX10_step_98 : decode cX10_step 98 = .ok (.aload_n 0, 1) := by decide +kernel
theorem dX10_step_99 : decode cX10_step 99 = .ok (.getfield 97, 3) := by decide +kernel
theorem dX10_step_102 : decode cX10_step 102 = .ok (.iload_n 2, 1) := by decide +kernel
theorem dX10_step_103 : decode cX10_step 103 = .ok (.laload, 1) := by decide +kernel
theorem dX10_step_104 : decode cX10_step 104 = .ok (.l2i, 1) := by decide +kernel
theorem dX10_step_105 : decode cX10_step 105 = .ok (.iastore, 1) := by decide +kernel
theorem dX10_step_106 : decode cX10_step 106 = .ok (.iconst 0, 1) := by decide +kernel
theorem dX10_step_107 : decode cX10_step 107 = .ok (.ireturn, 1) := by decide +kernel
theorem dX10_step_108 : decode cX10_step 108 = .ok (.aload_n 0, 1) := by decide +kernel
theorem dX10_step_109 : decode cX10_step 109 = .ok (.iload_n 1, 1) := by decide +kernel
theorem dX10_step_110 : decode cX10_step 110 = .ok (.invokevirtual 342, 3) := by decide +kernel
theorem dX10_step_113 : decode cX10_step 113 = .ok (.lstore 4, 2) := by decide +kernel
theorem dX10_step_115 : decode cX10_step 115 = .ok (.iload_n 3, 1) := by decide +kernel
theorem dX10_step_116 : decode cX10_step 116 = .ok (.bipush 12, 2) := by decide +kernel
theorem dX10_step_118 : decode cX10_step 118 = .ok (.if_icmp .ne 34, 3) := by decide +kernel
theorem dX10_step_121 : decode cX10_step 121 = .ok (.aload_n 0, 1) := by decide +kernel
theorem dX10_step_122 : decode cX10_step 122 = .ok (.getfield 142, 3) := by decide +kernel
theorem dX10_step_125 : decode cX10_step 125 = .ok (.iload_n 1, 1) := by decide +kernel
theorem dX10_step_126 : decode cX10_step 126 = .ok (.lload 4, 2) := by decide +kernel
theorem dX10_step_128 : decode cX10_step 128 = .ok (.lconst 0, 1) := by decide +kernel
theorem dX10_step_129 : decode cX10_step 129 = .ok (.lcmp, 1) := by decide +kernel
theorem dX10_step_130 : decode cX10_step 130 = .ok (.ifCond .ne 13, 3) := by decide +kernel
theorem dX10_step_133 : decode cX10_step 133 = .ok (.aload_n 0, 1) := by decide +kernel
theorem dX10_step_134 : decode cX10_step 134 = .ok (.getfield 97, 3) := by decide +kernel
theorem dX10_step_137 : decode cX10_step 137 = .ok (.iload_n 2, 1) := by decide +kernel
theorem dX10_step_138 : decode cX10_step 138 = .ok (.laload, 1) := by decide +kernel
theorem dX10_step_139 : decode cX10_step 139 = .ok (.l2i, 1) := by decide +kernel
theorem dX10_step_140 : decode cX10_step 140 = .ok (.goto 9, 3) := by decide +kernel
theorem dX10_step_143 : decode cX10_step 143 = .ok (.aload_n 0, 1) := by decide +kernel
theorem dX10_step_144 : decode cX10_step 144 = .ok (.getfield 142, 3) := by decide +kernel
theorem dX10_step_147 : decode cX10_step 147 = .ok (.iload_n 1, 1) := by decide +kernel
theorem dX10_step_148 : decode cX10_step 148 = .ok (.iaload, 1) := by decide +kernel
theorem dX10_step_149 : decode cX10_step 149 = .ok (.iastore, 1) := by decide +kernel
theorem dX10_step_150 : decode cX10_step 150 = .ok (.iconst 0, 1) := by decide +kernel
theorem dX10_step_151 : decode cX10_step 151 = .ok (.ireturn, 1) := by decide +kernel
theorem dX10_step_152 : decode cX10_step 152 = .ok (.iload_n 3, 1) := by decide +kernel
theorem dX10_step_153 : decode cX10_step 153 = .ok (.iconst 5, 1) := by decide +kernel
theorem dX10_step_154 : decode cX10_step 154 = .ok (.if_icmp .ne 13, 3) := by decide +kernel
theorem dX10_step_157 : decode cX10_step 157 = .ok (.aload_n 0, 1) := by decide +kernel
theorem dX10_step_158 : decode cX10_step 158 = .ok (.iload_n 1, 1) := by decide +kernel
theorem dX10_step_159 : decode cX10_step 159 = .ok (.lload 4, 2) := by decide +kernel
theorem dX10_step_161 : decode cX10_step 161 = .ok (.lneg, 1) := by decide +kernel
theorem dX10_step_162 : decode cX10_step 162 = .ok (.invokevirtual 339, 3) := by decide +kernel
theorem dX10_step_165 : decode cX10_step 165 = .ok (.iconst 0, 1) := by decide +kernel
theorem dX10_step_166 : decode cX10_step 166 = .ok (.ireturn, 1) := by decide +kernel
theorem dX10_step_167 : decode cX10_step 167 = .ok (.iload_n 3, 1) := by decide +kernel
theorem dX10_step_168 : decode cX10_step 168 = .ok (.iconst 4, 1) := by decide +kernel
theorem dX10_step_169 : decode cX10_step 169 = .ok (.if_icmp .ne 65, 3) := by decide +kernel
theorem dX10_step_172 : decode cX10_step 172 = .ok (.aload_n 0, 1) := by decide +kernel
theorem dX10_step_173 : decode cX10_step 173 = .ok (.aload_n 0, 1) := by decide +kernel
theorem dX10_step_174 : decode cX10_step 174 = .ok (.getfield 97, 3) := by decide +kernel
theorem dX10_step_177 : decode cX10_step 177 = .ok (.iload_n 2, 1) := by decide +kernel
theorem dX10_step_178 : decode cX10_step 178 = .ok (.laload, 1) := by decide +kernel
theorem dX10_step_179 : decode cX10_step 179 = .ok (.l2i, 1) := by decide +kernel
theorem dX10_step_180 : decode cX10_step 180 = .ok (.lload 4, 2) := by decide +kernel
theorem dX10_step_182 : decode cX10_step 182 = .ok (.aload_n 0, 1) := by decide +kernel
theorem dX10_step_183 : decode cX10_step 183 = .ok (.getfield 130, 3) := by decide +kernel
theorem dX10_step_186 : decode cX10_step 186 = .ok (.iload_n 1, 1) := by decide +kernel
theorem dX10_step_187 : decode cX10_step 187 = .ok (.iaload, 1) := by decide +kernel
theorem dX10_step_188 : decode cX10_step 188 = .ok (.iconst 0, 1) := by decide +kernel
theorem dX10_step_189 : decode cX10_step 189 = .ok (.invokevirtual 345, 3) := by decide +kernel
theorem dX10_step_192 : decode cX10_step 192 = .ok (.istore 6, 2) := by decide +kernel
theorem dX10_step_194 : decode cX10_step 194 = .ok (.iload 6, 2) := by decide +kernel
theorem dX10_step_196 : decode cX10_step 196 = .ok (.iconst (-1), 1) := by decide +kernel
theorem dX10_step_197 : decode cX10_step 197 = .ok (.if_icmp .ne 20, 3) := by decide +kernel
theorem dX10_step_200 : decode cX10_step 200 = .ok (.aload_n 0, 1) := by decide +kernel
theorem dX10_step_201 : decode cX10_step 201 = .ok (.iload_n 1, 1) := by decide +kernel
theorem dX10_step_202 : decode cX10_step 202 = .ok (.lload 4, 2) := by decide +kernel
theorem dX10_step_204 : decode cX10_step 204 = .ok (.invokevirtual 339, 3) := by decide +kernel
theorem dX10_step_207 : decode cX10_step 207 = .ok (.aload_n 0, 1) := by decide +kernel
theorem dX10_step_208 : decode cX10_step 208 = .ok (.getfield 142, 3) := by decide +kernel
theorem dX10_step_211 : decode cX10_step 211 = .ok (.iload_n 1, 1) := by decide +kernel
theorem dX10_step_212 : decode cX10_step 212 = .ok (.iload_n 2, 1) := by decide +kernel
theorem dX10_step_213 : decode cX10_step 213 = .ok (.iastore, 1) := by decide +kernel
theorem dX10_step_214 : decode cX10_step 214 = .ok (.goto 17, 3) := by decide +kernel
theorem dX10_step_217 : decode cX10_step 217 = .ok (.iload 6, 2) := by decide +kernel
theorem dX10_step_219 : decode cX10_step 219 = .ok (.ifCond .ne 12, 3) := by decide +kernel
theorem dX10_step_222 : decode cX10_step 222 = .ok (.aload_n 0, 1) := by decide +kernel
theorem dX10_step_223 : decode cX10_step 223 = .ok (.iload_n 1, 1) := by decide +kernel
theorem dX10_step_224 : decode cX10_step 224 = .ok (.aload_n 0, 1) := by decide +kernel
theorem dX10_step_225 : decode cX10_step 225 = .ok (.getfield 328, 3) := by decide +kernel
theorem dX10_step_228 : decode cX10_step 228 = .ok (.invokevirtual 339, 3) := by decide +kernel
theorem dX10_step_231 : decode cX10_step 231 = .ok (.iload 6, 2) := by decide +kernel
theorem dX10_step_233 : decode cX10_step 233 = .ok (.ireturn, 1) := by decide +kernel
theorem dX10_step_234 : decode cX10_step 234 = .ok (.aload_n 0, 1) := by decide +kernel
theorem dX10_step_235 : decode cX10_step 235 = .ok (.iload_n 1, 1) := by decide +kernel
theorem dX10_step_236 : decode cX10_step 236 = .ok (.invokevirtual 342, 3) := by decide +kernel
theorem dX10_step_239 : decode cX10_step 239 = .ok (.lstore 6, 2) := by decide +kernel
theorem dX10_step_241 : decode cX10_step 241 = .ok (.iload_n 3, 1) := by decide +kernel
theorem dX10_step_242 : decode cX10_step 242 = .ok (.bipush 9, 2) := by decide +kernel
theorem dX10_step_244 : decode cX10_step 244 = .ok (.if_icmp .eq 9, 3) := by decide +kernel
theorem dX10_step_247 : decode cX10_step 247 = .ok (.iload_n 3, 1) := by decide +kernel
theorem dX10_step_248 : decode cX10_step 248 = .ok (.bipush 10, 2) := by decide +kernel
theorem dX10_step_250 : decode cX10_step 250 = .ok (.if_icmp .ne 12, 3) := by decide +kernel
theorem dX10_step_253 : decode cX10_step 253 = .ok (.lload 4, 2) := by decide +kernel
theorem dX10_step_255 : decode cX10_step 255 = .ok (.lconst 0, 1) := by decide +kernel
theorem dX10_step_256 : decode cX10_step 256 = .ok (.lcmp, 1) := by decide +kernel
theorem dX10_step_257 : decode cX10_step 257 = .ok (.ifCond .ne 5, 3) := by decide +kernel
theorem dX10_step_260 : decode cX10_step 260 = .ok (.iconst 1, 1) := by decide +kernel
theorem dX10_step_261 : decode cX10_step 261 = .ok (.ireturn, 1) := by decide +kernel
theorem dX10_step_262 : decode cX10_step 262 = .ok (.aload_n 0, 1) := by decide +kernel
theorem dX10_step_263 : decode cX10_step 263 = .ok (.iload_n 1, 1) := by decide +kernel
theorem dX10_step_264 : decode cX10_step 264 = .ok (.iload_n 3, 1) := by decide +kernel
theorem dX10_step_265 : decode cX10_step 265 = .ok (.bipush 6, 2) := by decide +kernel
theorem dX10_step_267 : decode cX10_step 267 = .ok (.if_icmp .ne 11, 3) := by decide +kernel
theorem dX10_step_270 : decode cX10_step 270 = .ok (.lload 6, 2) := by decide +kernel
theorem dX10_step_272 : decode cX10_step 272 = .ok (.lload 4, 2) := by decide +kernel
theorem dX10_step_274 : decode cX10_step 274 = .ok (.ladd, 1) := by decide +kernel
theorem dX10_step_275 : decode cX10_step 275 = .ok (.goto 72, 3) := by decide +kernel
theorem dX10_step_278 : decode cX10_step 278 = .ok (.iload_n 3, 1) := by decide +kernel
theorem dX10_step_279 : decode cX10_step 279 = .ok (.bipush 7, 2) := by decide +kernel
theorem dX10_step_281 : decode cX10_step 281 = .ok (.if_icmp .ne 11, 3) := by decide +kernel
theorem dX10_step_284 : decode cX10_step 284 = .ok (.lload 6, 2) := by decide +kernel
theorem dX10_step_286 : decode cX10_step 286 = .ok (.lload 4, 2) := by decide +kernel
theorem dX10_step_288 : decode cX10_step 288 = .ok (.lsub, 1) := by decide +kernel
theorem dX10_step_289 : decode cX10_step 289 = .ok (.goto 58, 3) := by decide +kernel
theorem dX10_step_292 : decode cX10_step 292 = .ok (.iload_n 3, 1) := by decide +kernel
theorem dX10_step_293 : decode cX10_step 293 = .ok (.bipush 8, 2) := by decide +kernel
theorem dX10_step_295 : decode cX10_step 295 = .ok (.if_icmp .ne 11, 3) := by decide +kernel
theorem dX10_step_298 : decode cX10_step 298 = .ok (.lload 6, 2) := by decide +kernel
theorem dX10_step_300 : decode cX10_step 300 = .ok (.lload 4, 2) := by decide +kernel
theorem dX10_step_302 : decode cX10_step 302 = .ok (.lmul, 1) := by decide +kernel
theorem dX10_step_303 : decode cX10_step 303 = .ok (.goto 44, 3) := by decide +kernel
theorem dX10_step_306 : decode cX10_step 306 = .ok (.iload_n 3, 1) := by decide +kernel
theorem dX10_step_307 : decode cX10_step 307 = .ok (.bipush 9, 2) := by decide +kernel
theorem dX10_step_309 : decode cX10_step 309 = .ok (.if_icmp .ne 11, 3) := by decide +kernel
theorem dX10_step_312 : decode cX10_step 312 = .ok (.lload 6, 2) := by decide +kernel
theorem dX10_step_314 : decode cX10_step 314 = .ok (.lload 4, 2) := by decide +kernel
theorem dX10_step_316 : decode cX10_step 316 = .ok (.ldiv, 1) := by decide +kernel
theorem dX10_step_317 : decode cX10_step 317 = .ok (.goto 30, 3) := by decide +kernel
theorem dX10_step_320 : decode cX10_step 320 = .ok (.iload_n 3, 1) := by decide +kernel
theorem dX10_step_321 : decode cX10_step 321 = .ok (.bipush 10, 2) := by decide +kernel
theorem dX10_step_323 : decode cX10_step 323 = .ok (.if_icmp .ne 11, 3) := by decide +kernel
theorem dX10_step_326 : decode cX10_step 326 = .ok (.lload 6, 2) := by decide +kernel
theorem dX10_step_328 : decode cX10_step 328 = .ok (.lload 4, 2) := by decide +kernel
theorem dX10_step_330 : decode cX10_step 330 = .ok (.lrem, 1) := by decide +kernel
theorem dX10_step_331 : decode cX10_step 331 = .ok (.goto 16, 3) := by decide +kernel
theorem dX10_step_334 : decode cX10_step 334 = .ok (.lload 6, 2) := by decide +kernel
theorem dX10_step_336 : decode cX10_step 336 = .ok (.lload 4, 2) := by decide +kernel
theorem dX10_step_338 : decode cX10_step 338 = .ok (.lcmp, 1) := by decide +kernel
theorem dX10_step_339 : decode cX10_step 339 = .ok (.ifCond .ge 7, 3) := by decide +kernel
theorem dX10_step_342 : decode cX10_step 342 = .ok (.lconst 1, 1) := by decide +kernel
theorem dX10_step_343 : decode cX10_step 343 = .ok (.goto 4, 3) := by decide +kernel
theorem dX10_step_346 : decode cX10_step 346 = .ok (.lconst 0, 1) := by decide +kernel
theorem dX10_step_347 : decode cX10_step 347 = .ok (.invokevirtual 339, 3) := by decide +kernel
theorem dX10_step_350 : decode cX10_step 350 = .ok (.iconst 0, 1) := by decide +kernel
theorem dX10_step_351 : decode cX10_step 351 = .ok (.ireturn, 1) := by decide +kernel
theorem dX10_add_0 : decode cX10_add 0 = .ok (.aload_n 0, 1) := by decide +kernel
theorem dX10_add_1 : decode cX10_add 1 = .ok (.dup, 1) := by decide +kernel
theorem dX10_add_2 : decode cX10_add 2 = .ok (.getfield 349, 3) := by decide +kernel
theorem dX10_add_5 : decode cX10_add 5 = .ok (.lload_n 1, 1) := by decide +kernel
theorem dX10_add_6 : decode cX10_add 6 = .ok (.ldc2_w 352, 3) := by decide +kernel
theorem dX10_add_9 : decode cX10_add 9 = .ok (.land, 1) := by decide +kernel
theorem dX10_add_10 : decode cX10_add 10 = .ok (.ladd, 1) := by decide +kernel
theorem dX10_add_11 : decode cX10_add 11 = .ok (.putfield 349, 3) := by decide +kernel
theorem dX10_add_14 : decode cX10_add 14 = .ok (.aload_n 0, 1) := by decide +kernel
theorem dX10_add_15 : decode cX10_add 15 = .ok (.dup, 1) := by decide +kernel
theorem dX10_add_16 : decode cX10_add 16 = .ok (.getfield 354, 3) := by decide +kernel
theorem dX10_add_19 : decode cX10_add 19 = .ok (.lload_n 1, 1) := by decide +kernel
theorem dX10_add_20 : decode cX10_add 20 = .ok (.bipush 32, 2) := by decide +kernel
theorem dX10_add_22 : decode cX10_add 22 = .ok (.lshr, 1) := by decide +kernel
theorem dX10_add_23 : decode cX10_add 23 = .ok (.aload_n 0, 1) := by decide +kernel
theorem dX10_add_24 : decode cX10_add 24 = .ok (.getfield 349, 3) := by decide +kernel
theorem dX10_add_27 : decode cX10_add 27 = .ok (.bipush 32, 2) := by decide +kernel
theorem dX10_add_29 : decode cX10_add 29 = .ok (.lshr, 1) := by decide +kernel
theorem dX10_add_30 : decode cX10_add 30 = .ok (.ladd, 1) := by decide +kernel
theorem dX10_add_31 : decode cX10_add 31 = .ok (.ladd, 1) := by decide +kernel
theorem dX10_add_32 : decode cX10_add 32 = .ok (.putfield 354, 3) := by decide +kernel
theorem dX10_add_35 : decode cX10_add 35 = .ok (.aload_n 0, 1) := by decide +kernel
theorem dX10_add_36 : decode cX10_add 36 = .ok (.aload_n 0, 1) := by decide +kernel
theorem dX10_add_37 : decode cX10_add 37 = .ok (.getfield 349, 3) := by decide +kernel
theorem dX10_add_40 : decode cX10_add 40 = .ok (.ldc2_w 352, 3) := by decide +kernel
theorem dX10_add_43 : decode cX10_add 43 = .ok (.land, 1) := by decide +kernel
theorem dX10_add_44 : decode cX10_add 44 = .ok (.putfield 349, 3) := by decide +kernel
theorem dX10_add_47 : decode cX10_add 47 = .ok (.return_, 1) := by decide +kernel
theorem dX10_goOne_0 : decode cX10_goOne 0 = .ok (.aload_n 0, 1) := by decide +kernel
theorem dX10_goOne_1 : decode cX10_goOne 1 = .ok (.getfield 315, 3) := by decide +kernel
theorem dX10_goOne_4 : decode cX10_goOne 4 = .ok (.iconst 1, 1) := by decide +kernel
theorem dX10_goOne_5 : decode cX10_goOne 5 = .ok (.isub, 1) := by decide +kernel
theorem dX10_goOne_6 : decode cX10_goOne 6 = .ok (.istore_n 1, 1) := by decide +kernel
theorem dX10_goOne_7 : decode cX10_goOne 7 = .ok (.aload_n 0, 1) := by decide +kernel
theorem dX10_goOne_8 : decode cX10_goOne 8 = .ok (.getfield 130, 3) := by decide +kernel
theorem dX10_goOne_11 : decode cX10_goOne 11 = .ok (.iload_n 1, 1) := by decide +kernel
theorem dX10_goOne_12 : decode cX10_goOne 12 = .ok (.iaload, 1) := by decide +kernel
theorem dX10_goOne_13 : decode cX10_goOne 13 = .ok (.istore_n 2, 1) := by decide +kernel
theorem dX10_goOne_14 : decode cX10_goOne 14 = .ok (.aload_n 0, 1) := by decide +kernel
theorem dX10_goOne_15 : decode cX10_goOne 15 = .ok (.getfield 136, 3) := by decide +kernel
theorem dX10_goOne_18 : decode cX10_goOne 18 = .ok (.iload_n 1, 1) := by decide +kernel
theorem dX10_goOne_19 : decode cX10_goOne 19 = .ok (.iaload, 1) := by decide +kernel
theorem dX10_goOne_20 : decode cX10_goOne 20 = .ok (.aload_n 0, 1) := by decide +kernel
theorem dX10_goOne_21 : decode cX10_goOne 21 = .ok (.getfield 139, 3) := by decide +kernel
theorem dX10_goOne_24 : decode cX10_goOne 24 = .ok (.iload_n 1, 1) := by decide +kernel
theorem dX10_goOne_25 : decode cX10_goOne 25 = .ok (.iaload, 1) := by decide +kernel
theorem dX10_goOne_26 : decode cX10_goOne 26 = .ok (.if_icmp .ge 72, 3) := by decide +kernel
theorem dX10_goOne_29 : decode cX10_goOne 29 = .ok (.aload_n 0, 1) := by decide +kernel
theorem dX10_goOne_30 : decode cX10_goOne 30 = .ok (.getfield 142, 3) := by decide +kernel
theorem dX10_goOne_33 : decode cX10_goOne 33 = .ok (.iload_n 1, 1) := by decide +kernel
theorem dX10_goOne_34 : decode cX10_goOne 34 = .ok (.iaload, 1) := by decide +kernel
theorem dX10_goOne_35 : decode cX10_goOne 35 = .ok (.aload_n 0, 1) := by decide +kernel
theorem dX10_goOne_36 : decode cX10_goOne 36 = .ok (.getfield 91, 3) := by decide +kernel
theorem dX10_goOne_39 : decode cX10_goOne 39 = .ok (.iload_n 2, 1) := by decide +kernel
theorem dX10_goOne_40 : decode cX10_goOne 40 = .ok (.iconst 1, 1) := by decide +kernel
theorem dX10_goOne_41 : decode cX10_goOne 41 = .ok (.iadd, 1) := by decide +kernel
theorem dX10_goOne_42 : decode cX10_goOne 42 = .ok (.iaload, 1) := by decide +kernel
theorem dX10_goOne_43 : decode cX10_goOne 43 = .ok (.if_icmp .ge 9, 3) := by decide +kernel
theorem dX10_goOne_46 : decode cX10_goOne 46 = .ok (.aload_n 0, 1) := by decide +kernel
theorem dX10_goOne_47 : decode cX10_goOne 47 = .ok (.iload_n 1, 1) := by decide +kernel
theorem dX10_goOne_48 : decode cX10_goOne 48 = .ok (.invokevirtual 357, 3) := by decide +kernel
theorem dX10_goOne_51 : decode cX10_goOne 51 = .ok (.ireturn, 1) := by decide +kernel
theorem dX10_goOne_52 : decode cX10_goOne 52 = .ok (.aload_n 0, 1) := by decide +kernel
theorem dX10_goOne_53 : decode cX10_goOne 53 = .ok (.getfield 106, 3) := by decide +kernel
theorem dX10_goOne_56 : decode cX10_goOne 56 = .ok (.sipush 200, 3) := by decide +kernel
theorem dX10_goOne_59 : decode cX10_goOne 59 = .ok (.iload_n 2, 1) := by decide +kernel
theorem dX10_goOne_60 : decode cX10_goOne 60 = .ok (.imul, 1) := by decide +kernel
theorem dX10_goOne_61 : decode cX10_goOne 61 = .ok (.aload_n 0, 1) := by decide +kernel
theorem dX10_goOne_62 : decode cX10_goOne 62 = .ok (.getfield 136, 3) := by decide +kernel
theorem dX10_goOne_65 : decode cX10_goOne 65 = .ok (.iload_n 1, 1) := by decide +kernel
theorem dX10_goOne_66 : decode cX10_goOne 66 = .ok (.iaload, 1) := by decide +kernel
theorem dX10_goOne_67 : decode cX10_goOne 67 = .ok (.iadd, 1) := by decide +kernel
theorem dX10_goOne_68 : decode cX10_goOne 68 = .ok (.aload_n 0, 1) := by decide +kernel
theorem dX10_goOne_69 : decode cX10_goOne 69 = .ok (.iload_n 1, 1) := by decide +kernel
theorem dX10_goOne_70 : decode cX10_goOne 70 = .ok (.invokevirtual 342, 3) := by decide +kernel
theorem dX10_goOne_73 : decode cX10_goOne 73 = .ok (.lastore, 1) := by decide +kernel
theorem dX10_goOne_74 : decode cX10_goOne 74 = .ok (.aload_n 0, 1) := by decide +kernel
theorem dX10_goOne_75 : decode cX10_goOne 75 = .ok (.getfield 136, 3) := by decide +kernel
theorem dX10_goOne_78 : decode cX10_goOne 78 = .ok (.iload_n 1, 1) := by decide +kernel
theorem dX10_goOne_79 : decode cX10_goOne 79 = .ok (.dup2, 1) := by decide +kernel
theorem dX10_goOne_80 : decode cX10_goOne 80 = .ok (.iaload, 1) := by decide +kernel
theorem dX10_goOne_81 : decode cX10_goOne 81 = .ok (.iconst 1, 1) := by decide +kernel
theorem dX10_goOne_82 : decode cX10_goOne 82 = .ok (.iadd, 1) := by decide +kernel
theorem dX10_goOne_83 : decode cX10_goOne 83 = .ok (.iastore, 1) := by decide +kernel
theorem dX10_goOne_84 : decode cX10_goOne 84 = .ok (.aload_n 0, 1) := by decide +kernel
theorem dX10_goOne_85 : decode cX10_goOne 85 = .ok (.getfield 142, 3) := by decide +kernel
theorem dX10_goOne_88 : decode cX10_goOne 88 = .ok (.iload_n 1, 1) := by decide +kernel
theorem dX10_goOne_89 : decode cX10_goOne 89 = .ok (.aload_n 0, 1) := by decide +kernel
theorem dX10_goOne_90 : decode cX10_goOne 90 = .ok (.getfield 91, 3) := by decide +kernel
theorem dX10_goOne_93 : decode cX10_goOne 93 = .ok (.iload_n 2, 1) := by decide +kernel
theorem dX10_goOne_94 : decode cX10_goOne 94 = .ok (.iaload, 1) := by decide +kernel
theorem dX10_goOne_95 : decode cX10_goOne 95 = .ok (.iastore, 1) := by decide +kernel
theorem dX10_goOne_96 : decode cX10_goOne 96 = .ok (.iconst 0, 1) := by decide +kernel
theorem dX10_goOne_97 : decode cX10_goOne 97 = .ok (.ireturn, 1) := by decide +kernel
theorem dX10_goOne_98 : decode cX10_goOne 98 = .ok (.aload_n 0, 1) := by decide +kernel
theorem dX10_goOne_99 : decode cX10_goOne 99 = .ok (.getfield 133, 3) := by decide +kernel
theorem dX10_goOne_102 : decode cX10_goOne 102 = .ok (.iload_n 1, 1) := by decide +kernel
theorem dX10_goOne_103 : decode cX10_goOne 103 = .ok (.iaload, 1) := by decide +kernel
theorem dX10_goOne_104 : decode cX10_goOne 104 = .ok (.bipush (-9), 2) := by decide +kernel
theorem dX10_goOne_106 : decode cX10_goOne 106 = .ok (.if_icmp .eq 32, 3) := by decide +kernel
theorem dX10_goOne_109 : decode cX10_goOne 109 = .ok (.aload_n 0, 1) := by decide +kernel
theorem dX10_goOne_110 : decode cX10_goOne 110 = .ok (.getfield 103, 3) := by decide +kernel
theorem dX10_goOne_113 : decode cX10_goOne 113 = .ok (.bipush 25, 2) := by decide +kernel
theorem dX10_goOne_115 : decode cX10_goOne 115 = .ok (.iload_n 2, 1) := by decide +kernel
theorem dX10_goOne_116 : decode cX10_goOne 116 = .ok (.imul, 1) := by decide +kernel
theorem dX10_goOne_117 : decode cX10_goOne 117 = .ok (.aload_n 0, 1) := by decide +kernel
theorem dX10_goOne_118 : decode cX10_goOne 118 = .ok (.getfield 133, 3) := by decide +kernel
theorem dX10_goOne_121 : decode cX10_goOne 121 = .ok (.iload_n 1, 1) := by decide +kernel
theorem dX10_goOne_122 : decode cX10_goOne 122 = .ok (.iaload, 1) := by decide +kernel
theorem dX10_goOne_123 : decode cX10_goOne 123 = .ok (.iadd, 1) := by decide +kernel
theorem dX10_goOne_124 : decode cX10_goOne 124 = .ok (.iconst 2, 1) := by decide +kernel
theorem dX10_goOne_125 : decode cX10_goOne 125 = .ok (.iastore, 1) := by decide +kernel
theorem dX10_goOne_126 : decode cX10_goOne 126 = .ok (.aload_n 0, 1) := by decide +kernel
theorem dX10_goOne_127 : decode cX10_goOne 127 = .ok (.dup, 1) := by decide +kernel
theorem dX10_goOne_128 : decode cX10_goOne 128 = .ok (.getfield 315, 3) := by decide +kernel
theorem dX10_goOne_131 : decode cX10_goOne 131 = .ok (.iconst 1, 1) := by decide +kernel
theorem dX10_goOne_132 : decode cX10_goOne 132 = .ok (.isub, 1) := by decide +kernel
theorem dX10_goOne_133 : decode cX10_goOne 133 = .ok (.putfield 315, 3) := by decide +kernel
theorem dX10_goOne_136 : decode cX10_goOne 136 = .ok (.iconst 0, 1) := by decide +kernel
theorem dX10_goOne_137 : decode cX10_goOne 137 = .ok (.ireturn, 1) := by decide +kernel
theorem dX10_goOne_138 : decode cX10_goOne 138 = .ok (.aload_n 0, 1) := by decide +kernel
theorem dX10_goOne_139 : decode cX10_goOne 139 = .ok (.getfield 82, 3) := by decide +kernel
theorem dX10_goOne_142 : decode cX10_goOne 142 = .ok (.iload_n 2, 1) := by decide +kernel
theorem dX10_goOne_143 : decode cX10_goOne 143 = .ok (.baload, 1) := by decide +kernel
theorem dX10_goOne_144 : decode cX10_goOne 144 = .ok (.ifCond .eq 135, 3) := by decide +kernel
theorem dX10_goOne_147 : decode cX10_goOne 147 = .ok (.iconst 0, 1) := by decide +kernel
theorem dX10_goOne_148 : decode cX10_goOne 148 = .ok (.istore_n 3, 1) := by decide +kernel
theorem dX10_goOne_149 : decode cX10_goOne 149 = .ok (.iload_n 3, 1) := by decide +kernel
theorem dX10_goOne_150 : decode cX10_goOne 150 = .ok (.aload_n 0, 1) := by decide +kernel
theorem dX10_goOne_151 : decode cX10_goOne 151 = .ok (.iload_n 2, 1) := by decide +kernel
theorem dX10_goOne_152 : decode cX10_goOne 152 = .ok (.invokevirtual 312, 3) := by decide +kernel
theorem dX10_goOne_155 : decode cX10_goOne 155 = .ok (.if_icmp .ge 41, 3) := by decide +kernel
theorem dX10_goOne_158 : decode cX10_goOne 158 = .ok (.aload_n 0, 1) := by decide +kernel
theorem dX10_goOne_159 : decode cX10_goOne 159 = .ok (.getfield 79, 3) := by decide +kernel
theorem dX10_goOne_162 : decode cX10_goOne 162 = .ok (.iload_n 2, 1) := by decide +kernel
theorem dX10_goOne_163 : decode cX10_goOne 163 = .ok (.baload, 1) := by decide +kernel
theorem dX10_goOne_164 : decode cX10_goOne 164 = .ok (.ifCond .ne 32, 3) := by decide +kernel
theorem dX10_goOne_167 : decode cX10_goOne 167 = .ok (.aload_n 0, 1) := by decide +kernel
theorem dX10_goOne_168 : decode cX10_goOne 168 = .ok (.getfield 103, 3) := by decide +kernel
theorem dX10_goOne_171 : decode cX10_goOne 171 = .ok (.bipush 25, 2) := by decide +kernel
theorem dX10_goOne_173 : decode cX10_goOne 173 = .ok (.iload_n 2, 1) := by decide +kernel
theorem dX10_goOne_174 : decode cX10_goOne 174 = .ok (.imul, 1) := by decide +kernel
theorem dX10_goOne_175 : decode cX10_goOne 175 = .ok (.iload_n 3, 1) := by decide +kernel
theorem dX10_goOne_176 : decode cX10_goOne 176 = .ok (.iadd, 1) := by decide +kernel
theorem dX10_goOne_177 : decode cX10_goOne 177 = .ok (.iaload, 1) := by decide +kernel
theorem dX10_goOne_178 : decode cX10_goOne 178 = .ok (.ifCond .ne 12, 3) := by decide +kernel
theorem dX10_goOne_181 : decode cX10_goOne 181 = .ok (.aload_n 0, 1) := by decide +kernel
theorem dX10_goOne_182 : decode cX10_goOne 182 = .ok (.iload_n 2, 1) := by decide +kernel
theorem dX10_goOne_183 : decode cX10_goOne 183 = .ok (.iload_n 3, 1) := by decide +kernel
theorem dX10_goOne_184 : decode cX10_goOne 184 = .ok (.bipush (-9), 2) := by decide +kernel
theorem dX10_goOne_186 : decode cX10_goOne 186 = .ok (.invokevirtual 324, 3) := by decide +kernel
theorem dX10_goOne_189 : decode cX10_goOne 189 = .ok (.ireturn, 1) := by decide +kernel
theorem dX10_goOne_190 : decode cX10_goOne 190 = .ok (.iinc 3 1, 3) := by decide +kernel
theorem dX10_goOne_193 : decode cX10_goOne 193 = .ok (.goto (-44), 3) := by decide +kernel
theorem dX10_goOne_196 : decode cX10_goOne 196 = .ok (.aload_n 0, 1) := by decide +kernel
theorem dX10_goOne_197 : decode cX10_goOne 197 = .ok (.lconst 0, 1) := by decide +kernel
theorem dX10_goOne_198 : decode cX10_goOne 198 = .ok (.putfield 354, 3) := by decide +kernel
theorem dX10_goOne_201 : decode cX10_goOne 201 = .ok (.aload_n 0, 1) := by decide +kernel
theorem dX10_goOne_202 : decode cX10_goOne 202 = .ok (.lconst 0, 1) := by decide +kernel
theorem dX10_goOne_203 : decode cX10_goOne 203 = .ok (.putfield 349, 3) := by decide +kernel
theorem dX10_goOne_206 : decode cX10_goOne 206 = .ok (.iconst 0, 1) := by decide +kernel
theorem dX10_goOne_207 : decode cX10_goOne 207 = .ok (.istore_n 3, 1) := by decide +kernel
theorem dX10_goOne_208 : decode cX10_goOne 208 = .ok (.iload_n 3, 1) := by decide +kernel
theorem dX10_goOne_209 : decode cX10_goOne 209 = .ok (.i2l, 1) := by decide +kernel
theorem dX10_goOne_210 : decode cX10_goOne 210 = .ok (.aload_n 0, 1) := by decide +kernel
theorem dX10_goOne_211 : decode cX10_goOne 211 = .ok (.getfield 88, 3) := by decide +kernel
theorem dX10_goOne_214 : decode cX10_goOne 214 = .ok (.iload_n 2, 1) := by decide +kernel
theorem dX10_goOne_215 : decode cX10_goOne 215 = .ok (.laload, 1) := by decide +kernel
theorem dX10_goOne_216 : decode cX10_goOne 216 = .ok (.lcmp, 1) := by decide +kernel
theorem dX10_goOne_217 : decode cX10_goOne 217 = .ok (.ifCond .ge 25, 3) := by decide +kernel
theorem dX10_goOne_220 : decode cX10_goOne 220 = .ok (.aload_n 0, 1) := by decide +kernel
theorem dX10_goOne_221 : decode cX10_goOne 221 = .ok (.aload_n 0, 1) := by decide +kernel
theorem dX10_goOne_222 : decode cX10_goOne 222 = .ok (.getfield 106, 3) := by decide +kernel
theorem dX10_goOne_225 : decode cX10_goOne 225 = .ok (.sipush 200, 3) := by decide +kernel
theorem dX10_goOne_228 : decode cX10_goOne 228 = .ok (.iload_n 2, 1) := by decide +kernel
theorem dX10_goOne_229 : decode cX10_goOne 229 = .ok (.imul, 1) := by decide +kernel
theorem dX10_goOne_230 : decode cX10_goOne 230 = .ok (.iload_n 3, 1) := by decide +kernel
theorem dX10_goOne_231 : decode cX10_goOne 231 = .ok (.iadd, 1) := by decide +kernel
theorem dX10_goOne_232 : decode cX10_goOne 232 = .ok (.laload, 1) := by decide +kernel
theorem dX10_goOne_233 : decode cX10_goOne 233 = .ok (.invokevirtual 360, 3) := by decide +kernel
theorem dX10_goOne_236 : decode cX10_goOne 236 = .ok (.iinc 3 1, 3) := by decide +kernel
theorem dX10_goOne_239 : decode cX10_goOne 239 = .ok (.goto (-31), 3) := by decide +kernel
theorem dX10_goOne_242 : decode cX10_goOne 242 = .ok (.aload_n 0, 1) := by decide +kernel
theorem dX10_goOne_243 : decode cX10_goOne 243 = .ok (.getfield 354, 3) := by decide +kernel
theorem dX10_goOne_246 : decode cX10_goOne 246 = .ok (.aload_n 0, 1) := by decide +kernel
theorem dX10_goOne_247 : decode cX10_goOne 247 = .ok (.getfield 85, 3) := by decide +kernel
theorem dX10_goOne_250 : decode cX10_goOne 250 = .ok (.iload_n 2, 1) := by decide +kernel
theorem dX10_goOne_251 : decode cX10_goOne 251 = .ok (.laload, 1) := by decide +kernel
theorem dX10_goOne_252 : decode cX10_goOne 252 = .ok (.bipush 32, 2) := by decide +kernel
theorem dX10_goOne_254 : decode cX10_goOne 254 = .ok (.lshr, 1) := by decide +kernel
theorem dX10_goOne_255 : decode cX10_goOne 255 = .ok (.lcmp, 1) := by decide +kernel
theorem dX10_goOne_256 : decode cX10_goOne 256 = .ok (.ifCond .ne 21, 3) := by decide +kernel
theorem dX10_goOne_259 : decode cX10_goOne 259 = .ok (.aload_n 0, 1) := by decide +kernel
theorem dX10_goOne_260 : decode cX10_goOne 260 = .ok (.getfield 349, 3) := by decide +kernel
theorem dX10_goOne_263 : decode cX10_goOne 263 = .ok (.aload_n 0, 1) := by decide +kernel
theorem dX10_goOne_264 : decode cX10_goOne 264 = .ok (.getfield 85, 3) := by decide +kernel
theorem dX10_goOne_267 : decode cX10_goOne 267 = .ok (.iload_n 2, 1) := by decide +kernel
theorem dX10_goOne_268 : decode cX10_goOne 268 = .ok (.laload, 1) := by decide +kernel
theorem dX10_goOne_269 : decode cX10_goOne 269 = .ok (.ldc2_w 352, 3) := by decide +kernel
theorem dX10_goOne_272 : decode cX10_goOne 272 = .ok (.land, 1) := by decide +kernel
theorem dX10_goOne_273 : decode cX10_goOne 273 = .ok (.lcmp, 1) := by decide +kernel
theorem dX10_goOne_274 : decode cX10_goOne 274 = .ok (.ifCond .eq 5, 3) := by decide +kernel
theorem dX10_goOne_277 : decode cX10_goOne 277 = .ok (.iconst 5, 1) := by decide +kernel
theorem dX10_goOne_278 : decode cX10_goOne 278 = .ok (.ireturn, 1) := by decide +kernel
theorem dX10_goOne_279 : decode cX10_goOne 279 = .ok (.aload_n 0, 1) := by decide +kernel
theorem dX10_goOne_280 : decode cX10_goOne 280 = .ok (.getfield 100, 3) := by decide +kernel
theorem dX10_goOne_283 : decode cX10_goOne 283 = .ok (.iload_n 2, 1) := by decide +kernel
theorem dX10_goOne_284 : decode cX10_goOne 284 = .ok (.iconst 2, 1) := by decide +kernel
theorem dX10_goOne_285 : decode cX10_goOne 285 = .ok (.iastore, 1) := by decide +kernel
theorem dX10_goOne_286 : decode cX10_goOne 286 = .ok (.aload_n 0, 1) := by decide +kernel
theorem dX10_goOne_287 : decode cX10_goOne 287 = .ok (.dup, 1) := by decide +kernel
theorem dX10_goOne_288 : decode cX10_goOne 288 = .ok (.getfield 315, 3) := by decide +kernel
theorem dX10_goOne_291 : decode cX10_goOne 291 = .ok (.iconst 1, 1) := by decide +kernel
theorem dX10_goOne_292 : decode cX10_goOne 292 = .ok (.isub, 1) := by decide +kernel
theorem dX10_goOne_293 : decode cX10_goOne 293 = .ok (.putfield 315, 3) := by decide +kernel
theorem dX10_goOne_296 : decode cX10_goOne 296 = .ok (.iconst 0, 1) := by decide +kernel
theorem dX10_goOne_297 : decode cX10_goOne 297 = .ok (.ireturn, 1) := by decide +kernel
theorem dX10_get_0 : decode cX10_get 0 = .ok (.aload_n 0, 1) := by decide +kernel
theorem dX10_get_1 : decode cX10_get 1 = .ok (.iconst 0, 1) := by decide +kernel
theorem dX10_get_2 : decode cX10_get 2 = .ok (.putfield 315, 3) := by decide +kernel
theorem dX10_get_5 : decode cX10_get 5 = .ok (.aload_n 0, 1) := by decide +kernel
theorem dX10_get_6 : decode cX10_get 6 = .ok (.iconst 0, 1) := by decide +kernel
theorem dX10_get_7 : decode cX10_get 7 = .ok (.putfield 302, 3) := by decide +kernel
theorem dX10_get_10 : decode cX10_get 10 = .ok (.aload_n 0, 1) := by decide +kernel
theorem dX10_get_11 : decode cX10_get 11 = .ok (.getfield 315, 3) := by decide +kernel
theorem dX10_get_14 : decode cX10_get 14 = .ok (.ifCond .le 10, 3) := by decide +kernel
theorem dX10_get_17 : decode cX10_get 17 = .ok (.aload_n 0, 1) := by decide +kernel
theorem dX10_get_18 : decode cX10_get 18 = .ok (.invokevirtual 364, 3) := by decide +kernel
theorem dX10_get_21 : decode cX10_get 21 = .ok (.goto 13, 3) := by decide +kernel
theorem dX10_get_24 : decode cX10_get 24 = .ok (.aload_n 0, 1) := by decide +kernel
theorem dX10_get_25 : decode cX10_get 25 = .ok (.iload_n 1, 1) := by decide +kernel
theorem dX10_get_26 : decode cX10_get 26 = .ok (.lload_n 2, 1) := by decide +kernel
theorem dX10_get_27 : decode cX10_get 27 = .ok (.bipush (-9), 2) := by decide +kernel
theorem dX10_get_29 : decode cX10_get 29 = .ok (.iload 4, 2) := by decide +kernel
theorem dX10_get_31 : decode cX10_get 31 = .ok (.invokevirtual 345, 3) := by decide +kernel
theorem dX10_get_34 : decode cX10_get 34 = .ok (.istore 5, 2) := by decide +kernel
theorem dX10_get_36 : decode cX10_get 36 = .ok (.iload 5, 2) := by decide +kernel
theorem dX10_get_38 : decode cX10_get 38 = .ok (.ifCond .le 11, 3) := by decide +kernel
theorem dX10_get_41 : decode cX10_get 41 = .ok (.aload_n 0, 1) := by decide +kernel
theorem dX10_get_42 : decode cX10_get 42 = .ok (.iload 5, 2) := by decide +kernel
theorem dX10_get_44 : decode cX10_get 44 = .ok (.invokevirtual 367, 3) := by decide +kernel
theorem dX10_get_47 : decode cX10_get 47 = .ok (.iconst 0, 1) := by decide +kernel
theorem dX10_get_48 : decode cX10_get 48 = .ok (.ireturn, 1) := by decide +kernel
theorem dX10_get_49 : decode cX10_get 49 = .ok (.iload 5, 2) := by decide +kernel
theorem dX10_get_51 : decode cX10_get 51 = .ok (.ifCond .ne 23, 3) := by decide +kernel
theorem dX10_get_54 : decode cX10_get 54 = .ok (.aload_n 0, 1) := by decide +kernel
theorem dX10_get_55 : decode cX10_get 55 = .ok (.getfield 315, 3) := by decide +kernel
theorem dX10_get_58 : decode cX10_get 58 = .ok (.ifCond .ne 16, 3) := by decide +kernel
theorem dX10_get_61 : decode cX10_get 61 = .ok (.aload_n 0, 1) := by decide +kernel
theorem dX10_get_62 : decode cX10_get 62 = .ok (.iload_n 1, 1) := by decide +kernel
theorem dX10_get_63 : decode cX10_get 63 = .ok (.lload_n 2, 1) := by decide +kernel
theorem dX10_get_64 : decode cX10_get 64 = .ok (.iload 4, 2) := by decide +kernel
theorem dX10_get_66 : decode cX10_get 66 = .ok (.invokevirtual 371, 3) := by decide +kernel
theorem dX10_get_69 : decode cX10_get 69 = .ok (.ifCond .eq 5, 3) := by decide +kernel
theorem dX10_get_72 : decode cX10_get 72 = .ok (.iconst 1, 1) := by decide +kernel
theorem dX10_get_73 : decode cX10_get 73 = .ok (.ireturn, 1) := by decide +kernel
theorem dX10_get_74 : decode cX10_get 74 = .ok (.goto (-64), 3) := by decide +kernel
theorem dX10_isAnswered_0 : decode cX10_isAnswered 0 = .ok (.aload_n 0, 1) := by decide +kernel
theorem dX10_isAnswered_1 : decode cX10_isAnswered 1 = .ok (.getfield 100, 3) := by decide +kernel
theorem dX10_isAnswered_4 : decode cX10_isAnswered 4 = .ok (.iload_n 1, 1) := by decide +kernel
theorem dX10_isAnswered_5 : decode cX10_isAnswered 5 = .ok (.iaload, 1) := by decide +kernel
theorem dX10_isAnswered_6 : decode cX10_isAnswered 6 = .ok (.iconst 2, 1) := by decide +kernel
theorem dX10_isAnswered_7 : decode cX10_isAnswered 7 = .ok (.if_icmp .ne 56, 3) := by decide +kernel
theorem dX10_isAnswered_10 : decode cX10_isAnswered 10 = .ok (.iload 4, 2) := by decide +kernel
theorem dX10_isAnswered_12 : decode cX10_isAnswered 12 = .ok (.ifCond .ne 47, 3) := by decide +kernel
theorem dX10_isAnswered_15 : decode cX10_isAnswered 15 = .ok (.lload_n 2, 1) := by decide +kernel
theorem dX10_isAnswered_16 : decode cX10_isAnswered 16 = .ok (.lconst 0, 1) := by decide +kernel
theorem dX10_isAnswered_17 : decode cX10_isAnswered 17 = .ok (.aload_n 0, 1) := by decide +kernel
theorem dX10_isAnswered_18 : decode cX10_isAnswered 18 = .ok (.getfield 88, 3) := by decide +kernel
theorem dX10_isAnswered_21 : decode cX10_isAnswered 21 = .ok (.iload_n 1, 1) := by decide +kernel
theorem dX10_isAnswered_22 : decode cX10_isAnswered 22 = .ok (.laload, 1) := by decide +kernel
theorem dX10_isAnswered_23 : decode cX10_isAnswered 23 = .ok (.lconst 1, 1) := by decide +kernel
theorem dX10_isAnswered_24 : decode cX10_isAnswered 24 = .ok (.lsub, 1) := by decide +kernel
theorem dX10_isAnswered_25 : decode cX10_isAnswered 25 = .ok (.invokestatic 305, 3) := by decide +kernel
theorem dX10_isAnswered_28 : decode cX10_isAnswered 28 = .ok (.ifCond .eq 35, 3) := by decide +kernel
theorem dX10_isAnswered_31 : decode cX10_isAnswered 31 = .ok (.aload_n 0, 1) := by decide +kernel
theorem dX10_isAnswered_32 : decode cX10_isAnswered 32 = .ok (.getfield 79, 3) := by decide +kernel
theorem dX10_isAnswered_35 : decode cX10_isAnswered 35 = .ok (.iload_n 1, 1) := by decide +kernel
theorem dX10_isAnswered_36 : decode cX10_isAnswered 36 = .ok (.baload, 1) := by decide +kernel
theorem dX10_isAnswered_37 : decode cX10_isAnswered 37 = .ok (.ifCond .ne 22, 3) := by decide +kernel
theorem dX10_isAnswered_40 : decode cX10_isAnswered 40 = .ok (.aload_n 0, 1) := by decide +kernel
theorem dX10_isAnswered_41 : decode cX10_isAnswered 41 = .ok (.getfield 103, 3) := by decide +kernel
theorem dX10_isAnswered_44 : decode cX10_isAnswered 44 = .ok (.bipush 25, 2) := by decide +kernel
theorem dX10_isAnswered_46 : decode cX10_isAnswered 46 = .ok (.iload_n 1, 1) := by decide +kernel
theorem dX10_isAnswered_47 : decode cX10_isAnswered 47 = .ok (.imul, 1) := by decide +kernel
theorem dX10_isAnswered_48 : decode cX10_isAnswered 48 = .ok (.lload_n 2, 1) := by decide +kernel
theorem dX10_isAnswered_49 : decode cX10_isAnswered 49 = .ok (.l2i, 1) := by decide +kernel
theorem dX10_isAnswered_50 : decode cX10_isAnswered 50 = .ok (.bipush 8, 2) := by decide +kernel
theorem dX10_isAnswered_52 : decode cX10_isAnswered 52 = .ok (.idiv, 1) := by decide +kernel
theorem dX10_isAnswered_53 : decode cX10_isAnswered 53 = .ok (.iadd, 1) := by decide +kernel
theorem dX10_isAnswered_54 : decode cX10_isAnswered 54 = .ok (.iaload, 1) := by decide +kernel
theorem dX10_isAnswered_55 : decode cX10_isAnswered 55 = .ok (.iconst 2, 1) := by decide +kernel
theorem dX10_isAnswered_56 : decode cX10_isAnswered 56 = .ok (.if_icmp .ne 7, 3) := by decide +kernel
theorem dX10_isAnswered_59 : decode cX10_isAnswered 59 = .ok (.iconst 1, 1) := by decide +kernel
theorem dX10_isAnswered_60 : decode cX10_isAnswered 60 = .ok (.goto 4, 3) := by decide +kernel
theorem dX10_isAnswered_63 : decode cX10_isAnswered 63 = .ok (.iconst 0, 1) := by decide +kernel
theorem dX10_isAnswered_64 : decode cX10_isAnswered 64 = .ok (.istore 5, 2) := by decide +kernel
theorem dX10_isAnswered_66 : decode cX10_isAnswered 66 = .ok (.iload 5, 2) := by decide +kernel
theorem dX10_isAnswered_68 : decode cX10_isAnswered 68 = .ok (.ifCond .eq 25, 3) := by decide +kernel
theorem dX10_isAnswered_71 : decode cX10_isAnswered 71 = .ok (.iload 4, 2) := by decide +kernel
theorem dX10_isAnswered_73 : decode cX10_isAnswered 73 = .ok (.ifCond .ne 20, 3) := by decide +kernel
theorem dX10_isAnswered_76 : decode cX10_isAnswered 76 = .ok (.aload_n 0, 1) := by decide +kernel
theorem dX10_isAnswered_77 : decode cX10_isAnswered 77 = .ok (.aload_n 0, 1) := by decide +kernel
theorem dX10_isAnswered_78 : decode cX10_isAnswered 78 = .ok (.getfield 106, 3) := by decide +kernel
theorem dX10_isAnswered_81 : decode cX10_isAnswered 81 = .ok (.sipush 200, 3) := by decide +kernel
theorem dX10_isAnswered_84 : decode cX10_isAnswered 84 = .ok (.iload_n 1, 1) := by decide +kernel
theorem dX10_isAnswered_85 : decode cX10_isAnswered 85 = .ok (.imul, 1) := by decide +kernel
theorem dX10_isAnswered_86 : decode cX10_isAnswered 86 = .ok (.lload_n 2, 1) := by decide +kernel
theorem dX10_isAnswered_87 : decode cX10_isAnswered 87 = .ok (.l2i, 1) := by decide +kernel
theorem dX10_isAnswered_88 : decode cX10_isAnswered 88 = .ok (.iadd, 1) := by decide +kernel
theorem dX10_isAnswered_89 : decode cX10_isAnswered 89 = .ok (.laload, 1) := by decide +kernel
theorem dX10_isAnswered_90 : decode cX10_isAnswered 90 = .ok (.putfield 328, 3) := by decide +kernel
theorem dX10_isAnswered_93 : decode cX10_isAnswered 93 = .ok (.iload 5, 2) := by decide +kernel
theorem dX10_isAnswered_95 : decode cX10_isAnswered 95 = .ok (.ireturn, 1) := by decide +kernel
theorem dX10_entry_0 : decode cX10_entry 0 = .ok (.aload_n 0, 1) := by decide +kernel
theorem dX10_entry_1 : decode cX10_entry 1 = .ok (.iconst 0, 1) := by decide +kernel
theorem dX10_entry_2 : decode cX10_entry 2 = .ok (.putfield 302, 3) := by decide +kernel
theorem dX10_entry_5 : decode cX10_entry 5 = .ok (.aload_n 0, 1) := by decide +kernel
theorem dX10_entry_6 : decode cX10_entry 6 = .ok (.iload_n 1, 1) := by decide +kernel
theorem dX10_entry_7 : decode cX10_entry 7 = .ok (.invokevirtual 309, 3) := by decide +kernel
theorem dX10_entry_10 : decode cX10_entry 10 = .ok (.ifCond .eq 21, 3) := by decide +kernel
theorem dX10_entry_13 : decode cX10_entry 13 = .ok (.aload_n 0, 1) := by decide +kernel
theorem dX10_entry_14 : decode cX10_entry 14 = .ok (.iload_n 1, 1) := by decide +kernel
theorem dX10_entry_15 : decode cX10_entry 15 = .ok (.iload_n 2, 1) := by decide +kernel
theorem dX10_entry_16 : decode cX10_entry 16 = .ok (.i2l, 1) := by decide +kernel
theorem dX10_entry_17 : decode cX10_entry 17 = .ok (.iconst 0, 1) := by decide +kernel
theorem dX10_entry_18 : decode cX10_entry 18 = .ok (.invokevirtual 375, 3) := by decide +kernel
theorem dX10_entry_21 : decode cX10_entry 21 = .ok (.ifCond .eq 10, 3) := by decide +kernel
theorem dX10_entry_24 : decode cX10_entry 24 = .ok (.aload_n 0, 1) := by decide +kernel
theorem dX10_entry_25 : decode cX10_entry 25 = .ok (.getfield 328, 3) := by decide +kernel
theorem dX10_entry_28 : decode cX10_entry 28 = .ok (.goto 4, 3) := by decide +kernel
theorem dX10_entry_31 : decode cX10_entry 31 = .ok (.lconst 0, 1) := by decide +kernel
theorem dX10_entry_32 : decode cX10_entry 32 = .ok (.lreturn, 1) := by decide +kernel
theorem dX10_reason_0 : decode cX10_reason 0 = .ok (.iload_n 1, 1) := by decide +kernel
theorem dX10_reason_1 : decode cX10_reason 1 = .ok (.i2l, 1) := by decide +kernel
theorem dX10_reason_2 : decode cX10_reason 2 = .ok (.lconst 0, 1) := by decide +kernel
theorem dX10_reason_3 : decode cX10_reason 3 = .ok (.aload_n 0, 1) := by decide +kernel
theorem dX10_reason_4 : decode cX10_reason 4 = .ok (.getfield 302, 3) := by decide +kernel
theorem dX10_reason_7 : decode cX10_reason 7 = .ok (.iconst 1, 1) := by decide +kernel
theorem dX10_reason_8 : decode cX10_reason 8 = .ok (.isub, 1) := by decide +kernel
theorem dX10_reason_9 : decode cX10_reason 9 = .ok (.i2l, 1) := by decide +kernel
theorem dX10_reason_10 : decode cX10_reason 10 = .ok (.invokestatic 305, 3) := by decide +kernel
theorem dX10_reason_13 : decode cX10_reason 13 = .ok (.ifCond .ne 8, 3) := by decide +kernel
theorem dX10_reason_16 : decode cX10_reason 16 = .ok (.bipush (-9), 2) := by decide +kernel
theorem dX10_reason_18 : decode cX10_reason 18 = .ok (.goto 22, 3) := by decide +kernel
theorem dX10_reason_21 : decode cX10_reason 21 = .ok (.iload_n 1, 1) := by decide +kernel
theorem dX10_reason_22 : decode cX10_reason 22 = .ok (.aload_n 0, 1) := by decide +kernel
theorem dX10_reason_23 : decode cX10_reason 23 = .ok (.getfield 302, 3) := by decide +kernel
theorem dX10_reason_26 : decode cX10_reason 26 = .ok (.iconst 1, 1) := by decide +kernel
theorem dX10_reason_27 : decode cX10_reason 27 = .ok (.isub, 1) := by decide +kernel
theorem dX10_reason_28 : decode cX10_reason 28 = .ok (.if_icmp .ne 10, 3) := by decide +kernel
theorem dX10_reason_31 : decode cX10_reason 31 = .ok (.aload_n 0, 1) := by decide +kernel
theorem dX10_reason_32 : decode cX10_reason 32 = .ok (.getfield 336, 3) := by decide +kernel
theorem dX10_reason_35 : decode cX10_reason 35 = .ok (.goto 5, 3) := by decide +kernel
theorem dX10_reason_38 : decode cX10_reason 38 = .ok (.bipush 7, 2) := by decide +kernel
theorem dX10_reason_40 : decode cX10_reason 40 = .ok (.ireturn, 1) := by decide +kernel
theorem dX10_sum_0 : decode cX10_sum 0 = .ok (.aload_n 0, 1) := by decide +kernel
theorem dX10_sum_1 : decode cX10_sum 1 = .ok (.iload_n 1, 1) := by decide +kernel
theorem dX10_sum_2 : decode cX10_sum 2 = .ok (.invokevirtual 309, 3) := by decide +kernel
theorem dX10_sum_5 : decode cX10_sum 5 = .ok (.ifCond .ne 7, 3) := by decide +kernel
theorem dX10_sum_8 : decode cX10_sum 8 = .ok (.ldc2_w 222, 3) := by decide +kernel
theorem dX10_sum_11 : decode cX10_sum 11 = .ok (.lreturn, 1) := by decide +kernel
theorem dX10_sum_12 : decode cX10_sum 12 = .ok (.iload 4, 2) := by decide +kernel
theorem dX10_sum_14 : decode cX10_sum 14 = .ok (.i2l, 1) := by decide +kernel
theorem dX10_sum_15 : decode cX10_sum 15 = .ok (.lconst 0, 1) := by decide +kernel
theorem dX10_sum_16 : decode cX10_sum 16 = .ok (.ldc2_w 378, 3) := by decide +kernel
theorem dX10_sum_19 : decode cX10_sum 19 = .ok (.invokestatic 305, 3) := by decide +kernel
theorem dX10_sum_22 : decode cX10_sum 22 = .ok (.ifCond .eq 20, 3) := by decide +kernel
theorem dX10_sum_25 : decode cX10_sum 25 = .ok (.iload_n 3, 1) := by decide +kernel
theorem dX10_sum_26 : decode cX10_sum 26 = .ok (.iload_n 2, 1) := by decide +kernel
theorem dX10_sum_27 : decode cX10_sum 27 = .ok (.if_icmp .lt 15, 3) := by decide +kernel
theorem dX10_sum_30 : decode cX10_sum 30 = .ok (.iload_n 3, 1) := by decide +kernel
theorem dX10_sum_31 : decode cX10_sum 31 = .ok (.i2l, 1) := by decide +kernel
theorem dX10_sum_32 : decode cX10_sum 32 = .ok (.iload_n 2, 1) := by decide +kernel
theorem dX10_sum_33 : decode cX10_sum 33 = .ok (.i2l, 1) := by decide +kernel
theorem dX10_sum_34 : decode cX10_sum 34 = .ok (.ldc2_w 380, 3) := by decide +kernel
theorem dX10_sum_37 : decode cX10_sum 37 = .ok (.ladd, 1) := by decide +kernel
theorem dX10_sum_38 : decode cX10_sum 38 = .ok (.lcmp, 1) := by decide +kernel
theorem dX10_sum_39 : decode cX10_sum 39 = .ok (.ifCond .le 7, 3) := by decide +kernel
theorem dX10_sum_42 : decode cX10_sum 42 = .ok (.ldc2_w 382, 3) := by decide +kernel
theorem dX10_sum_45 : decode cX10_sum 45 = .ok (.lreturn, 1) := by decide +kernel
theorem dX10_sum_46 : decode cX10_sum 46 = .ok (.lconst 0, 1) := by decide +kernel
theorem dX10_sum_47 : decode cX10_sum 47 = .ok (.lstore 5, 2) := by decide +kernel
theorem dX10_sum_49 : decode cX10_sum 49 = .ok (.lconst 0, 1) := by decide +kernel
theorem dX10_sum_50 : decode cX10_sum 50 = .ok (.lstore 7, 2) := by decide +kernel
theorem dX10_sum_52 : decode cX10_sum 52 = .ok (.iload_n 2, 1) := by decide +kernel
theorem dX10_sum_53 : decode cX10_sum 53 = .ok (.i2l, 1) := by decide +kernel
theorem dX10_sum_54 : decode cX10_sum 54 = .ok (.lstore 9, 2) := by decide +kernel
theorem dX10_sum_56 : decode cX10_sum 56 = .ok (.lload 9, 2) := by decide +kernel
theorem dX10_sum_58 : decode cX10_sum 58 = .ok (.iload_n 3, 1) := by decide +kernel
theorem dX10_sum_59 : decode cX10_sum 59 = .ok (.i2l, 1) := by decide +kernel
theorem dX10_sum_60 : decode cX10_sum 60 = .ok (.lcmp, 1) := by decide +kernel
theorem dX10_sum_61 : decode cX10_sum 61 = .ok (.ifCond .gt 64, 3) := by decide +kernel
theorem dX10_sum_64 : decode cX10_sum 64 = .ok (.aload_n 0, 1) := by decide +kernel
theorem dX10_sum_65 : decode cX10_sum 65 = .ok (.iload_n 1, 1) := by decide +kernel
theorem dX10_sum_66 : decode cX10_sum 66 = .ok (.lload 9, 2) := by decide +kernel
theorem dX10_sum_68 : decode cX10_sum 68 = .ok (.iconst 0, 1) := by decide +kernel
theorem dX10_sum_69 : decode cX10_sum 69 = .ok (.invokevirtual 375, 3) := by decide +kernel
theorem dX10_sum_72 : decode cX10_sum 72 = .ok (.ifCond .ne 5, 3) := by decide +kernel
theorem dX10_sum_75 : decode cX10_sum 75 = .ok (.lconst 0, 1) := by decide +kernel
theorem dX10_sum_76 : decode cX10_sum 76 = .ok (.lreturn, 1) := by decide +kernel
theorem dX10_sum_77 : decode cX10_sum 77 = .ok (.lload 7, 2) := by decide +kernel
theorem dX10_sum_79 : decode cX10_sum 79 = .ok (.aload_n 0, 1) := by decide +kernel
theorem dX10_sum_80 : decode cX10_sum 80 = .ok (.getfield 328, 3) := by decide +kernel
theorem dX10_sum_83 : decode cX10_sum 83 = .ok (.ldc2_w 352, 3) := by decide +kernel
theorem dX10_sum_86 : decode cX10_sum 86 = .ok (.land, 1) := by decide +kernel
theorem dX10_sum_87 : decode cX10_sum 87 = .ok (.ladd, 1) := by decide +kernel
theorem dX10_sum_88 : decode cX10_sum 88 = .ok (.lstore 7, 2) := by decide +kernel
theorem dX10_sum_90 : decode cX10_sum 90 = .ok (.lload 5, 2) := by decide +kernel
theorem dX10_sum_92 : decode cX10_sum 92 = .ok (.aload_n 0, 1) := by decide +kernel
theorem dX10_sum_93 : decode cX10_sum 93 = .ok (.getfield 328, 3) := by decide +kernel
theorem dX10_sum_96 : decode cX10_sum 96 = .ok (.bipush 32, 2) := by decide +kernel
theorem dX10_sum_98 : decode cX10_sum 98 = .ok (.lshr, 1) := by decide +kernel
theorem dX10_sum_99 : decode cX10_sum 99 = .ok (.lload 7, 2) := by decide +kernel
theorem dX10_sum_101 : decode cX10_sum 101 = .ok (.bipush 32, 2) := by decide +kernel
theorem dX10_sum_103 : decode cX10_sum 103 = .ok (.lshr, 1) := by decide +kernel
theorem dX10_sum_104 : decode cX10_sum 104 = .ok (.ladd, 1) := by decide +kernel
theorem dX10_sum_105 : decode cX10_sum 105 = .ok (.ladd, 1) := by decide +kernel
theorem dX10_sum_106 : decode cX10_sum 106 = .ok (.lstore 5, 2) := by decide +kernel
theorem dX10_sum_108 : decode cX10_sum 108 = .ok (.lload 7, 2) := by decide +kernel
theorem dX10_sum_110 : decode cX10_sum 110 = .ok (.ldc2_w 352, 3) := by decide +kernel
theorem dX10_sum_113 : decode cX10_sum 113 = .ok (.land, 1) := by decide +kernel
theorem dX10_sum_114 : decode cX10_sum 114 = .ok (.lstore 7, 2) := by decide +kernel
theorem dX10_sum_116 : decode cX10_sum 116 = .ok (.lload 9, 2) := by decide +kernel
theorem dX10_sum_118 : decode cX10_sum 118 = .ok (.lconst 1, 1) := by decide +kernel
theorem dX10_sum_119 : decode cX10_sum 119 = .ok (.ladd, 1) := by decide +kernel
theorem dX10_sum_120 : decode cX10_sum 120 = .ok (.lstore 9, 2) := by decide +kernel
theorem dX10_sum_122 : decode cX10_sum 122 = .ok (.goto (-66), 3) := by decide +kernel
theorem dX10_sum_125 : decode cX10_sum 125 = .ok (.iload 4, 2) := by decide +kernel
theorem dX10_sum_127 : decode cX10_sum 127 = .ok (.ifCond .ne 8, 3) := by decide +kernel
theorem dX10_sum_130 : decode cX10_sum 130 = .ok (.lload 7, 2) := by decide +kernel
theorem dX10_sum_132 : decode cX10_sum 132 = .ok (.goto 27, 3) := by decide +kernel
theorem dX10_sum_135 : decode cX10_sum 135 = .ok (.iload 4, 2) := by decide +kernel
theorem dX10_sum_137 : decode cX10_sum 137 = .ok (.iconst 1, 1) := by decide +kernel
theorem dX10_sum_138 : decode cX10_sum 138 = .ok (.if_icmp .ne 12, 3) := by decide +kernel
theorem dX10_sum_141 : decode cX10_sum 141 = .ok (.lload 5, 2) := by decide +kernel
theorem dX10_sum_143 : decode cX10_sum 143 = .ok (.ldc2_w 352, 3) := by decide +kernel
theorem dX10_sum_146 : decode cX10_sum 146 = .ok (.land, 1) := by decide +kernel
theorem dX10_sum_147 : decode cX10_sum 147 = .ok (.goto 12, 3) := by decide +kernel
theorem dX10_sum_150 : decode cX10_sum 150 = .ok (.lload 5, 2) := by decide +kernel
theorem dX10_sum_152 : decode cX10_sum 152 = .ok (.bipush 32, 2) := by decide +kernel
theorem dX10_sum_154 : decode cX10_sum 154 = .ok (.lshr, 1) := by decide +kernel
theorem dX10_sum_155 : decode cX10_sum 155 = .ok (.ldc2_w 352, 3) := by decide +kernel
theorem dX10_sum_158 : decode cX10_sum 158 = .ok (.land, 1) := by decide +kernel
theorem dX10_sum_159 : decode cX10_sum 159 = .ok (.lreturn, 1) := by decide +kernel
theorem dX10_find_0 : decode cX10_find 0 = .ok (.aload_n 0, 1) := by decide +kernel
theorem dX10_find_1 : decode cX10_find 1 = .ok (.iload_n 1, 1) := by decide +kernel
theorem dX10_find_2 : decode cX10_find 2 = .ok (.invokevirtual 309, 3) := by decide +kernel
theorem dX10_find_5 : decode cX10_find 5 = .ok (.ifCond .ne 5, 3) := by decide +kernel
theorem dX10_find_8 : decode cX10_find 8 = .ok (.iconst (-1), 1) := by decide +kernel
theorem dX10_find_9 : decode cX10_find 9 = .ok (.ireturn, 1) := by decide +kernel
theorem dX10_find_10 : decode cX10_find 10 = .ok (.aload_n 0, 1) := by decide +kernel
theorem dX10_find_11 : decode cX10_find 11 = .ok (.iload_n 1, 1) := by decide +kernel
theorem dX10_find_12 : decode cX10_find 12 = .ok (.lconst 0, 1) := by decide +kernel
theorem dX10_find_13 : decode cX10_find 13 = .ok (.iconst 1, 1) := by decide +kernel
theorem dX10_find_14 : decode cX10_find 14 = .ok (.invokevirtual 375, 3) := by decide +kernel
theorem dX10_find_17 : decode cX10_find 17 = .ok (.ifCond .ne 6, 3) := by decide +kernel
theorem dX10_find_20 : decode cX10_find 20 = .ok (.bipush (-10), 2) := by decide +kernel
theorem dX10_find_22 : decode cX10_find 22 = .ok (.ireturn, 1) := by decide +kernel
theorem dX10_find_23 : decode cX10_find 23 = .ok (.iconst 0, 1) := by decide +kernel
theorem dX10_find_24 : decode cX10_find 24 = .ok (.istore 4, 2) := by decide +kernel
theorem dX10_find_26 : decode cX10_find 26 = .ok (.iload 4, 2) := by decide +kernel
theorem dX10_find_28 : decode cX10_find 28 = .ok (.i2l, 1) := by decide +kernel
theorem dX10_find_29 : decode cX10_find 29 = .ok (.aload_n 0, 1) := by decide +kernel
theorem dX10_find_30 : decode cX10_find 30 = .ok (.getfield 88, 3) := by decide +kernel
theorem dX10_find_33 : decode cX10_find 33 = .ok (.iload_n 1, 1) := by decide +kernel
theorem dX10_find_34 : decode cX10_find 34 = .ok (.laload, 1) := by decide +kernel
theorem dX10_find_35 : decode cX10_find 35 = .ok (.lcmp, 1) := by decide +kernel
theorem dX10_find_36 : decode cX10_find 36 = .ok (.ifCond .ge 36, 3) := by decide +kernel
theorem dX10_find_39 : decode cX10_find 39 = .ok (.aload_n 0, 1) := by decide +kernel
theorem dX10_find_40 : decode cX10_find 40 = .ok (.iload_n 1, 1) := by decide +kernel
theorem dX10_find_41 : decode cX10_find 41 = .ok (.iload 4, 2) := by decide +kernel
theorem dX10_find_43 : decode cX10_find 43 = .ok (.i2l, 1) := by decide +kernel
theorem dX10_find_44 : decode cX10_find 44 = .ok (.iconst 0, 1) := by decide +kernel
theorem dX10_find_45 : decode cX10_find 45 = .ok (.invokevirtual 375, 3) := by decide +kernel
theorem dX10_find_48 : decode cX10_find 48 = .ok (.ifCond .ne 6, 3) := by decide +kernel
theorem dX10_find_51 : decode cX10_find 51 = .ok (.bipush (-10), 2) := by decide +kernel
theorem dX10_find_53 : decode cX10_find 53 = .ok (.ireturn, 1) := by decide +kernel
theorem dX10_find_54 : decode cX10_find 54 = .ok (.aload_n 0, 1) := by decide +kernel
theorem dX10_find_55 : decode cX10_find 55 = .ok (.getfield 328, 3) := by decide +kernel
theorem dX10_find_58 : decode cX10_find 58 = .ok (.lload_n 2, 1) := by decide +kernel
theorem dX10_find_59 : decode cX10_find 59 = .ok (.lcmp, 1) := by decide +kernel
theorem dX10_find_60 : decode cX10_find 60 = .ok (.ifCond .ne 6, 3) := by decide +kernel
theorem dX10_find_63 : decode cX10_find 63 = .ok (.iload 4, 2) := by decide +kernel
theorem dX10_find_65 : decode cX10_find 65 = .ok (.ireturn, 1) := by decide +kernel
theorem dX10_find_66 : decode cX10_find 66 = .ok (.iinc 4 1, 3) := by decide +kernel
theorem dX10_find_69 : decode cX10_find 69 = .ok (.goto (-43), 3) := by decide +kernel
theorem dX10_find_72 : decode cX10_find 72 = .ok (.bipush (-9), 2) := by decide +kernel
theorem dX10_find_74 : decode cX10_find 74 = .ok (.ireturn, 1) := by decide +kernel
theorem dX10_drop_0 : decode cX10_drop 0 = .ok (.aload_n 0, 1) := by decide +kernel
theorem dX10_drop_1 : decode cX10_drop 1 = .ok (.iload_n 1, 1) := by decide +kernel
theorem dX10_drop_2 : decode cX10_drop 2 = .ok (.invokevirtual 309, 3) := by decide +kernel
theorem dX10_drop_5 : decode cX10_drop 5 = .ok (.ifCond .ne 5, 3) := by decide +kernel
theorem dX10_drop_8 : decode cX10_drop 8 = .ok (.iconst (-1), 1) := by decide +kernel
theorem dX10_drop_9 : decode cX10_drop 9 = .ok (.ireturn, 1) := by decide +kernel
theorem dX10_drop_10 : decode cX10_drop 10 = .ok (.aload_n 0, 1) := by decide +kernel
theorem dX10_drop_11 : decode cX10_drop 11 = .ok (.getfield 100, 3) := by decide +kernel
theorem dX10_drop_14 : decode cX10_drop 14 = .ok (.iload_n 1, 1) := by decide +kernel
theorem dX10_drop_15 : decode cX10_drop 15 = .ok (.iaload, 1) := by decide +kernel
theorem dX10_drop_16 : decode cX10_drop 16 = .ok (.iconst 2, 1) := by decide +kernel
theorem dX10_drop_17 : decode cX10_drop 17 = .ok (.if_icmp .eq 6, 3) := by decide +kernel
theorem dX10_drop_20 : decode cX10_drop 20 = .ok (.bipush (-3), 2) := by decide +kernel
theorem dX10_drop_22 : decode cX10_drop 22 = .ok (.ireturn, 1) := by decide +kernel
theorem dX10_drop_23 : decode cX10_drop 23 = .ok (.aload_n 0, 1) := by decide +kernel
theorem dX10_drop_24 : decode cX10_drop 24 = .ok (.getfield 100, 3) := by decide +kernel
theorem dX10_drop_27 : decode cX10_drop 27 = .ok (.iload_n 1, 1) := by decide +kernel
theorem dX10_drop_28 : decode cX10_drop 28 = .ok (.iconst 0, 1) := by decide +kernel
theorem dX10_drop_29 : decode cX10_drop 29 = .ok (.iastore, 1) := by decide +kernel
theorem dX10_drop_30 : decode cX10_drop 30 = .ok (.aload_n 0, 1) := by decide +kernel
theorem dX10_drop_31 : decode cX10_drop 31 = .ok (.getfield 88, 3) := by decide +kernel
theorem dX10_drop_34 : decode cX10_drop 34 = .ok (.iload_n 1, 1) := by decide +kernel
theorem dX10_drop_35 : decode cX10_drop 35 = .ok (.laload, 1) := by decide +kernel
theorem dX10_drop_36 : decode cX10_drop 36 = .ok (.l2i, 1) := by decide +kernel
theorem dX10_drop_37 : decode cX10_drop 37 = .ok (.ireturn, 1) := by decide +kernel
theorem dX10_builds_0 : decode cX10_builds 0 = .ok (.aload_n 0, 1) := by decide +kernel
theorem dX10_builds_1 : decode cX10_builds 1 = .ok (.getfield 296, 3) := by decide +kernel
theorem dX10_builds_4 : decode cX10_builds 4 = .ok (.ireturn, 1) := by decide +kernel
theorem dX10_build_0 : decode cX10_build 0 = .ok (.iload_n 1, 1) := by decide +kernel
theorem dX10_build_1 : decode cX10_build 1 = .ok (.i2l, 1) := by decide +kernel
theorem dX10_build_2 : decode cX10_build 2 = .ok (.lconst 0, 1) := by decide +kernel
theorem dX10_build_3 : decode cX10_build 3 = .ok (.aload_n 0, 1) := by decide +kernel
theorem dX10_build_4 : decode cX10_build 4 = .ok (.getfield 296, 3) := by decide +kernel
theorem dX10_build_7 : decode cX10_build 7 = .ok (.bipush 100, 2) := by decide +kernel
theorem dX10_build_9 : decode cX10_build 9 = .ok (.if_icmp .ge 10, 3) := by decide +kernel
theorem dX10_build_12 : decode cX10_build 12 = .ok (.aload_n 0, 1) := by decide +kernel
theorem dX10_build_13 : decode cX10_build 13 = .ok (.getfield 296, 3) := by decide +kernel
theorem dX10_build_16 : decode cX10_build 16 = .ok (.goto 5, 3) := by decide +kernel
theorem dX10_build_19 : decode cX10_build 19 = .ok (.bipush 100, 2) := by decide +kernel
theorem dX10_build_21 : decode cX10_build 21 = .ok (.iconst 1, 1) := by decide +kernel
theorem dX10_build_22 : decode cX10_build 22 = .ok (.isub, 1) := by decide +kernel
theorem dX10_build_23 : decode cX10_build 23 = .ok (.i2l, 1) := by decide +kernel
theorem dX10_build_24 : decode cX10_build 24 = .ok (.invokestatic 305, 3) := by decide +kernel
theorem dX10_build_27 : decode cX10_build 27 = .ok (.ifCond .ne 5, 3) := by decide +kernel
theorem dX10_build_30 : decode cX10_build 30 = .ok (.iconst (-1), 1) := by decide +kernel
theorem dX10_build_31 : decode cX10_build 31 = .ok (.ireturn, 1) := by decide +kernel
theorem dX10_build_32 : decode cX10_build 32 = .ok (.iload_n 2, 1) := by decide +kernel
theorem dX10_build_33 : decode cX10_build 33 = .ok (.ifCond .ne 12, 3) := by decide +kernel
theorem dX10_build_36 : decode cX10_build 36 = .ok (.aload_n 0, 1) := by decide +kernel
theorem dX10_build_37 : decode cX10_build 37 = .ok (.getfield 109, 3) := by decide +kernel
theorem dX10_build_40 : decode cX10_build 40 = .ok (.iload_n 1, 1) := by decide +kernel
theorem dX10_build_41 : decode cX10_build 41 = .ok (.iaload, 1) := by decide +kernel
theorem dX10_build_42 : decode cX10_build 42 = .ok (.goto 33, 3) := by decide +kernel
theorem dX10_build_45 : decode cX10_build 45 = .ok (.iload_n 2, 1) := by decide +kernel
theorem dX10_build_46 : decode cX10_build 46 = .ok (.iconst 1, 1) := by decide +kernel
theorem dX10_build_47 : decode cX10_build 47 = .ok (.if_icmp .ne 12, 3) := by decide +kernel
theorem dX10_build_50 : decode cX10_build 50 = .ok (.aload_n 0, 1) := by decide +kernel
theorem dX10_build_51 : decode cX10_build 51 = .ok (.getfield 112, 3) := by decide +kernel
theorem dX10_build_54 : decode cX10_build 54 = .ok (.iload_n 1, 1) := by decide +kernel
theorem dX10_build_55 : decode cX10_build 55 = .ok (.iaload, 1) := by decide +kernel
theorem dX10_build_56 : decode cX10_build 56 = .ok (.goto 19, 3) := by decide +kernel
theorem dX10_build_59 : decode cX10_build 59 = .ok (.iload_n 2, 1) := by decide +kernel
theorem dX10_build_60 : decode cX10_build 60 = .ok (.iconst 2, 1) := by decide +kernel
theorem dX10_build_61 : decode cX10_build 61 = .ok (.if_icmp .ne 12, 3) := by decide +kernel
theorem dX10_build_64 : decode cX10_build 64 = .ok (.aload_n 0, 1) := by decide +kernel
theorem dX10_build_65 : decode cX10_build 65 = .ok (.getfield 115, 3) := by decide +kernel
theorem dX10_build_68 : decode cX10_build 68 = .ok (.iload_n 1, 1) := by decide +kernel
theorem dX10_build_69 : decode cX10_build 69 = .ok (.iaload, 1) := by decide +kernel
theorem dX10_build_70 : decode cX10_build 70 = .ok (.goto 5, 3) := by decide +kernel
theorem dX10_build_73 : decode cX10_build 73 = .ok (.bipush (-2), 2) := by decide +kernel
theorem dX10_build_75 : decode cX10_build 75 = .ok (.ireturn, 1) := by decide +kernel
theorem dX10_halves_0 : decode cX10_halves 0 = .ok (.aload_n 0, 1) := by decide +kernel
theorem dX10_halves_1 : decode cX10_halves 1 = .ok (.getfield 299, 3) := by decide +kernel
theorem dX10_halves_4 : decode cX10_halves 4 = .ok (.ireturn, 1) := by decide +kernel
theorem dX10_half__0 : decode cX10_half_ 0 = .ok (.iload_n 1, 1) := by decide +kernel
theorem dX10_half__1 : decode cX10_half_ 1 = .ok (.i2l, 1) := by decide +kernel
theorem dX10_half__2 : decode cX10_half_ 2 = .ok (.lconst 0, 1) := by decide +kernel
theorem dX10_half__3 : decode cX10_half_ 3 = .ok (.aload_n 0, 1) := by decide +kernel
theorem dX10_half__4 : decode cX10_half_ 4 = .ok (.getfield 299, 3) := by decide +kernel
theorem dX10_half__7 : decode cX10_half_ 7 = .ok (.bipush 100, 2) := by decide +kernel
theorem dX10_half__9 : decode cX10_half_ 9 = .ok (.if_icmp .ge 10, 3) := by decide +kernel
theorem dX10_half__12 : decode cX10_half_ 12 = .ok (.aload_n 0, 1) := by decide +kernel
theorem dX10_half__13 : decode cX10_half_ 13 = .ok (.getfield 299, 3) := by decide +kernel
theorem dX10_half__16 : decode cX10_half_ 16 = .ok (.goto 5, 3) := by decide +kernel
theorem dX10_half__19 : decode cX10_half_ 19 = .ok (.bipush 100, 2) := by decide +kernel
theorem dX10_half__21 : decode cX10_half_ 21 = .ok (.iconst 1, 1) := by decide +kernel
theorem dX10_half__22 : decode cX10_half_ 22 = .ok (.isub, 1) := by decide +kernel
theorem dX10_half__23 : decode cX10_half_ 23 = .ok (.i2l, 1) := by decide +kernel
theorem dX10_half__24 : decode cX10_half_ 24 = .ok (.invokestatic 305, 3) := by decide +kernel
theorem dX10_half__27 : decode cX10_half_ 27 = .ok (.ifCond .ne 7, 3) := by decide +kernel
theorem dX10_half__30 : decode cX10_half_ 30 = .ok (.ldc2_w 222, 3) := by decide +kernel
theorem dX10_half__33 : decode cX10_half_ 33 = .ok (.lreturn, 1) := by decide +kernel
theorem dX10_half__34 : decode cX10_half_ 34 = .ok (.iload_n 2, 1) := by decide +kernel
theorem dX10_half__35 : decode cX10_half_ 35 = .ok (.ifCond .ne 13, 3) := by decide +kernel
theorem dX10_half__38 : decode cX10_half_ 38 = .ok (.aload_n 0, 1) := by decide +kernel
theorem dX10_half__39 : decode cX10_half_ 39 = .ok (.getfield 118, 3) := by decide +kernel
theorem dX10_half__42 : decode cX10_half_ 42 = .ok (.iload_n 1, 1) := by decide +kernel
theorem dX10_half__43 : decode cX10_half_ 43 = .ok (.iaload, 1) := by decide +kernel
theorem dX10_half__44 : decode cX10_half_ 44 = .ok (.i2l, 1) := by decide +kernel
theorem dX10_half__45 : decode cX10_half_ 45 = .ok (.goto 50, 3) := by decide +kernel
theorem dX10_half__48 : decode cX10_half_ 48 = .ok (.iload_n 2, 1) := by decide +kernel
theorem dX10_half__49 : decode cX10_half_ 49 = .ok (.iconst 1, 1) := by decide +kernel
theorem dX10_half__50 : decode cX10_half_ 50 = .ok (.if_icmp .ne 13, 3) := by decide +kernel
theorem dX10_half__53 : decode cX10_half_ 53 = .ok (.aload_n 0, 1) := by decide +kernel
theorem dX10_half__54 : decode cX10_half_ 54 = .ok (.getfield 121, 3) := by decide +kernel
theorem dX10_half__57 : decode cX10_half_ 57 = .ok (.iload_n 1, 1) := by decide +kernel
theorem dX10_half__58 : decode cX10_half_ 58 = .ok (.iaload, 1) := by decide +kernel
theorem dX10_half__59 : decode cX10_half_ 59 = .ok (.i2l, 1) := by decide +kernel
theorem dX10_half__60 : decode cX10_half_ 60 = .ok (.goto 35, 3) := by decide +kernel
theorem dX10_half__63 : decode cX10_half_ 63 = .ok (.iload_n 2, 1) := by decide +kernel
theorem dX10_half__64 : decode cX10_half_ 64 = .ok (.iconst 2, 1) := by decide +kernel
theorem dX10_half__65 : decode cX10_half_ 65 = .ok (.if_icmp .ne 13, 3) := by decide +kernel
theorem dX10_half__68 : decode cX10_half_ 68 = .ok (.aload_n 0, 1) := by decide +kernel
theorem dX10_half__69 : decode cX10_half_ 69 = .ok (.getfield 124, 3) := by decide +kernel
theorem dX10_half__72 : decode cX10_half_ 72 = .ok (.iload_n 1, 1) := by decide +kernel
theorem dX10_half__73 : decode cX10_half_ 73 = .ok (.iaload, 1) := by decide +kernel
theorem dX10_half__74 : decode cX10_half_ 74 = .ok (.i2l, 1) := by decide +kernel
theorem dX10_half__75 : decode cX10_half_ 75 = .ok (.goto 20, 3) := by decide +kernel
theorem dX10_half__78 : decode cX10_half_ 78 = .ok (.iload_n 2, 1) := by decide +kernel
theorem dX10_half__79 : decode cX10_half_ 79 = .ok (.iconst 3, 1) := by decide +kernel
theorem dX10_half__80 : decode cX10_half_ 80 = .ok (.if_icmp .ne 12, 3) := by decide +kernel
theorem dX10_half__83 : decode cX10_half_ 83 = .ok (.aload_n 0, 1) := by decide +kernel
theorem dX10_half__84 : decode cX10_half_ 84 = .ok (.getfield 127, 3) := by decide +kernel
theorem dX10_half__87 : decode cX10_half_ 87 = .ok (.iload_n 1, 1) := by decide +kernel
theorem dX10_half__88 : decode cX10_half_ 88 = .ok (.laload, 1) := by decide +kernel
theorem dX10_half__89 : decode cX10_half_ 89 = .ok (.goto 6, 3) := by decide +kernel
theorem dX10_half__92 : decode cX10_half_ 92 = .ok (.ldc2_w 382, 3) := by decide +kernel
theorem dX10_half__95 : decode cX10_half_ 95 = .ok (.lreturn, 1) := by decide +kernel
theorem dX10_reads_0 : decode cX10_reads 0 = .ok (.aload_n 0, 1) := by decide +kernel
theorem dX10_reads_1 : decode cX10_reads 1 = .ok (.iload_n 1, 1) := by decide +kernel
theorem dX10_reads_2 : decode cX10_reads 2 = .ok (.invokevirtual 309, 3) := by decide +kernel
theorem dX10_reads_5 : decode cX10_reads 5 = .ok (.ifCond .eq 11, 3) := by decide +kernel
theorem dX10_reads_8 : decode cX10_reads 8 = .ok (.aload_n 0, 1) := by decide +kernel
theorem dX10_reads_9 : decode cX10_reads 9 = .ok (.iload_n 2, 1) := by decide +kernel
theorem dX10_reads_10 : decode cX10_reads 10 = .ok (.invokevirtual 309, 3) := by decide +kernel
theorem dX10_reads_13 : decode cX10_reads 13 = .ok (.ifCond .ne 5, 3) := by decide +kernel
theorem dX10_reads_16 : decode cX10_reads 16 = .ok (.iconst (-1), 1) := by decide +kernel
theorem dX10_reads_17 : decode cX10_reads 17 = .ok (.ireturn, 1) := by decide +kernel
theorem dX10_reads_18 : decode cX10_reads 18 = .ok (.iconst 0, 1) := by decide +kernel
theorem dX10_reads_19 : decode cX10_reads 19 = .ok (.istore_n 3, 1) := by decide +kernel
theorem dX10_reads_20 : decode cX10_reads 20 = .ok (.aload_n 0, 1) := by decide +kernel
theorem dX10_reads_21 : decode cX10_reads 21 = .ok (.getfield 91, 3) := by decide +kernel
theorem dX10_reads_24 : decode cX10_reads 24 = .ok (.iload_n 1, 1) := by decide +kernel
theorem dX10_reads_25 : decode cX10_reads 25 = .ok (.iaload, 1) := by decide +kernel
theorem dX10_reads_26 : decode cX10_reads 26 = .ok (.istore 4, 2) := by decide +kernel
theorem dX10_reads_28 : decode cX10_reads 28 = .ok (.iload 4, 2) := by decide +kernel
theorem dX10_reads_30 : decode cX10_reads 30 = .ok (.aload_n 0, 1) := by decide +kernel
theorem dX10_reads_31 : decode cX10_reads 31 = .ok (.getfield 91, 3) := by decide +kernel
theorem dX10_reads_34 : decode cX10_reads 34 = .ok (.iload_n 1, 1) := by decide +kernel
theorem dX10_reads_35 : decode cX10_reads 35 = .ok (.iconst 1, 1) := by decide +kernel
theorem dX10_reads_36 : decode cX10_reads 36 = .ok (.iadd, 1) := by decide +kernel
theorem dX10_reads_37 : decode cX10_reads 37 = .ok (.iaload, 1) := by decide +kernel
theorem dX10_reads_38 : decode cX10_reads 38 = .ok (.if_icmp .ge 39, 3) := by decide +kernel
theorem dX10_reads_41 : decode cX10_reads 41 = .ok (.aload_n 0, 1) := by decide +kernel
theorem dX10_reads_42 : decode cX10_reads 42 = .ok (.getfield 94, 3) := by decide +kernel
theorem dX10_reads_45 : decode cX10_reads 45 = .ok (.iload 4, 2) := by decide +kernel
theorem dX10_reads_47 : decode cX10_reads 47 = .ok (.iaload, 1) := by decide +kernel
theorem dX10_reads_48 : decode cX10_reads 48 = .ok (.iconst 4, 1) := by decide +kernel
theorem dX10_reads_49 : decode cX10_reads 49 = .ok (.if_icmp .ne 20, 3) := by decide +kernel
theorem dX10_reads_52 : decode cX10_reads 52 = .ok (.aload_n 0, 1) := by decide +kernel
theorem dX10_reads_53 : decode cX10_reads 53 = .ok (.getfield 97, 3) := by decide +kernel
theorem dX10_reads_56 : decode cX10_reads 56 = .ok (.iload 4, 2) := by decide +kernel
theorem dX10_reads_58 : decode cX10_reads 58 = .ok (.laload, 1) := by decide +kernel
theorem dX10_reads_59 : decode cX10_reads 59 = .ok (.iload_n 2, 1) := by decide +kernel
theorem dX10_reads_60 : decode cX10_reads 60 = .ok (.i2l, 1) := by decide +kernel
theorem dX10_reads_61 : decode cX10_reads 61 = .ok (.lcmp, 1) := by decide +kernel
theorem dX10_reads_62 : decode cX10_reads 62 = .ok (.ifCond .ne 7, 3) := by decide +kernel
theorem dX10_reads_65 : decode cX10_reads 65 = .ok (.iconst 1, 1) := by decide +kernel
theorem dX10_reads_66 : decode cX10_reads 66 = .ok (.goto 4, 3) := by decide +kernel
theorem dX10_reads_69 : decode cX10_reads 69 = .ok (.iload_n 3, 1) := by decide +kernel
theorem dX10_reads_70 : decode cX10_reads 70 = .ok (.istore_n 3, 1) := by decide +kernel
theorem dX10_reads_71 : decode cX10_reads 71 = .ok (.iinc 4 1, 3) := by decide +kernel
theorem dX10_reads_74 : decode cX10_reads 74 = .ok (.goto (-46), 3) := by decide +kernel
theorem dX10_reads_77 : decode cX10_reads 77 = .ok (.iload_n 3, 1) := by decide +kernel
theorem dX10_reads_78 : decode cX10_reads 78 = .ok (.ireturn, 1) := by decide +kernel
theorem dX10_count_0 : decode cX10_count 0 = .ok (.iconst 0, 1) := by decide +kernel
theorem dX10_count_1 : decode cX10_count 1 = .ok (.istore_n 2, 1) := by decide +kernel
theorem dX10_count_2 : decode cX10_count 2 = .ok (.iload_n 1, 1) := by decide +kernel
theorem dX10_count_3 : decode cX10_count 3 = .ok (.tableswitch 174 0 4 #[33, 38, 38, 83, 169], 33) := by decide +kernel
theorem dX10_count_36 : decode cX10_count 36 = .ok (.aload_n 0, 1) := by decide +kernel
theorem dX10_count_37 : decode cX10_count 37 = .ok (.getfield 289, 3) := by decide +kernel
theorem dX10_count_40 : decode cX10_count 40 = .ok (.ireturn, 1) := by decide +kernel
theorem dX10_count_41 : decode cX10_count 41 = .ok (.iconst 0, 1) := by decide +kernel
theorem dX10_count_42 : decode cX10_count 42 = .ok (.istore_n 3, 1) := by decide +kernel
theorem dX10_count_43 : decode cX10_count 43 = .ok (.iload_n 3, 1) := by decide +kernel
theorem dX10_count_44 : decode cX10_count 44 = .ok (.aload_n 0, 1) := by decide +kernel
theorem dX10_count_45 : decode cX10_count 45 = .ok (.getfield 289, 3) := by decide +kernel
theorem dX10_count_48 : decode cX10_count 48 = .ok (.if_icmp .ge 36, 3) := by decide +kernel
theorem dX10_count_51 : decode cX10_count 51 = .ok (.iload_n 2, 1) := by decide +kernel
theorem dX10_count_52 : decode cX10_count 52 = .ok (.aload_n 0, 1) := by decide +kernel
theorem dX10_count_53 : decode cX10_count 53 = .ok (.getfield 100, 3) := by decide +kernel
theorem dX10_count_56 : decode cX10_count 56 = .ok (.iload_n 3, 1) := by decide +kernel
theorem dX10_count_57 : decode cX10_count 57 = .ok (.iaload, 1) := by decide +kernel
theorem dX10_count_58 : decode cX10_count 58 = .ok (.iload_n 1, 1) := by decide +kernel
theorem dX10_count_59 : decode cX10_count 59 = .ok (.iconst 1, 1) := by decide +kernel
theorem dX10_count_60 : decode cX10_count 60 = .ok (.if_icmp .ne 7, 3) := by decide +kernel
theorem dX10_count_63 : decode cX10_count 63 = .ok (.iconst 2, 1) := by decide +kernel
theorem dX10_count_64 : decode cX10_count 64 = .ok (.goto 4, 3) := by decide +kernel
theorem dX10_count_67 : decode cX10_count 67 = .ok (.iconst 3, 1) := by decide +kernel
theorem dX10_count_68 : decode cX10_count 68 = .ok (.if_icmp .ne 7, 3) := by decide +kernel
theorem dX10_count_71 : decode cX10_count 71 = .ok (.iconst 1, 1) := by decide +kernel
theorem dX10_count_72 : decode cX10_count 72 = .ok (.goto 4, 3) := by decide +kernel
theorem dX10_count_75 : decode cX10_count 75 = .ok (.iconst 0, 1) := by decide +kernel
theorem dX10_count_76 : decode cX10_count 76 = .ok (.iadd, 1) := by decide +kernel
theorem dX10_count_77 : decode cX10_count 77 = .ok (.istore_n 2, 1) := by decide +kernel
theorem dX10_count_78 : decode cX10_count 78 = .ok (.iinc 3 1, 3) := by decide +kernel
theorem dX10_count_81 : decode cX10_count 81 = .ok (.goto (-38), 3) := by decide +kernel
theorem dX10_count_84 : decode cX10_count 84 = .ok (.iload_n 2, 1) := by decide +kernel
theorem dX10_count_85 : decode cX10_count 85 = .ok (.ireturn, 1) := by decide +kernel
theorem dX10_count_86 : decode cX10_count 86 = .ok (.iconst 0, 1) := by decide +kernel
theorem dX10_count_87 : decode cX10_count 87 = .ok (.istore_n 3, 1) := by decide +kernel
theorem dX10_count_88 : decode cX10_count 88 = .ok (.iload_n 3, 1) := by decide +kernel
theorem dX10_count_89 : decode cX10_count 89 = .ok (.aload_n 0, 1) := by decide +kernel
theorem dX10_count_90 : decode cX10_count 90 = .ok (.getfield 289, 3) := by decide +kernel
theorem dX10_count_93 : decode cX10_count 93 = .ok (.if_icmp .ge 77, 3) := by decide +kernel
theorem dX10_count_96 : decode cX10_count 96 = .ok (.iconst 0, 1) := by decide +kernel
theorem dX10_count_97 : decode cX10_count 97 = .ok (.istore 4, 2) := by decide +kernel
theorem dX10_count_99 : decode cX10_count 99 = .ok (.aload_n 0, 1) := by decide +kernel
theorem dX10_count_100 : decode cX10_count 100 = .ok (.getfield 100, 3) := by decide +kernel
theorem dX10_count_103 : decode cX10_count 103 = .ok (.iload_n 3, 1) := by decide +kernel
theorem dX10_count_104 : decode cX10_count 104 = .ok (.iaload, 1) := by decide +kernel
theorem dX10_count_105 : decode cX10_count 105 = .ok (.iconst 2, 1) := by decide +kernel
theorem dX10_count_106 : decode cX10_count 106 = .ok (.if_icmp .ne 58, 3) := by decide +kernel
theorem dX10_count_109 : decode cX10_count 109 = .ok (.iload 4, 2) := by decide +kernel
theorem dX10_count_111 : decode cX10_count 111 = .ok (.i2l, 1) := by decide +kernel
theorem dX10_count_112 : decode cX10_count 112 = .ok (.aload_n 0, 1) := by decide +kernel
theorem dX10_count_113 : decode cX10_count 113 = .ok (.getfield 88, 3) := by decide +kernel
theorem dX10_count_116 : decode cX10_count 116 = .ok (.iload_n 3, 1) := by decide +kernel
theorem dX10_count_117 : decode cX10_count 117 = .ok (.laload, 1) := by decide +kernel
theorem dX10_count_118 : decode cX10_count 118 = .ok (.lcmp, 1) := by decide +kernel
theorem dX10_count_119 : decode cX10_count 119 = .ok (.ifCond .ge 45, 3) := by decide +kernel
theorem dX10_count_122 : decode cX10_count 122 = .ok (.iload_n 2, 1) := by decide +kernel
theorem dX10_count_123 : decode cX10_count 123 = .ok (.aload_n 0, 1) := by decide +kernel
theorem dX10_count_124 : decode cX10_count 124 = .ok (.getfield 79, 3) := by decide +kernel
theorem dX10_count_127 : decode cX10_count 127 = .ok (.iload_n 3, 1) := by decide +kernel
theorem dX10_count_128 : decode cX10_count 128 = .ok (.baload, 1) := by decide +kernel
theorem dX10_count_129 : decode cX10_count 129 = .ok (.ifCond .ne 22, 3) := by decide +kernel
theorem dX10_count_132 : decode cX10_count 132 = .ok (.aload_n 0, 1) := by decide +kernel
theorem dX10_count_133 : decode cX10_count 133 = .ok (.getfield 103, 3) := by decide +kernel
theorem dX10_count_136 : decode cX10_count 136 = .ok (.bipush 25, 2) := by decide +kernel
theorem dX10_count_138 : decode cX10_count 138 = .ok (.iload_n 3, 1) := by decide +kernel
theorem dX10_count_139 : decode cX10_count 139 = .ok (.imul, 1) := by decide +kernel
theorem dX10_count_140 : decode cX10_count 140 = .ok (.iload 4, 2) := by decide +kernel
theorem dX10_count_142 : decode cX10_count 142 = .ok (.bipush 8, 2) := by decide +kernel
theorem dX10_count_144 : decode cX10_count 144 = .ok (.idiv, 1) := by decide +kernel
theorem dX10_count_145 : decode cX10_count 145 = .ok (.iadd, 1) := by decide +kernel
theorem dX10_count_146 : decode cX10_count 146 = .ok (.iaload, 1) := by decide +kernel
theorem dX10_count_147 : decode cX10_count 147 = .ok (.iconst 2, 1) := by decide +kernel
theorem dX10_count_148 : decode cX10_count 148 = .ok (.if_icmp .ne 7, 3) := by decide +kernel
theorem dX10_count_151 : decode cX10_count 151 = .ok (.iconst 1, 1) := by decide +kernel
theorem dX10_count_152 : decode cX10_count 152 = .ok (.goto 4, 3) := by decide +kernel
theorem dX10_count_155 : decode cX10_count 155 = .ok (.iconst 0, 1) := by decide +kernel
theorem dX10_count_156 : decode cX10_count 156 = .ok (.iadd, 1) := by decide +kernel
theorem dX10_count_157 : decode cX10_count 157 = .ok (.istore_n 2, 1) := by decide +kernel
theorem dX10_count_158 : decode cX10_count 158 = .ok (.iinc 4 1, 3) := by decide +kernel
theorem dX10_count_161 : decode cX10_count 161 = .ok (.goto (-62), 3) := by decide +kernel
theorem dX10_count_164 : decode cX10_count 164 = .ok (.iinc 3 1, 3) := by decide +kernel
theorem dX10_count_167 : decode cX10_count 167 = .ok (.goto (-79), 3) := by decide +kernel
theorem dX10_count_170 : decode cX10_count 170 = .ok (.iload_n 2, 1) := by decide +kernel
theorem dX10_count_171 : decode cX10_count 171 = .ok (.ireturn, 1) := by decide +kernel
theorem dX10_count_172 : decode cX10_count 172 = .ok (.aload_n 0, 1) := by decide +kernel
theorem dX10_count_173 : decode cX10_count 173 = .ok (.getfield 153, 3) := by decide +kernel
theorem dX10_count_176 : decode cX10_count 176 = .ok (.ireturn, 1) := by decide +kernel
theorem dX10_count_177 : decode cX10_count 177 = .ok (.bipush (-2), 2) := by decide +kernel
theorem dX10_count_179 : decode cX10_count 179 = .ok (.ireturn, 1) := by decide +kernel
