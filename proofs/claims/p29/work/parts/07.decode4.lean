theorem dL_isAsked_431 : decode cL_isAsked 431 = .ok (.invokevirtual 42, 3) := by decide +kernel
theorem dL_isAsked_434 : decode cL_isAsked 434 = .ok (.bipush 60, 2) := by decide +kernel
theorem dL_isAsked_436 : decode cL_isAsked 436 = .ok (.if_icmp .le 5, 3) := by decide +kernel
theorem dL_isAsked_439 : decode cL_isAsked 439 = .ok (.iconst 0, 1) := by decide +kernel
theorem dL_isAsked_440 : decode cL_isAsked 440 = .ok (.ireturn, 1) := by decide +kernel
theorem dL_isAsked_441 : decode cL_isAsked 441 = .ok (.iinc 13 1, 3) := by decide +kernel
theorem dL_isAsked_444 : decode cL_isAsked 444 = .ok (.goto (-55), 3) := by decide +kernel
theorem dL_isAsked_447 : decode cL_isAsked 447 = .ok (.iconst 1, 1) := by decide +kernel
theorem dL_isAsked_448 : decode cL_isAsked 448 = .ok (.ireturn, 1) := by decide +kernel
theorem dL_isPassed_0 : decode cL_isPassed 0 = .ok (.iconst 5, 1) := by decide +kernel
theorem dL_isPassed_1 : decode cL_isPassed 1 = .ok (.anewarray 102, 3) := by decide +kernel
theorem dL_isPassed_4 : decode cL_isPassed 4 = .ok (.astore_n 2, 1) := by decide +kernel
theorem dL_isPassed_5 : decode cL_isPassed 5 = .ok (.aload_n 0, 1) := by decide +kernel
theorem dL_isPassed_6 : decode cL_isPassed 6 = .ok (.iconst 4, 1) := by decide +kernel
theorem dL_isPassed_7 : decode cL_isPassed 7 = .ok (.invokevirtual 36, 3) := by decide +kernel
theorem dL_isPassed_10 : decode cL_isPassed 10 = .ok (.istore_n 3, 1) := by decide +kernel
theorem dL_isPassed_11 : decode cL_isPassed 11 = .ok (.iload_n 3, 1) := by decide +kernel
theorem dL_isPassed_12 : decode cL_isPassed 12 = .ok (.newarray .int, 2) := by decide +kernel
theorem dL_isPassed_14 : decode cL_isPassed 14 = .ok (.astore 4, 2) := by decide +kernel
theorem dL_isPassed_16 : decode cL_isPassed 16 = .ok (.iconst 5, 1) := by decide +kernel
theorem dL_isPassed_17 : decode cL_isPassed 17 = .ok (.newarray .int, 2) := by decide +kernel
theorem dL_isPassed_19 : decode cL_isPassed 19 = .ok (.astore 5, 2) := by decide +kernel
theorem dL_isPassed_21 : decode cL_isPassed 21 = .ok (.iconst 0, 1) := by decide +kernel
theorem dL_isPassed_22 : decode cL_isPassed 22 = .ok (.istore 6, 2) := by decide +kernel
theorem dL_isPassed_24 : decode cL_isPassed 24 = .ok (.iload 6, 2) := by decide +kernel
theorem dL_isPassed_26 : decode cL_isPassed 26 = .ok (.iconst 5, 1) := by decide +kernel
theorem dL_isPassed_27 : decode cL_isPassed 27 = .ok (.if_icmp .ge 71, 3) := by decide +kernel
theorem dL_isPassed_30 : decode cL_isPassed 30 = .ok (.aload_n 2, 1) := by decide +kernel
theorem dL_isPassed_31 : decode cL_isPassed 31 = .ok (.iload 6, 2) := by decide +kernel
theorem dL_isPassed_33 : decode cL_isPassed 33 = .ok (.iconst 4, 1) := by decide +kernel
theorem dL_isPassed_34 : decode cL_isPassed 34 = .ok (.newarray .int, 2) := by decide +kernel
theorem dL_isPassed_36 : decode cL_isPassed 36 = .ok (.dup, 1) := by decide +kernel
theorem dL_isPassed_37 : decode cL_isPassed 37 = .ok (.iconst 0, 1) := by decide +kernel
theorem dL_isPassed_38 : decode cL_isPassed 38 = .ok (.aload_n 0, 1) := by decide +kernel
theorem dL_isPassed_39 : decode cL_isPassed 39 = .ok (.iload 6, 2) := by decide +kernel
theorem dL_isPassed_41 : decode cL_isPassed 41 = .ok (.bipush 6, 2) := by decide +kernel
theorem dL_isPassed_43 : decode cL_isPassed 43 = .ok (.invokevirtual 49, 3) := by decide +kernel
theorem dL_isPassed_46 : decode cL_isPassed 46 = .ok (.iastore, 1) := by decide +kernel
theorem dL_isPassed_47 : decode cL_isPassed 47 = .ok (.dup, 1) := by decide +kernel
theorem dL_isPassed_48 : decode cL_isPassed 48 = .ok (.iconst 1, 1) := by decide +kernel
theorem dL_isPassed_49 : decode cL_isPassed 49 = .ok (.aload_n 0, 1) := by decide +kernel
theorem dL_isPassed_50 : decode cL_isPassed 50 = .ok (.iload 6, 2) := by decide +kernel
theorem dL_isPassed_52 : decode cL_isPassed 52 = .ok (.bipush 7, 2) := by decide +kernel
theorem dL_isPassed_54 : decode cL_isPassed 54 = .ok (.invokevirtual 49, 3) := by decide +kernel
theorem dL_isPassed_57 : decode cL_isPassed 57 = .ok (.iastore, 1) := by decide +kernel
theorem dL_isPassed_58 : decode cL_isPassed 58 = .ok (.dup, 1) := by decide +kernel
theorem dL_isPassed_59 : decode cL_isPassed 59 = .ok (.iconst 2, 1) := by decide +kernel
theorem dL_isPassed_60 : decode cL_isPassed 60 = .ok (.aload_n 0, 1) := by decide +kernel
theorem dL_isPassed_61 : decode cL_isPassed 61 = .ok (.iload 6, 2) := by decide +kernel
theorem dL_isPassed_63 : decode cL_isPassed 63 = .ok (.iconst 3, 1) := by decide +kernel
theorem dL_isPassed_64 : decode cL_isPassed 64 = .ok (.invokevirtual 49, 3) := by decide +kernel
theorem dL_isPassed_67 : decode cL_isPassed 67 = .ok (.iastore, 1) := by decide +kernel
theorem dL_isPassed_68 : decode cL_isPassed 68 = .ok (.dup, 1) := by decide +kernel
theorem dL_isPassed_69 : decode cL_isPassed 69 = .ok (.iconst 3, 1) := by decide +kernel
theorem dL_isPassed_70 : decode cL_isPassed 70 = .ok (.aload_n 0, 1) := by decide +kernel
theorem dL_isPassed_71 : decode cL_isPassed 71 = .ok (.iload 6, 2) := by decide +kernel
theorem dL_isPassed_73 : decode cL_isPassed 73 = .ok (.bipush 8, 2) := by decide +kernel
theorem dL_isPassed_75 : decode cL_isPassed 75 = .ok (.invokevirtual 49, 3) := by decide +kernel
theorem dL_isPassed_78 : decode cL_isPassed 78 = .ok (.iastore, 1) := by decide +kernel
theorem dL_isPassed_79 : decode cL_isPassed 79 = .ok (.aastore, 1) := by decide +kernel
theorem dL_isPassed_80 : decode cL_isPassed 80 = .ok (.aload 5, 2) := by decide +kernel
theorem dL_isPassed_82 : decode cL_isPassed 82 = .ok (.iload 6, 2) := by decide +kernel
theorem dL_isPassed_84 : decode cL_isPassed 84 = .ok (.aload_n 0, 1) := by decide +kernel
theorem dL_isPassed_85 : decode cL_isPassed 85 = .ok (.iload 6, 2) := by decide +kernel
theorem dL_isPassed_87 : decode cL_isPassed 87 = .ok (.iconst 1, 1) := by decide +kernel
theorem dL_isPassed_88 : decode cL_isPassed 88 = .ok (.invokevirtual 104, 3) := by decide +kernel
theorem dL_isPassed_91 : decode cL_isPassed 91 = .ok (.iastore, 1) := by decide +kernel
theorem dL_isPassed_92 : decode cL_isPassed 92 = .ok (.iinc 6 1, 3) := by decide +kernel
theorem dL_isPassed_95 : decode cL_isPassed 95 = .ok (.goto (-71), 3) := by decide +kernel
theorem dL_isPassed_98 : decode cL_isPassed 98 = .ok (.iconst 0, 1) := by decide +kernel
theorem dL_isPassed_99 : decode cL_isPassed 99 = .ok (.istore 6, 2) := by decide +kernel
theorem dL_isPassed_101 : decode cL_isPassed 101 = .ok (.iload 6, 2) := by decide +kernel
theorem dL_isPassed_103 : decode cL_isPassed 103 = .ok (.iload_n 3, 1) := by decide +kernel
theorem dL_isPassed_104 : decode cL_isPassed 104 = .ok (.if_icmp .ge 21, 3) := by decide +kernel
theorem dL_isPassed_107 : decode cL_isPassed 107 = .ok (.aload 4, 2) := by decide +kernel
theorem dL_isPassed_109 : decode cL_isPassed 109 = .ok (.iload 6, 2) := by decide +kernel
theorem dL_isPassed_111 : decode cL_isPassed 111 = .ok (.aload_n 0, 1) := by decide +kernel
theorem dL_isPassed_112 : decode cL_isPassed 112 = .ok (.iload 6, 2) := by decide +kernel
theorem dL_isPassed_114 : decode cL_isPassed 114 = .ok (.iconst 0, 1) := by decide +kernel
theorem dL_isPassed_115 : decode cL_isPassed 115 = .ok (.invokevirtual 62, 3) := by decide +kernel
theorem dL_isPassed_118 : decode cL_isPassed 118 = .ok (.iastore, 1) := by decide +kernel
theorem dL_isPassed_119 : decode cL_isPassed 119 = .ok (.iinc 6 1, 3) := by decide +kernel
theorem dL_isPassed_122 : decode cL_isPassed 122 = .ok (.goto (-21), 3) := by decide +kernel
theorem dL_isPassed_125 : decode cL_isPassed 125 = .ok (.aload_n 0, 1) := by decide +kernel
theorem dL_isPassed_126 : decode cL_isPassed 126 = .ok (.bipush 13, 2) := by decide +kernel
theorem dL_isPassed_128 : decode cL_isPassed 128 = .ok (.invokevirtual 36, 3) := by decide +kernel
theorem dL_isPassed_131 : decode cL_isPassed 131 = .ok (.istore 6, 2) := by decide +kernel
theorem dL_isPassed_133 : decode cL_isPassed 133 = .ok (.aload_n 0, 1) := by decide +kernel
theorem dL_isPassed_134 : decode cL_isPassed 134 = .ok (.iconst 1, 1) := by decide +kernel
theorem dL_isPassed_135 : decode cL_isPassed 135 = .ok (.invokevirtual 76, 3) := by decide +kernel
theorem dL_isPassed_138 : decode cL_isPassed 138 = .ok (.istore 7, 2) := by decide +kernel
theorem dL_isPassed_140 : decode cL_isPassed 140 = .ok (.aload_n 0, 1) := by decide +kernel
theorem dL_isPassed_141 : decode cL_isPassed 141 = .ok (.iconst 0, 1) := by decide +kernel
theorem dL_isPassed_142 : decode cL_isPassed 142 = .ok (.invokevirtual 36, 3) := by decide +kernel
theorem dL_isPassed_145 : decode cL_isPassed 145 = .ok (.istore 8, 2) := by decide +kernel
theorem dL_isPassed_147 : decode cL_isPassed 147 = .ok (.aload_n 0, 1) := by decide +kernel
theorem dL_isPassed_148 : decode cL_isPassed 148 = .ok (.bipush 8, 2) := by decide +kernel
theorem dL_isPassed_150 : decode cL_isPassed 150 = .ok (.invokevirtual 36, 3) := by decide +kernel
theorem dL_isPassed_153 : decode cL_isPassed 153 = .ok (.istore 9, 2) := by decide +kernel
theorem dL_isPassed_155 : decode cL_isPassed 155 = .ok (.aload_n 0, 1) := by decide +kernel
theorem dL_isPassed_156 : decode cL_isPassed 156 = .ok (.iconst 1, 1) := by decide +kernel
theorem dL_isPassed_157 : decode cL_isPassed 157 = .ok (.invokevirtual 107, 3) := by decide +kernel
theorem dL_isPassed_160 : decode cL_isPassed 160 = .ok (.istore 10, 2) := by decide +kernel
theorem dL_isPassed_162 : decode cL_isPassed 162 = .ok (.aload_n 0, 1) := by decide +kernel
theorem dL_isPassed_163 : decode cL_isPassed 163 = .ok (.iconst 0, 1) := by decide +kernel
theorem dL_isPassed_164 : decode cL_isPassed 164 = .ok (.invokevirtual 36, 3) := by decide +kernel
theorem dL_isPassed_167 : decode cL_isPassed 167 = .ok (.iload 8, 2) := by decide +kernel
theorem dL_isPassed_169 : decode cL_isPassed 169 = .ok (.iconst 1, 1) := by decide +kernel
theorem dL_isPassed_170 : decode cL_isPassed 170 = .ok (.iadd, 1) := by decide +kernel
theorem dL_isPassed_171 : decode cL_isPassed 171 = .ok (.if_icmp .ne 53, 3) := by decide +kernel
theorem dL_isPassed_174 : decode cL_isPassed 174 = .ok (.aload_n 0, 1) := by decide +kernel
theorem dL_isPassed_175 : decode cL_isPassed 175 = .ok (.bipush 8, 2) := by decide +kernel
theorem dL_isPassed_177 : decode cL_isPassed 177 = .ok (.invokevirtual 36, 3) := by decide +kernel
theorem dL_isPassed_180 : decode cL_isPassed 180 = .ok (.iload 9, 2) := by decide +kernel
theorem dL_isPassed_182 : decode cL_isPassed 182 = .ok (.iload 10, 2) := by decide +kernel
theorem dL_isPassed_184 : decode cL_isPassed 184 = .ok (.iadd, 1) := by decide +kernel
theorem dL_isPassed_185 : decode cL_isPassed 185 = .ok (.if_icmp .ne 39, 3) := by decide +kernel
theorem dL_isPassed_188 : decode cL_isPassed 188 = .ok (.aload_n 0, 1) := by decide +kernel
theorem dL_isPassed_189 : decode cL_isPassed 189 = .ok (.bipush 13, 2) := by decide +kernel
theorem dL_isPassed_191 : decode cL_isPassed 191 = .ok (.invokevirtual 36, 3) := by decide +kernel
theorem dL_isPassed_194 : decode cL_isPassed 194 = .ok (.iload 6, 2) := by decide +kernel
theorem dL_isPassed_196 : decode cL_isPassed 196 = .ok (.iload 7, 2) := by decide +kernel
theorem dL_isPassed_198 : decode cL_isPassed 198 = .ok (.iadd, 1) := by decide +kernel
theorem dL_isPassed_199 : decode cL_isPassed 199 = .ok (.if_icmp .ne 25, 3) := by decide +kernel
theorem dL_isPassed_202 : decode cL_isPassed 202 = .ok (.iload_n 1, 1) := by decide +kernel
theorem dL_isPassed_203 : decode cL_isPassed 203 = .ok (.ifCond .eq 23, 3) := by decide +kernel
theorem dL_isPassed_206 : decode cL_isPassed 206 = .ok (.aload_n 0, 1) := by decide +kernel
theorem dL_isPassed_207 : decode cL_isPassed 207 = .ok (.bipush 13, 2) := by decide +kernel
theorem dL_isPassed_209 : decode cL_isPassed 209 = .ok (.invokevirtual 36, 3) := by decide +kernel
theorem dL_isPassed_212 : decode cL_isPassed 212 = .ok (.ifCond .le 14, 3) := by decide +kernel
theorem dL_isPassed_215 : decode cL_isPassed 215 = .ok (.aload_n 0, 1) := by decide +kernel
theorem dL_isPassed_216 : decode cL_isPassed 216 = .ok (.bipush 12, 2) := by decide +kernel
theorem dL_isPassed_218 : decode cL_isPassed 218 = .ok (.invokevirtual 36, 3) := by decide +kernel
theorem dL_isPassed_221 : decode cL_isPassed 221 = .ok (.ifCond .ne 5, 3) := by decide +kernel
theorem dL_isPassed_224 : decode cL_isPassed 224 = .ok (.iconst 0, 1) := by decide +kernel
theorem dL_isPassed_225 : decode cL_isPassed 225 = .ok (.ireturn, 1) := by decide +kernel
theorem dL_isPassed_226 : decode cL_isPassed 226 = .ok (.iconst 0, 1) := by decide +kernel
theorem dL_isPassed_227 : decode cL_isPassed 227 = .ok (.istore 11, 2) := by decide +kernel
theorem dL_isPassed_229 : decode cL_isPassed 229 = .ok (.iload 11, 2) := by decide +kernel
theorem dL_isPassed_231 : decode cL_isPassed 231 = .ok (.iload_n 3, 1) := by decide +kernel
theorem dL_isPassed_232 : decode cL_isPassed 232 = .ok (.if_icmp .ge 108, 3) := by decide +kernel
theorem dL_isPassed_235 : decode cL_isPassed 235 = .ok (.aload_n 0, 1) := by decide +kernel
theorem dL_isPassed_236 : decode cL_isPassed 236 = .ok (.iload 11, 2) := by decide +kernel
theorem dL_isPassed_238 : decode cL_isPassed 238 = .ok (.iconst 0, 1) := by decide +kernel
theorem dL_isPassed_239 : decode cL_isPassed 239 = .ok (.invokevirtual 62, 3) := by decide +kernel
theorem dL_isPassed_242 : decode cL_isPassed 242 = .ok (.istore 12, 2) := by decide +kernel
theorem dL_isPassed_244 : decode cL_isPassed 244 = .ok (.iload 12, 2) := by decide +kernel
theorem dL_isPassed_246 : decode cL_isPassed 246 = .ok (.aload 4, 2) := by decide +kernel
theorem dL_isPassed_248 : decode cL_isPassed 248 = .ok (.iload 11, 2) := by decide +kernel
theorem dL_isPassed_250 : decode cL_isPassed 250 = .ok (.iaload, 1) := by decide +kernel
theorem dL_isPassed_251 : decode cL_isPassed 251 = .ok (.if_icmp .eq 83, 3) := by decide +kernel
theorem dL_isPassed_254 : decode cL_isPassed 254 = .ok (.aload 4, 2) := by decide +kernel
theorem dL_isPassed_256 : decode cL_isPassed 256 = .ok (.iload 11, 2) := by decide +kernel
theorem dL_isPassed_258 : decode cL_isPassed 258 = .ok (.iaload, 1) := by decide +kernel
theorem dL_isPassed_259 : decode cL_isPassed 259 = .ok (.ifCond .ne 29, 3) := by decide +kernel
theorem dL_isPassed_262 : decode cL_isPassed 262 = .ok (.iload 12, 2) := by decide +kernel
theorem dL_isPassed_264 : decode cL_isPassed 264 = .ok (.iconst 1, 1) := by decide +kernel
theorem dL_isPassed_265 : decode cL_isPassed 265 = .ok (.if_icmp .eq 9, 3) := by decide +kernel
theorem dL_isPassed_268 : decode cL_isPassed 268 = .ok (.iload 12, 2) := by decide +kernel
theorem dL_isPassed_270 : decode cL_isPassed 270 = .ok (.iconst 4, 1) := by decide +kernel
theorem dL_isPassed_271 : decode cL_isPassed 271 = .ok (.if_icmp .ne 17, 3) := by decide +kernel
theorem dL_isPassed_274 : decode cL_isPassed 274 = .ok (.aload_n 0, 1) := by decide +kernel
theorem dL_isPassed_275 : decode cL_isPassed 275 = .ok (.iload 11, 2) := by decide +kernel
theorem dL_isPassed_277 : decode cL_isPassed 277 = .ok (.iconst 2, 1) := by decide +kernel
theorem dL_isPassed_278 : decode cL_isPassed 278 = .ok (.invokevirtual 62, 3) := by decide +kernel
theorem dL_isPassed_281 : decode cL_isPassed 281 = .ok (.iload 8, 2) := by decide +kernel
theorem dL_isPassed_283 : decode cL_isPassed 283 = .ok (.iconst 1, 1) := by decide +kernel
theorem dL_isPassed_284 : decode cL_isPassed 284 = .ok (.iadd, 1) := by decide +kernel
theorem dL_isPassed_285 : decode cL_isPassed 285 = .ok (.if_icmp .eq 49, 3) := by decide +kernel
theorem dL_isPassed_288 : decode cL_isPassed 288 = .ok (.aload 4, 2) := by decide +kernel
theorem dL_isPassed_290 : decode cL_isPassed 290 = .ok (.iload 11, 2) := by decide +kernel
theorem dL_isPassed_292 : decode cL_isPassed 292 = .ok (.iaload, 1) := by decide +kernel
theorem dL_isPassed_293 : decode cL_isPassed 293 = .ok (.iconst 1, 1) := by decide +kernel
theorem dL_isPassed_294 : decode cL_isPassed 294 = .ok (.if_icmp .ne 22, 3) := by decide +kernel
theorem dL_isPassed_297 : decode cL_isPassed 297 = .ok (.iload 12, 2) := by decide +kernel
theorem dL_isPassed_299 : decode cL_isPassed 299 = .ok (.iconst 2, 1) := by decide +kernel
theorem dL_isPassed_300 : decode cL_isPassed 300 = .ok (.if_icmp .eq 34, 3) := by decide +kernel
theorem dL_isPassed_303 : decode cL_isPassed 303 = .ok (.iload 12, 2) := by decide +kernel
theorem dL_isPassed_305 : decode cL_isPassed 305 = .ok (.iconst 5, 1) := by decide +kernel
theorem dL_isPassed_306 : decode cL_isPassed 306 = .ok (.if_icmp .eq 28, 3) := by decide +kernel
theorem dL_isPassed_309 : decode cL_isPassed 309 = .ok (.iload 12, 2) := by decide +kernel
theorem dL_isPassed_311 : decode cL_isPassed 311 = .ok (.bipush 6, 2) := by decide +kernel
theorem dL_isPassed_313 : decode cL_isPassed 313 = .ok (.if_icmp .eq 21, 3) := by decide +kernel
theorem dL_isPassed_316 : decode cL_isPassed 316 = .ok (.aload 4, 2) := by decide +kernel
theorem dL_isPassed_318 : decode cL_isPassed 318 = .ok (.iload 11, 2) := by decide +kernel
theorem dL_isPassed_320 : decode cL_isPassed 320 = .ok (.iaload, 1) := by decide +kernel
theorem dL_isPassed_321 : decode cL_isPassed 321 = .ok (.iconst 5, 1) := by decide +kernel
theorem dL_isPassed_322 : decode cL_isPassed 322 = .ok (.if_icmp .ne 10, 3) := by decide +kernel
theorem dL_isPassed_325 : decode cL_isPassed 325 = .ok (.iload 12, 2) := by decide +kernel
theorem dL_isPassed_327 : decode cL_isPassed 327 = .ok (.bipush 6, 2) := by decide +kernel
theorem dL_isPassed_329 : decode cL_isPassed 329 = .ok (.if_icmp .eq 5, 3) := by decide +kernel
theorem dL_isPassed_332 : decode cL_isPassed 332 = .ok (.iconst 0, 1) := by decide +kernel
theorem dL_isPassed_333 : decode cL_isPassed 333 = .ok (.ireturn, 1) := by decide +kernel
theorem dL_isPassed_334 : decode cL_isPassed 334 = .ok (.iinc 11 1, 3) := by decide +kernel
theorem dL_isPassed_337 : decode cL_isPassed 337 = .ok (.goto (-108), 3) := by decide +kernel
theorem dL_isPassed_340 : decode cL_isPassed 340 = .ok (.iconst 0, 1) := by decide +kernel
theorem dL_isPassed_341 : decode cL_isPassed 341 = .ok (.istore 11, 2) := by decide +kernel
theorem dL_isPassed_343 : decode cL_isPassed 343 = .ok (.iload 11, 2) := by decide +kernel
theorem dL_isPassed_345 : decode cL_isPassed 345 = .ok (.iconst 5, 1) := by decide +kernel
theorem dL_isPassed_346 : decode cL_isPassed 346 = .ok (.if_icmp .ge 346, 3) := by decide +kernel
theorem dL_isPassed_349 : decode cL_isPassed 349 = .ok (.aload_n 0, 1) := by decide +kernel
theorem dL_isPassed_350 : decode cL_isPassed 350 = .ok (.iload 11, 2) := by decide +kernel
theorem dL_isPassed_352 : decode cL_isPassed 352 = .ok (.bipush 6, 2) := by decide +kernel
theorem dL_isPassed_354 : decode cL_isPassed 354 = .ok (.invokevirtual 49, 3) := by decide +kernel
theorem dL_isPassed_357 : decode cL_isPassed 357 = .ok (.istore 12, 2) := by decide +kernel
theorem dL_isPassed_359 : decode cL_isPassed 359 = .ok (.aload_n 0, 1) := by decide +kernel
theorem dL_isPassed_360 : decode cL_isPassed 360 = .ok (.iload 11, 2) := by decide +kernel
theorem dL_isPassed_362 : decode cL_isPassed 362 = .ok (.iconst 3, 1) := by decide +kernel
theorem dL_isPassed_363 : decode cL_isPassed 363 = .ok (.invokevirtual 49, 3) := by decide +kernel
theorem dL_isPassed_366 : decode cL_isPassed 366 = .ok (.istore 13, 2) := by decide +kernel
theorem dL_isPassed_368 : decode cL_isPassed 368 = .ok (.aload_n 0, 1) := by decide +kernel
theorem dL_isPassed_369 : decode cL_isPassed 369 = .ok (.iload 11, 2) := by decide +kernel
theorem dL_isPassed_371 : decode cL_isPassed 371 = .ok (.bipush 7, 2) := by decide +kernel
theorem dL_isPassed_373 : decode cL_isPassed 373 = .ok (.invokevirtual 49, 3) := by decide +kernel
theorem dL_isPassed_376 : decode cL_isPassed 376 = .ok (.iconst 5, 1) := by decide +kernel
theorem dL_isPassed_377 : decode cL_isPassed 377 = .ok (.idiv, 1) := by decide +kernel
theorem dL_isPassed_378 : decode cL_isPassed 378 = .ok (.aload_n 2, 1) := by decide +kernel
theorem dL_isPassed_379 : decode cL_isPassed 379 = .ok (.iload 11, 2) := by decide +kernel
theorem dL_isPassed_381 : decode cL_isPassed 381 = .ok (.aaload, 1) := by decide +kernel
theorem dL_isPassed_382 : decode cL_isPassed 382 = .ok (.iconst 1, 1) := by decide +kernel
theorem dL_isPassed_383 : decode cL_isPassed 383 = .ok (.iaload, 1) := by decide +kernel
theorem dL_isPassed_384 : decode cL_isPassed 384 = .ok (.iconst 5, 1) := by decide +kernel
theorem dL_isPassed_385 : decode cL_isPassed 385 = .ok (.idiv, 1) := by decide +kernel
theorem dL_isPassed_386 : decode cL_isPassed 386 = .ok (.isub, 1) := by decide +kernel
theorem dL_isPassed_387 : decode cL_isPassed 387 = .ok (.invokestatic 110, 3) := by decide +kernel
theorem dL_isPassed_390 : decode cL_isPassed 390 = .ok (.aload_n 0, 1) := by decide +kernel
theorem dL_isPassed_391 : decode cL_isPassed 391 = .ok (.iload 11, 2) := by decide +kernel
theorem dL_isPassed_393 : decode cL_isPassed 393 = .ok (.bipush 7, 2) := by decide +kernel
theorem dL_isPassed_395 : decode cL_isPassed 395 = .ok (.invokevirtual 49, 3) := by decide +kernel
theorem dL_isPassed_398 : decode cL_isPassed 398 = .ok (.iconst 5, 1) := by decide +kernel
theorem dL_isPassed_399 : decode cL_isPassed 399 = .ok (.irem, 1) := by decide +kernel
theorem dL_isPassed_400 : decode cL_isPassed 400 = .ok (.aload_n 2, 1) := by decide +kernel
theorem dL_isPassed_401 : decode cL_isPassed 401 = .ok (.iload 11, 2) := by decide +kernel
theorem dL_isPassed_403 : decode cL_isPassed 403 = .ok (.aaload, 1) := by decide +kernel
theorem dL_isPassed_404 : decode cL_isPassed 404 = .ok (.iconst 1, 1) := by decide +kernel
theorem dL_isPassed_405 : decode cL_isPassed 405 = .ok (.iaload, 1) := by decide +kernel
theorem dL_isPassed_406 : decode cL_isPassed 406 = .ok (.iconst 5, 1) := by decide +kernel
theorem dL_isPassed_407 : decode cL_isPassed 407 = .ok (.irem, 1) := by decide +kernel
theorem dL_isPassed_408 : decode cL_isPassed 408 = .ok (.isub, 1) := by decide +kernel
theorem dL_isPassed_409 : decode cL_isPassed 409 = .ok (.invokestatic 110, 3) := by decide +kernel
theorem dL_isPassed_412 : decode cL_isPassed 412 = .ok (.iadd, 1) := by decide +kernel
theorem dL_isPassed_413 : decode cL_isPassed 413 = .ok (.istore 14, 2) := by decide +kernel
theorem dL_isPassed_415 : decode cL_isPassed 415 = .ok (.aload 5, 2) := by decide +kernel
theorem dL_isPassed_417 : decode cL_isPassed 417 = .ok (.iload 11, 2) := by decide +kernel
theorem dL_isPassed_419 : decode cL_isPassed 419 = .ok (.iaload, 1) := by decide +kernel
theorem dL_isPassed_420 : decode cL_isPassed 420 = .ok (.iload 12, 2) := by decide +kernel
theorem dL_isPassed_422 : decode cL_isPassed 422 = .ok (.iconst 2, 1) := by decide +kernel
theorem dL_isPassed_423 : decode cL_isPassed 423 = .ok (.if_icmp .ne 7, 3) := by decide +kernel
theorem dL_isPassed_426 : decode cL_isPassed 426 = .ok (.iconst (-1), 1) := by decide +kernel
theorem dL_isPassed_427 : decode cL_isPassed 427 = .ok (.goto 5, 3) := by decide +kernel
theorem dL_isPassed_430 : decode cL_isPassed 430 = .ok (.iload 13, 2) := by decide +kernel
theorem dL_isPassed_432 : decode cL_isPassed 432 = .ok (.if_icmp .ne 72, 3) := by decide +kernel
theorem dL_isPassed_435 : decode cL_isPassed 435 = .ok (.iload 13, 2) := by decide +kernel
theorem dL_isPassed_437 : decode cL_isPassed 437 = .ok (.ifCond .lt 67, 3) := by decide +kernel
theorem dL_isPassed_440 : decode cL_isPassed 440 = .ok (.iload 13, 2) := by decide +kernel
theorem dL_isPassed_442 : decode cL_isPassed 442 = .ok (.aload_n 0, 1) := by decide +kernel
theorem dL_isPassed_443 : decode cL_isPassed 443 = .ok (.iload 11, 2) := by decide +kernel
theorem dL_isPassed_445 : decode cL_isPassed 445 = .ok (.iconst 2, 1) := by decide +kernel
theorem dL_isPassed_446 : decode cL_isPassed 446 = .ok (.invokevirtual 49, 3) := by decide +kernel
theorem dL_isPassed_449 : decode cL_isPassed 449 = .ok (.if_icmp .gt 55, 3) := by decide +kernel
theorem dL_isPassed_452 : decode cL_isPassed 452 = .ok (.iload 14, 2) := by decide +kernel
theorem dL_isPassed_454 : decode cL_isPassed 454 = .ok (.iconst 1, 1) := by decide +kernel
theorem dL_isPassed_455 : decode cL_isPassed 455 = .ok (.if_icmp .gt 49, 3) := by decide +kernel
theorem dL_isPassed_458 : decode cL_isPassed 458 = .ok (.iload 14, 2) := by decide +kernel
theorem dL_isPassed_460 : decode cL_isPassed 460 = .ok (.iconst 1, 1) := by decide +kernel
theorem dL_isPassed_461 : decode cL_isPassed 461 = .ok (.if_icmp .ne 13, 3) := by decide +kernel
theorem dL_isPassed_464 : decode cL_isPassed 464 = .ok (.aload_n 2, 1) := by decide +kernel
theorem dL_isPassed_465 : decode cL_isPassed 465 = .ok (.iload 11, 2) := by decide +kernel
theorem dL_isPassed_467 : decode cL_isPassed 467 = .ok (.aaload, 1) := by decide +kernel
theorem dL_isPassed_468 : decode cL_isPassed 468 = .ok (.iconst 0, 1) := by decide +kernel
theorem dL_isPassed_469 : decode cL_isPassed 469 = .ok (.iaload, 1) := by decide +kernel
theorem dL_isPassed_470 : decode cL_isPassed 470 = .ok (.iconst 1, 1) := by decide +kernel
theorem dL_isPassed_471 : decode cL_isPassed 471 = .ok (.if_icmp .ne 33, 3) := by decide +kernel
theorem dL_isPassed_474 : decode cL_isPassed 474 = .ok (.iload 12, 2) := by decide +kernel
theorem dL_isPassed_476 : decode cL_isPassed 476 = .ok (.iconst 1, 1) := by decide +kernel
theorem dL_isPassed_477 : decode cL_isPassed 477 = .ok (.if_icmp .ne 7, 3) := by decide +kernel
theorem dL_isPassed_480 : decode cL_isPassed 480 = .ok (.iconst 1, 1) := by decide +kernel
theorem dL_isPassed_481 : decode cL_isPassed 481 = .ok (.goto 4, 3) := by decide +kernel
theorem dL_isPassed_484 : decode cL_isPassed 484 = .ok (.iconst 0, 1) := by decide +kernel
theorem dL_isPassed_485 : decode cL_isPassed 485 = .ok (.aload_n 0, 1) := by decide +kernel
theorem dL_isPassed_486 : decode cL_isPassed 486 = .ok (.iload 11, 2) := by decide +kernel
theorem dL_isPassed_488 : decode cL_isPassed 488 = .ok (.bipush 8, 2) := by decide +kernel
theorem dL_isPassed_490 : decode cL_isPassed 490 = .ok (.invokevirtual 49, 3) := by decide +kernel
theorem dL_isPassed_493 : decode cL_isPassed 493 = .ok (.ifCond .lt 7, 3) := by decide +kernel
theorem dL_isPassed_496 : decode cL_isPassed 496 = .ok (.iconst 1, 1) := by decide +kernel
theorem dL_isPassed_497 : decode cL_isPassed 497 = .ok (.goto 4, 3) := by decide +kernel
theorem dL_isPassed_500 : decode cL_isPassed 500 = .ok (.iconst 0, 1) := by decide +kernel
theorem dL_isPassed_501 : decode cL_isPassed 501 = .ok (.if_icmp .eq 5, 3) := by decide +kernel
theorem dL_isPassed_504 : decode cL_isPassed 504 = .ok (.iconst 0, 1) := by decide +kernel
theorem dL_isPassed_505 : decode cL_isPassed 505 = .ok (.ireturn, 1) := by decide +kernel
theorem dL_isPassed_506 : decode cL_isPassed 506 = .ok (.aload_n 2, 1) := by decide +kernel
theorem dL_isPassed_507 : decode cL_isPassed 507 = .ok (.iload 11, 2) := by decide +kernel
theorem dL_isPassed_509 : decode cL_isPassed 509 = .ok (.aaload, 1) := by decide +kernel
theorem dL_isPassed_510 : decode cL_isPassed 510 = .ok (.iconst 0, 1) := by decide +kernel
theorem dL_isPassed_511 : decode cL_isPassed 511 = .ok (.iaload, 1) := by decide +kernel
theorem dL_isPassed_512 : decode cL_isPassed 512 = .ok (.ifCond .ne 31, 3) := by decide +kernel
theorem dL_isPassed_515 : decode cL_isPassed 515 = .ok (.iload 12, 2) := by decide +kernel
theorem dL_isPassed_517 : decode cL_isPassed 517 = .ok (.ifCond .ne 26, 3) := by decide +kernel
theorem dL_isPassed_520 : decode cL_isPassed 520 = .ok (.iload 13, 2) := by decide +kernel
theorem dL_isPassed_522 : decode cL_isPassed 522 = .ok (.aload_n 0, 1) := by decide +kernel
theorem dL_isPassed_523 : decode cL_isPassed 523 = .ok (.iload 11, 2) := by decide +kernel
theorem dL_isPassed_525 : decode cL_isPassed 525 = .ok (.iconst 2, 1) := by decide +kernel
theorem dL_isPassed_526 : decode cL_isPassed 526 = .ok (.invokevirtual 49, 3) := by decide +kernel
theorem dL_isPassed_529 : decode cL_isPassed 529 = .ok (.aload_n 2, 1) := by decide +kernel
theorem dL_isPassed_530 : decode cL_isPassed 530 = .ok (.iload 11, 2) := by decide +kernel
theorem dL_isPassed_532 : decode cL_isPassed 532 = .ok (.aaload, 1) := by decide +kernel
theorem dL_isPassed_533 : decode cL_isPassed 533 = .ok (.iconst 2, 1) := by decide +kernel
theorem dL_isPassed_534 : decode cL_isPassed 534 = .ok (.iaload, 1) := by decide +kernel
theorem dL_isPassed_535 : decode cL_isPassed 535 = .ok (.iconst 3, 1) := by decide +kernel
theorem dL_isPassed_536 : decode cL_isPassed 536 = .ok (.iadd, 1) := by decide +kernel
theorem dL_isPassed_537 : decode cL_isPassed 537 = .ok (.invokestatic 115, 3) := by decide +kernel
theorem dL_isPassed_540 : decode cL_isPassed 540 = .ok (.if_icmp .ne 46, 3) := by decide +kernel
theorem dL_isPassed_543 : decode cL_isPassed 543 = .ok (.aload_n 2, 1) := by decide +kernel
theorem dL_isPassed_544 : decode cL_isPassed 544 = .ok (.iload 11, 2) := by decide +kernel
theorem dL_isPassed_546 : decode cL_isPassed 546 = .ok (.aaload, 1) := by decide +kernel
theorem dL_isPassed_547 : decode cL_isPassed 547 = .ok (.iconst 0, 1) := by decide +kernel
theorem dL_isPassed_548 : decode cL_isPassed 548 = .ok (.iaload, 1) := by decide +kernel
theorem dL_isPassed_549 : decode cL_isPassed 549 = .ok (.ifCond .ne 22, 3) := by decide +kernel
theorem dL_isPassed_552 : decode cL_isPassed 552 = .ok (.iload 12, 2) := by decide +kernel
theorem dL_isPassed_554 : decode cL_isPassed 554 = .ok (.iconst 1, 1) := by decide +kernel
theorem dL_isPassed_555 : decode cL_isPassed 555 = .ok (.if_icmp .ne 16, 3) := by decide +kernel
theorem dL_isPassed_558 : decode cL_isPassed 558 = .ok (.iload 13, 2) := by decide +kernel
theorem dL_isPassed_560 : decode cL_isPassed 560 = .ok (.aload_n 2, 1) := by decide +kernel
theorem dL_isPassed_561 : decode cL_isPassed 561 = .ok (.iload 11, 2) := by decide +kernel
theorem dL_isPassed_563 : decode cL_isPassed 563 = .ok (.aaload, 1) := by decide +kernel
theorem dL_isPassed_564 : decode cL_isPassed 564 = .ok (.iconst 2, 1) := by decide +kernel
theorem dL_isPassed_565 : decode cL_isPassed 565 = .ok (.iaload, 1) := by decide +kernel
theorem dL_isPassed_566 : decode cL_isPassed 566 = .ok (.iconst 2, 1) := by decide +kernel
theorem dL_isPassed_567 : decode cL_isPassed 567 = .ok (.isub, 1) := by decide +kernel
theorem dL_isPassed_568 : decode cL_isPassed 568 = .ok (.if_icmp .ne 18, 3) := by decide +kernel
theorem dL_isPassed_571 : decode cL_isPassed 571 = .ok (.aload_n 2, 1) := by decide +kernel
theorem dL_isPassed_572 : decode cL_isPassed 572 = .ok (.iload 11, 2) := by decide +kernel
theorem dL_isPassed_574 : decode cL_isPassed 574 = .ok (.aaload, 1) := by decide +kernel
theorem dL_isPassed_575 : decode cL_isPassed 575 = .ok (.iconst 0, 1) := by decide +kernel
theorem dL_isPassed_576 : decode cL_isPassed 576 = .ok (.iaload, 1) := by decide +kernel
theorem dL_isPassed_577 : decode cL_isPassed 577 = .ok (.ifCond .ne 11, 3) := by decide +kernel
theorem dL_isPassed_580 : decode cL_isPassed 580 = .ok (.iload 12, 2) := by decide +kernel
theorem dL_isPassed_582 : decode cL_isPassed 582 = .ok (.iconst 2, 1) := by decide +kernel
theorem dL_isPassed_583 : decode cL_isPassed 583 = .ok (.if_icmp .ne 5, 3) := by decide +kernel
theorem dL_isPassed_586 : decode cL_isPassed 586 = .ok (.iconst 0, 1) := by decide +kernel
theorem dL_isPassed_587 : decode cL_isPassed 587 = .ok (.ireturn, 1) := by decide +kernel
theorem dL_isPassed_588 : decode cL_isPassed 588 = .ok (.aload_n 2, 1) := by decide +kernel
theorem dL_isPassed_589 : decode cL_isPassed 589 = .ok (.iload 11, 2) := by decide +kernel
theorem dL_isPassed_591 : decode cL_isPassed 591 = .ok (.aaload, 1) := by decide +kernel
theorem dL_isPassed_592 : decode cL_isPassed 592 = .ok (.iconst 0, 1) := by decide +kernel
theorem dL_isPassed_593 : decode cL_isPassed 593 = .ok (.iaload, 1) := by decide +kernel
theorem dL_isPassed_594 : decode cL_isPassed 594 = .ok (.iconst 1, 1) := by decide +kernel
theorem dL_isPassed_595 : decode cL_isPassed 595 = .ok (.if_icmp .ne 36, 3) := by decide +kernel
theorem dL_isPassed_598 : decode cL_isPassed 598 = .ok (.iload 14, 2) := by decide +kernel
theorem dL_isPassed_600 : decode cL_isPassed 600 = .ok (.iconst 1, 1) := by decide +kernel
theorem dL_isPassed_601 : decode cL_isPassed 601 = .ok (.if_icmp .ne 30, 3) := by decide +kernel
theorem dL_isPassed_604 : decode cL_isPassed 604 = .ok (.iload 13, 2) := by decide +kernel
theorem dL_isPassed_606 : decode cL_isPassed 606 = .ok (.aload_n 2, 1) := by decide +kernel
theorem dL_isPassed_607 : decode cL_isPassed 607 = .ok (.iload 11, 2) := by decide +kernel
theorem dL_isPassed_609 : decode cL_isPassed 609 = .ok (.aaload, 1) := by decide +kernel
theorem dL_isPassed_610 : decode cL_isPassed 610 = .ok (.iconst 2, 1) := by decide +kernel
theorem dL_isPassed_611 : decode cL_isPassed 611 = .ok (.iaload, 1) := by decide +kernel
theorem dL_isPassed_612 : decode cL_isPassed 612 = .ok (.iconst 1, 1) := by decide +kernel
theorem dL_isPassed_613 : decode cL_isPassed 613 = .ok (.isub, 1) := by decide +kernel
theorem dL_isPassed_614 : decode cL_isPassed 614 = .ok (.if_icmp .gt 70, 3) := by decide +kernel
theorem dL_isPassed_617 : decode cL_isPassed 617 = .ok (.iload 13, 2) := by decide +kernel
theorem dL_isPassed_619 : decode cL_isPassed 619 = .ok (.aload_n 2, 1) := by decide +kernel
theorem dL_isPassed_620 : decode cL_isPassed 620 = .ok (.iload 11, 2) := by decide +kernel
theorem dL_isPassed_622 : decode cL_isPassed 622 = .ok (.aaload, 1) := by decide +kernel
theorem dL_isPassed_623 : decode cL_isPassed 623 = .ok (.iconst 2, 1) := by decide +kernel
theorem dL_isPassed_624 : decode cL_isPassed 624 = .ok (.iaload, 1) := by decide +kernel
theorem dL_isPassed_625 : decode cL_isPassed 625 = .ok (.bipush 7, 2) := by decide +kernel
theorem dL_isPassed_627 : decode cL_isPassed 627 = .ok (.isub, 1) := by decide +kernel
theorem dL_isPassed_628 : decode cL_isPassed 628 = .ok (.if_icmp .lt 56, 3) := by decide +kernel
theorem dL_isPassed_631 : decode cL_isPassed 631 = .ok (.aload_n 2, 1) := by decide +kernel
theorem dL_isPassed_632 : decode cL_isPassed 632 = .ok (.iload 11, 2) := by decide +kernel
theorem dL_isPassed_634 : decode cL_isPassed 634 = .ok (.aaload, 1) := by decide +kernel
theorem dL_isPassed_635 : decode cL_isPassed 635 = .ok (.iconst 0, 1) := by decide +kernel
theorem dL_isPassed_636 : decode cL_isPassed 636 = .ok (.iaload, 1) := by decide +kernel
theorem dL_isPassed_637 : decode cL_isPassed 637 = .ok (.iconst 1, 1) := by decide +kernel
theorem dL_isPassed_638 : decode cL_isPassed 638 = .ok (.if_icmp .ne 25, 3) := by decide +kernel
theorem dL_isPassed_641 : decode cL_isPassed 641 = .ok (.iload 14, 2) := by decide +kernel
theorem dL_isPassed_643 : decode cL_isPassed 643 = .ok (.ifCond .ne 20, 3) := by decide +kernel
theorem dL_isPassed_646 : decode cL_isPassed 646 = .ok (.iload 12, 2) := by decide +kernel
theorem dL_isPassed_648 : decode cL_isPassed 648 = .ok (.iconst 2, 1) := by decide +kernel
theorem dL_isPassed_649 : decode cL_isPassed 649 = .ok (.if_icmp .eq 14, 3) := by decide +kernel
theorem dL_isPassed_652 : decode cL_isPassed 652 = .ok (.iload 13, 2) := by decide +kernel
theorem dL_isPassed_654 : decode cL_isPassed 654 = .ok (.aload_n 2, 1) := by decide +kernel
theorem dL_isPassed_655 : decode cL_isPassed 655 = .ok (.iload 11, 2) := by decide +kernel
theorem dL_isPassed_657 : decode cL_isPassed 657 = .ok (.aaload, 1) := by decide +kernel
theorem dL_isPassed_658 : decode cL_isPassed 658 = .ok (.iconst 2, 1) := by decide +kernel
theorem dL_isPassed_659 : decode cL_isPassed 659 = .ok (.iaload, 1) := by decide +kernel
theorem dL_isPassed_660 : decode cL_isPassed 660 = .ok (.if_icmp .ne 24, 3) := by decide +kernel
theorem dL_isPassed_663 : decode cL_isPassed 663 = .ok (.aload_n 2, 1) := by decide +kernel
theorem dL_isPassed_664 : decode cL_isPassed 664 = .ok (.iload 11, 2) := by decide +kernel
theorem dL_isPassed_666 : decode cL_isPassed 666 = .ok (.aaload, 1) := by decide +kernel
theorem dL_isPassed_667 : decode cL_isPassed 667 = .ok (.iconst 0, 1) := by decide +kernel
theorem dL_isPassed_668 : decode cL_isPassed 668 = .ok (.iaload, 1) := by decide +kernel
theorem dL_isPassed_669 : decode cL_isPassed 669 = .ok (.iconst 2, 1) := by decide +kernel
theorem dL_isPassed_670 : decode cL_isPassed 670 = .ok (.if_icmp .ne 16, 3) := by decide +kernel
theorem dL_isPassed_673 : decode cL_isPassed 673 = .ok (.iload 12, 2) := by decide +kernel
theorem dL_isPassed_675 : decode cL_isPassed 675 = .ok (.iconst 2, 1) := by decide +kernel
theorem dL_isPassed_676 : decode cL_isPassed 676 = .ok (.if_icmp .ne 8, 3) := by decide +kernel
theorem dL_isPassed_679 : decode cL_isPassed 679 = .ok (.iload 13, 2) := by decide +kernel
theorem dL_isPassed_681 : decode cL_isPassed 681 = .ok (.ifCond .eq 5, 3) := by decide +kernel
theorem dL_isPassed_684 : decode cL_isPassed 684 = .ok (.iconst 0, 1) := by decide +kernel
theorem dL_isPassed_685 : decode cL_isPassed 685 = .ok (.ireturn, 1) := by decide +kernel
theorem dL_isPassed_686 : decode cL_isPassed 686 = .ok (.iinc 11 1, 3) := by decide +kernel
theorem dL_isPassed_689 : decode cL_isPassed 689 = .ok (.goto (-346), 3) := by decide +kernel
theorem dL_isPassed_692 : decode cL_isPassed 692 = .ok (.iconst 1, 1) := by decide +kernel
theorem dL_isPassed_693 : decode cL_isPassed 693 = .ok (.ireturn, 1) := by decide +kernel
