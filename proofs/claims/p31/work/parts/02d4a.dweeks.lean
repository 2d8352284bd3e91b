theorem dL_weeks_0 : decode cL_weeks 0 = .ok (.aload_n 0, 1) := by decide +kernel
theorem dL_weeks_1 : decode cL_weeks 1 = .ok (.iconst 0, 1) := by decide +kernel
theorem dL_weeks_2 : decode cL_weeks 2 = .ok (.invokestatic 126, 3) := by decide +kernel
theorem dL_weeks_5 : decode cL_weeks 5 = .ok (.istore_n 2, 1) := by decide +kernel
theorem dL_weeks_6 : decode cL_weeks 6 = .ok (.iload_n 1, 1) := by decide +kernel
theorem dL_weeks_7 : decode cL_weeks 7 = .ok (.sipush 512, 3) := by decide +kernel
theorem dL_weeks_10 : decode cL_weeks 10 = .ok (.irem, 1) := by decide +kernel
theorem dL_weeks_11 : decode cL_weeks 11 = .ok (.iload_n 1, 1) := by decide +kernel
theorem dL_weeks_12 : decode cL_weeks 12 = .ok (.sipush 512, 3) := by decide +kernel
theorem dL_weeks_15 : decode cL_weeks 15 = .ok (.idiv, 1) := by decide +kernel
theorem dL_weeks_16 : decode cL_weeks 16 = .ok (.iand, 1) := by decide +kernel
theorem dL_weeks_17 : decode cL_weeks 17 = .ok (.istore_n 3, 1) := by decide +kernel
theorem dL_weeks_18 : decode cL_weeks 18 = .ok (.aload_n 0, 1) := by decide +kernel
theorem dL_weeks_19 : decode cL_weeks 19 = .ok (.iconst 2, 1) := by decide +kernel
theorem dL_weeks_20 : decode cL_weeks 20 = .ok (.invokestatic 126, 3) := by decide +kernel
theorem dL_weeks_23 : decode cL_weeks 23 = .ok (.istore 4, 2) := by decide +kernel
theorem dL_weeks_25 : decode cL_weeks 25 = .ok (.bipush 64, 2) := by decide +kernel
theorem dL_weeks_27 : decode cL_weeks 27 = .ok (.newarray .int, 2) := by decide +kernel
theorem dL_weeks_29 : decode cL_weeks 29 = .ok (.astore 5, 2) := by decide +kernel
theorem dL_weeks_31 : decode cL_weeks 31 = .ok (.iconst 0, 1) := by decide +kernel
theorem dL_weeks_32 : decode cL_weeks 32 = .ok (.istore 6, 2) := by decide +kernel
theorem dL_weeks_34 : decode cL_weeks 34 = .ok (.iload 6, 2) := by decide +kernel
theorem dL_weeks_36 : decode cL_weeks 36 = .ok (.iload_n 2, 1) := by decide +kernel
theorem dL_weeks_37 : decode cL_weeks 37 = .ok (.if_icmp .ge 176, 3) := by decide +kernel
theorem dL_weeks_40 : decode cL_weeks 40 = .ok (.aload 5, 2) := by decide +kernel
theorem dL_weeks_42 : decode cL_weeks 42 = .ok (.bipush 7, 2) := by decide +kernel
theorem dL_weeks_44 : decode cL_weeks 44 = .ok (.iload 6, 2) := by decide +kernel
theorem dL_weeks_46 : decode cL_weeks 46 = .ok (.imul, 1) := by decide +kernel
theorem dL_weeks_47 : decode cL_weeks 47 = .ok (.aload_n 0, 1) := by decide +kernel
theorem dL_weeks_48 : decode cL_weeks 48 = .ok (.iload 6, 2) := by decide +kernel
theorem dL_weeks_50 : decode cL_weeks 50 = .ok (.bipush 8, 2) := by decide +kernel
theorem dL_weeks_52 : decode cL_weeks 52 = .ok (.invokestatic 129, 3) := by decide +kernel
theorem dL_weeks_55 : decode cL_weeks 55 = .ok (.iastore, 1) := by decide +kernel
theorem dL_weeks_56 : decode cL_weeks 56 = .ok (.aload 5, 2) := by decide +kernel
theorem dL_weeks_58 : decode cL_weeks 58 = .ok (.bipush 7, 2) := by decide +kernel
theorem dL_weeks_60 : decode cL_weeks 60 = .ok (.iload 6, 2) := by decide +kernel
theorem dL_weeks_62 : decode cL_weeks 62 = .ok (.imul, 1) := by decide +kernel
theorem dL_weeks_63 : decode cL_weeks 63 = .ok (.iconst 1, 1) := by decide +kernel
theorem dL_weeks_64 : decode cL_weeks 64 = .ok (.iadd, 1) := by decide +kernel
theorem dL_weeks_65 : decode cL_weeks 65 = .ok (.aload_n 0, 1) := by decide +kernel
theorem dL_weeks_66 : decode cL_weeks 66 = .ok (.iload 6, 2) := by decide +kernel
theorem dL_weeks_68 : decode cL_weeks 68 = .ok (.bipush 6, 2) := by decide +kernel
theorem dL_weeks_70 : decode cL_weeks 70 = .ok (.invokestatic 129, 3) := by decide +kernel
theorem dL_weeks_73 : decode cL_weeks 73 = .ok (.iastore, 1) := by decide +kernel
theorem dL_weeks_74 : decode cL_weeks 74 = .ok (.aload 5, 2) := by decide +kernel
theorem dL_weeks_76 : decode cL_weeks 76 = .ok (.bipush 7, 2) := by decide +kernel
theorem dL_weeks_78 : decode cL_weeks 78 = .ok (.iload 6, 2) := by decide +kernel
theorem dL_weeks_80 : decode cL_weeks 80 = .ok (.imul, 1) := by decide +kernel
theorem dL_weeks_81 : decode cL_weeks 81 = .ok (.iconst 2, 1) := by decide +kernel
theorem dL_weeks_82 : decode cL_weeks 82 = .ok (.iadd, 1) := by decide +kernel
theorem dL_weeks_83 : decode cL_weeks 83 = .ok (.aload_n 0, 1) := by decide +kernel
theorem dL_weeks_84 : decode cL_weeks 84 = .ok (.iload 6, 2) := by decide +kernel
theorem dL_weeks_86 : decode cL_weeks 86 = .ok (.bipush 7, 2) := by decide +kernel
theorem dL_weeks_88 : decode cL_weeks 88 = .ok (.invokestatic 129, 3) := by decide +kernel
theorem dL_weeks_91 : decode cL_weeks 91 = .ok (.iastore, 1) := by decide +kernel
theorem dL_weeks_92 : decode cL_weeks 92 = .ok (.aload 5, 2) := by decide +kernel
theorem dL_weeks_94 : decode cL_weeks 94 = .ok (.bipush 7, 2) := by decide +kernel
theorem dL_weeks_96 : decode cL_weeks 96 = .ok (.iload 6, 2) := by decide +kernel
theorem dL_weeks_98 : decode cL_weeks 98 = .ok (.imul, 1) := by decide +kernel
theorem dL_weeks_99 : decode cL_weeks 99 = .ok (.iconst 3, 1) := by decide +kernel
theorem dL_weeks_100 : decode cL_weeks 100 = .ok (.iadd, 1) := by decide +kernel
theorem dL_weeks_101 : decode cL_weeks 101 = .ok (.aload_n 0, 1) := by decide +kernel
theorem dL_weeks_102 : decode cL_weeks 102 = .ok (.iload 6, 2) := by decide +kernel
theorem dL_weeks_104 : decode cL_weeks 104 = .ok (.bipush 9, 2) := by decide +kernel
theorem dL_weeks_106 : decode cL_weeks 106 = .ok (.invokestatic 129, 3) := by decide +kernel
theorem dL_weeks_109 : decode cL_weeks 109 = .ok (.iastore, 1) := by decide +kernel
theorem dL_weeks_110 : decode cL_weeks 110 = .ok (.aload 5, 2) := by decide +kernel
theorem dL_weeks_112 : decode cL_weeks 112 = .ok (.bipush 7, 2) := by decide +kernel
theorem dL_weeks_114 : decode cL_weeks 114 = .ok (.iload 6, 2) := by decide +kernel
theorem dL_weeks_116 : decode cL_weeks 116 = .ok (.imul, 1) := by decide +kernel
theorem dL_weeks_117 : decode cL_weeks 117 = .ok (.iconst 4, 1) := by decide +kernel
theorem dL_weeks_118 : decode cL_weeks 118 = .ok (.iadd, 1) := by decide +kernel
theorem dL_weeks_119 : decode cL_weeks 119 = .ok (.aload_n 0, 1) := by decide +kernel
theorem dL_weeks_120 : decode cL_weeks 120 = .ok (.iload 6, 2) := by decide +kernel
theorem dL_weeks_122 : decode cL_weeks 122 = .ok (.iconst 5, 1) := by decide +kernel
theorem dL_weeks_123 : decode cL_weeks 123 = .ok (.invokestatic 129, 3) := by decide +kernel
theorem dL_weeks_126 : decode cL_weeks 126 = .ok (.bipush 20, 2) := by decide +kernel
theorem dL_weeks_128 : decode cL_weeks 128 = .ok (.aload_n 0, 1) := by decide +kernel
theorem dL_weeks_129 : decode cL_weeks 129 = .ok (.iload 6, 2) := by decide +kernel
theorem dL_weeks_131 : decode cL_weeks 131 = .ok (.aload_n 0, 1) := by decide +kernel
theorem dL_weeks_132 : decode cL_weeks 132 = .ok (.iload 6, 2) := by decide +kernel
theorem dL_weeks_134 : decode cL_weeks 134 = .ok (.iconst 4, 1) := by decide +kernel
theorem dL_weeks_135 : decode cL_weeks 135 = .ok (.invokestatic 129, 3) := by decide +kernel
theorem dL_weeks_138 : decode cL_weeks 138 = .ok (.invokestatic 129, 3) := by decide +kernel
theorem dL_weeks_141 : decode cL_weeks 141 = .ok (.imul, 1) := by decide +kernel
theorem dL_weeks_142 : decode cL_weeks 142 = .ok (.iadd, 1) := by decide +kernel
theorem dL_weeks_143 : decode cL_weeks 143 = .ok (.iastore, 1) := by decide +kernel
theorem dL_weeks_144 : decode cL_weeks 144 = .ok (.aload 5, 2) := by decide +kernel
theorem dL_weeks_146 : decode cL_weeks 146 = .ok (.bipush 7, 2) := by decide +kernel
theorem dL_weeks_148 : decode cL_weeks 148 = .ok (.iload 6, 2) := by decide +kernel
theorem dL_weeks_150 : decode cL_weeks 150 = .ok (.imul, 1) := by decide +kernel
theorem dL_weeks_151 : decode cL_weeks 151 = .ok (.iconst 5, 1) := by decide +kernel
theorem dL_weeks_152 : decode cL_weeks 152 = .ok (.iadd, 1) := by decide +kernel
theorem dL_weeks_153 : decode cL_weeks 153 = .ok (.aload 5, 2) := by decide +kernel
theorem dL_weeks_155 : decode cL_weeks 155 = .ok (.bipush 7, 2) := by decide +kernel
theorem dL_weeks_157 : decode cL_weeks 157 = .ok (.iload 6, 2) := by decide +kernel
theorem dL_weeks_159 : decode cL_weeks 159 = .ok (.imul, 1) := by decide +kernel
theorem dL_weeks_160 : decode cL_weeks 160 = .ok (.iaload, 1) := by decide +kernel
theorem dL_weeks_161 : decode cL_weeks 161 = .ok (.sipush (-9999), 3) := by decide +kernel
theorem dL_weeks_164 : decode cL_weeks 164 = .ok (.if_icmp .ne 7, 3) := by decide +kernel
theorem dL_weeks_167 : decode cL_weeks 167 = .ok (.iconst 0, 1) := by decide +kernel
theorem dL_weeks_168 : decode cL_weeks 168 = .ok (.goto 17, 3) := by decide +kernel
theorem dL_weeks_171 : decode cL_weeks 171 = .ok (.aload_n 0, 1) := by decide +kernel
theorem dL_weeks_172 : decode cL_weeks 172 = .ok (.iload 6, 2) := by decide +kernel
theorem dL_weeks_174 : decode cL_weeks 174 = .ok (.aload 5, 2) := by decide +kernel
theorem dL_weeks_176 : decode cL_weeks 176 = .ok (.bipush 7, 2) := by decide +kernel
theorem dL_weeks_178 : decode cL_weeks 178 = .ok (.iload 6, 2) := by decide +kernel
theorem dL_weeks_180 : decode cL_weeks 180 = .ok (.imul, 1) := by decide +kernel
theorem dL_weeks_181 : decode cL_weeks 181 = .ok (.iaload, 1) := by decide +kernel
theorem dL_weeks_182 : decode cL_weeks 182 = .ok (.invokestatic 200, 3) := by decide +kernel
theorem dL_weeks_185 : decode cL_weeks 185 = .ok (.iastore, 1) := by decide +kernel
theorem dL_weeks_186 : decode cL_weeks 186 = .ok (.aload 5, 2) := by decide +kernel
theorem dL_weeks_188 : decode cL_weeks 188 = .ok (.bipush 7, 2) := by decide +kernel
theorem dL_weeks_190 : decode cL_weeks 190 = .ok (.iload 6, 2) := by decide +kernel
theorem dL_weeks_192 : decode cL_weeks 192 = .ok (.imul, 1) := by decide +kernel
theorem dL_weeks_193 : decode cL_weeks 193 = .ok (.bipush 6, 2) := by decide +kernel
theorem dL_weeks_195 : decode cL_weeks 195 = .ok (.iadd, 1) := by decide +kernel
theorem dL_weeks_196 : decode cL_weeks 196 = .ok (.aload_n 0, 1) := by decide +kernel
theorem dL_weeks_197 : decode cL_weeks 197 = .ok (.iload 6, 2) := by decide +kernel
theorem dL_weeks_199 : decode cL_weeks 199 = .ok (.iconst 1, 1) := by decide +kernel
theorem dL_weeks_200 : decode cL_weeks 200 = .ok (.iload_n 3, 1) := by decide +kernel
theorem dL_weeks_201 : decode cL_weeks 201 = .ok (.bipush 6, 2) := by decide +kernel
theorem dL_weeks_203 : decode cL_weeks 203 = .ok (.invokestatic 180, 3) := by decide +kernel
theorem dL_weeks_206 : decode cL_weeks 206 = .ok (.iastore, 1) := by decide +kernel
theorem dL_weeks_207 : decode cL_weeks 207 = .ok (.iinc 6 1, 3) := by decide +kernel
theorem dL_weeks_210 : decode cL_weeks 210 = .ok (.goto (-176), 3) := by decide +kernel
theorem dL_weeks_213 : decode cL_weeks 213 = .ok (.aload_n 0, 1) := by decide +kernel
theorem dL_weeks_214 : decode cL_weeks 214 = .ok (.iload_n 3, 1) := by decide +kernel
theorem dL_weeks_215 : decode cL_weeks 215 = .ok (.invokestatic 167, 3) := by decide +kernel
theorem dL_weeks_218 : decode cL_weeks 218 = .ok (.istore 6, 2) := by decide +kernel
theorem dL_weeks_220 : decode cL_weeks 220 = .ok (.iload 6, 2) := by decide +kernel
theorem dL_weeks_222 : decode cL_weeks 222 = .ok (.aload_n 0, 1) := by decide +kernel
theorem dL_weeks_223 : decode cL_weeks 223 = .ok (.iconst 1, 1) := by decide +kernel
theorem dL_weeks_224 : decode cL_weeks 224 = .ok (.invokestatic 126, 3) := by decide +kernel
theorem dL_weeks_227 : decode cL_weeks 227 = .ok (.if_icmp .ne 19, 3) := by decide +kernel
theorem dL_weeks_230 : decode cL_weeks 230 = .ok (.aload_n 0, 1) := by decide +kernel
theorem dL_weeks_231 : decode cL_weeks 231 = .ok (.iconst 2, 1) := by decide +kernel
theorem dL_weeks_232 : decode cL_weeks 232 = .ok (.invokestatic 126, 3) := by decide +kernel
theorem dL_weeks_235 : decode cL_weeks 235 = .ok (.iload 4, 2) := by decide +kernel
theorem dL_weeks_237 : decode cL_weeks 237 = .ok (.iconst 1, 1) := by decide +kernel
theorem dL_weeks_238 : decode cL_weeks 238 = .ok (.iadd, 1) := by decide +kernel
theorem dL_weeks_239 : decode cL_weeks 239 = .ok (.if_icmp .ne 7, 3) := by decide +kernel
theorem dL_weeks_242 : decode cL_weeks 242 = .ok (.iconst 1, 1) := by decide +kernel
theorem dL_weeks_243 : decode cL_weeks 243 = .ok (.goto 4, 3) := by decide +kernel
theorem dL_weeks_246 : decode cL_weeks 246 = .ok (.iconst 0, 1) := by decide +kernel
theorem dL_weeks_247 : decode cL_weeks 247 = .ok (.istore 7, 2) := by decide +kernel
theorem dL_weeks_249 : decode cL_weeks 249 = .ok (.iconst 0, 1) := by decide +kernel
theorem dL_weeks_250 : decode cL_weeks 250 = .ok (.istore 8, 2) := by decide +kernel
theorem dL_weeks_252 : decode cL_weeks 252 = .ok (.iload 8, 2) := by decide +kernel
theorem dL_weeks_254 : decode cL_weeks 254 = .ok (.iload_n 2, 1) := by decide +kernel
theorem dL_weeks_255 : decode cL_weeks 255 = .ok (.if_icmp .ge 469, 3) := by decide +kernel
theorem dL_weeks_258 : decode cL_weeks 258 = .ok (.iload 7, 2) := by decide +kernel
theorem dL_weeks_260 : decode cL_weeks 260 = .ok (.ifCond .eq 464, 3) := by decide +kernel
theorem dL_weeks_263 : decode cL_weeks 263 = .ok (.aload 5, 2) := by decide +kernel
theorem dL_weeks_265 : decode cL_weeks 265 = .ok (.bipush 7, 2) := by decide +kernel
theorem dL_weeks_267 : decode cL_weeks 267 = .ok (.iload 8, 2) := by decide +kernel
theorem dL_weeks_269 : decode cL_weeks 269 = .ok (.imul, 1) := by decide +kernel
theorem dL_weeks_270 : decode cL_weeks 270 = .ok (.iaload, 1) := by decide +kernel
theorem dL_weeks_271 : decode cL_weeks 271 = .ok (.istore 9, 2) := by decide +kernel
theorem dL_weeks_273 : decode cL_weeks 273 = .ok (.iload_n 3, 1) := by decide +kernel
theorem dL_weeks_274 : decode cL_weeks 274 = .ok (.iload 8, 2) := by decide +kernel
theorem dL_weeks_276 : decode cL_weeks 276 = .ok (.ishr, 1) := by decide +kernel
theorem dL_weeks_277 : decode cL_weeks 277 = .ok (.iconst 1, 1) := by decide +kernel
theorem dL_weeks_278 : decode cL_weeks 278 = .ok (.iand, 1) := by decide +kernel
theorem dL_weeks_279 : decode cL_weeks 279 = .ok (.iconst 1, 1) := by decide +kernel
theorem dL_weeks_280 : decode cL_weeks 280 = .ok (.if_icmp .ne 7, 3) := by decide +kernel
theorem dL_weeks_283 : decode cL_weeks 283 = .ok (.iconst 1, 1) := by decide +kernel
theorem dL_weeks_284 : decode cL_weeks 284 = .ok (.goto 4, 3) := by decide +kernel
theorem dL_weeks_287 : decode cL_weeks 287 = .ok (.iconst 0, 1) := by decide +kernel
theorem dL_weeks_288 : decode cL_weeks 288 = .ok (.istore 10, 2) := by decide +kernel
theorem dL_weeks_290 : decode cL_weeks 290 = .ok (.iload 9, 2) := by decide +kernel
theorem dL_weeks_292 : decode cL_weeks 292 = .ok (.sipush (-9999), 3) := by decide +kernel
theorem dL_weeks_295 : decode cL_weeks 295 = .ok (.if_icmp .eq 17, 3) := by decide +kernel
theorem dL_weeks_298 : decode cL_weeks 298 = .ok (.iload_n 3, 1) := by decide +kernel
theorem dL_weeks_299 : decode cL_weeks 299 = .ok (.iload 9, 2) := by decide +kernel
theorem dL_weeks_301 : decode cL_weeks 301 = .ok (.ishr, 1) := by decide +kernel
theorem dL_weeks_302 : decode cL_weeks 302 = .ok (.iconst 1, 1) := by decide +kernel
theorem dL_weeks_303 : decode cL_weeks 303 = .ok (.iand, 1) := by decide +kernel
theorem dL_weeks_304 : decode cL_weeks 304 = .ok (.iconst 1, 1) := by decide +kernel
theorem dL_weeks_305 : decode cL_weeks 305 = .ok (.if_icmp .ne 7, 3) := by decide +kernel
theorem dL_weeks_308 : decode cL_weeks 308 = .ok (.iconst 1, 1) := by decide +kernel
theorem dL_weeks_309 : decode cL_weeks 309 = .ok (.goto 4, 3) := by decide +kernel
theorem dL_weeks_312 : decode cL_weeks 312 = .ok (.iconst 0, 1) := by decide +kernel
theorem dL_weeks_313 : decode cL_weeks 313 = .ok (.istore 11, 2) := by decide +kernel
theorem dL_weeks_315 : decode cL_weeks 315 = .ok (.iload 9, 2) := by decide +kernel
theorem dL_weeks_317 : decode cL_weeks 317 = .ok (.sipush (-9999), 3) := by decide +kernel
theorem dL_weeks_320 : decode cL_weeks 320 = .ok (.if_icmp .ne 7, 3) := by decide +kernel
theorem dL_weeks_323 : decode cL_weeks 323 = .ok (.iconst 0, 1) := by decide +kernel
theorem dL_weeks_324 : decode cL_weeks 324 = .ok (.goto 28, 3) := by decide +kernel
theorem dL_weeks_327 : decode cL_weeks 327 = .ok (.iload 10, 2) := by decide +kernel
theorem dL_weeks_329 : decode cL_weeks 329 = .ok (.ifCond .ne 12, 3) := by decide +kernel
theorem dL_weeks_332 : decode cL_weeks 332 = .ok (.iload 11, 2) := by decide +kernel
theorem dL_weeks_334 : decode cL_weeks 334 = .ok (.ifCond .ne 7, 3) := by decide +kernel
theorem dL_weeks_337 : decode cL_weeks 337 = .ok (.iconst 1, 1) := by decide +kernel
theorem dL_weeks_338 : decode cL_weeks 338 = .ok (.goto 14, 3) := by decide +kernel
theorem dL_weeks_341 : decode cL_weeks 341 = .ok (.iload 10, 2) := by decide +kernel
theorem dL_weeks_343 : decode cL_weeks 343 = .ok (.ifCond .eq 8, 3) := by decide +kernel
theorem dL_weeks_346 : decode cL_weeks 346 = .ok (.bipush (-3), 2) := by decide +kernel
theorem dL_weeks_348 : decode cL_weeks 348 = .ok (.goto 4, 3) := by decide +kernel
theorem dL_weeks_351 : decode cL_weeks 351 = .ok (.iconst 2, 1) := by decide +kernel
theorem dL_weeks_352 : decode cL_weeks 352 = .ok (.istore 12, 2) := by decide +kernel
theorem dL_weeks_354 : decode cL_weeks 354 = .ok (.aload 5, 2) := by decide +kernel
theorem dL_weeks_356 : decode cL_weeks 356 = .ok (.bipush 7, 2) := by decide +kernel
theorem dL_weeks_358 : decode cL_weeks 358 = .ok (.iload 8, 2) := by decide +kernel
theorem dL_weeks_360 : decode cL_weeks 360 = .ok (.imul, 1) := by decide +kernel
theorem dL_weeks_361 : decode cL_weeks 361 = .ok (.iconst 1, 1) := by decide +kernel
theorem dL_weeks_362 : decode cL_weeks 362 = .ok (.iadd, 1) := by decide +kernel
theorem dL_weeks_363 : decode cL_weeks 363 = .ok (.iaload, 1) := by decide +kernel
theorem dL_weeks_364 : decode cL_weeks 364 = .ok (.iload 12, 2) := by decide +kernel
theorem dL_weeks_366 : decode cL_weeks 366 = .ok (.iadd, 1) := by decide +kernel
theorem dL_weeks_367 : decode cL_weeks 367 = .ok (.bipush 99, 2) := by decide +kernel
theorem dL_weeks_369 : decode cL_weeks 369 = .ok (.if_icmp .le 8, 3) := by decide +kernel
theorem dL_weeks_372 : decode cL_weeks 372 = .ok (.bipush 99, 2) := by decide +kernel
theorem dL_weeks_374 : decode cL_weeks 374 = .ok (.goto 39, 3) := by decide +kernel
theorem dL_weeks_377 : decode cL_weeks 377 = .ok (.aload 5, 2) := by decide +kernel
theorem dL_weeks_379 : decode cL_weeks 379 = .ok (.bipush 7, 2) := by decide +kernel
theorem dL_weeks_381 : decode cL_weeks 381 = .ok (.iload 8, 2) := by decide +kernel
theorem dL_weeks_383 : decode cL_weeks 383 = .ok (.imul, 1) := by decide +kernel
theorem dL_weeks_384 : decode cL_weeks 384 = .ok (.iconst 1, 1) := by decide +kernel
theorem dL_weeks_385 : decode cL_weeks 385 = .ok (.iadd, 1) := by decide +kernel
theorem dL_weeks_386 : decode cL_weeks 386 = .ok (.iaload, 1) := by decide +kernel
theorem dL_weeks_387 : decode cL_weeks 387 = .ok (.iload 12, 2) := by decide +kernel
theorem dL_weeks_389 : decode cL_weeks 389 = .ok (.iadd, 1) := by decide +kernel
theorem dL_weeks_390 : decode cL_weeks 390 = .ok (.bipush (-99), 2) := by decide +kernel
theorem dL_weeks_392 : decode cL_weeks 392 = .ok (.if_icmp .ge 8, 3) := by decide +kernel
theorem dL_weeks_395 : decode cL_weeks 395 = .ok (.bipush (-99), 2) := by decide +kernel
theorem dL_weeks_397 : decode cL_weeks 397 = .ok (.goto 16, 3) := by decide +kernel
theorem dL_weeks_400 : decode cL_weeks 400 = .ok (.aload 5, 2) := by decide +kernel
theorem dL_weeks_402 : decode cL_weeks 402 = .ok (.bipush 7, 2) := by decide +kernel
theorem dL_weeks_404 : decode cL_weeks 404 = .ok (.iload 8, 2) := by decide +kernel
theorem dL_weeks_406 : decode cL_weeks 406 = .ok (.imul, 1) := by decide +kernel
theorem dL_weeks_407 : decode cL_weeks 407 = .ok (.iconst 1, 1) := by decide +kernel
theorem dL_weeks_408 : decode cL_weeks 408 = .ok (.iadd, 1) := by decide +kernel
theorem dL_weeks_409 : decode cL_weeks 409 = .ok (.iaload, 1) := by decide +kernel
theorem dL_weeks_410 : decode cL_weeks 410 = .ok (.iload 12, 2) := by decide +kernel
theorem dL_weeks_412 : decode cL_weeks 412 = .ok (.iadd, 1) := by decide +kernel
theorem dL_weeks_413 : decode cL_weeks 413 = .ok (.istore 13, 2) := by decide +kernel
theorem dL_weeks_415 : decode cL_weeks 415 = .ok (.aload_n 0, 1) := by decide +kernel
theorem dL_weeks_416 : decode cL_weeks 416 = .ok (.iload 8, 2) := by decide +kernel
theorem dL_weeks_418 : decode cL_weeks 418 = .ok (.iconst 5, 1) := by decide +kernel
theorem dL_weeks_419 : decode cL_weeks 419 = .ok (.invokestatic 129, 3) := by decide +kernel
theorem dL_weeks_422 : decode cL_weeks 422 = .ok (.bipush 20, 2) := by decide +kernel
theorem dL_weeks_424 : decode cL_weeks 424 = .ok (.aload_n 0, 1) := by decide +kernel
theorem dL_weeks_425 : decode cL_weeks 425 = .ok (.iload 8, 2) := by decide +kernel
theorem dL_weeks_427 : decode cL_weeks 427 = .ok (.aload_n 0, 1) := by decide +kernel
theorem dL_weeks_428 : decode cL_weeks 428 = .ok (.iload 8, 2) := by decide +kernel
theorem dL_weeks_430 : decode cL_weeks 430 = .ok (.iconst 4, 1) := by decide +kernel
theorem dL_weeks_431 : decode cL_weeks 431 = .ok (.invokestatic 129, 3) := by decide +kernel
theorem dL_weeks_434 : decode cL_weeks 434 = .ok (.invokestatic 129, 3) := by decide +kernel
theorem dL_weeks_437 : decode cL_weeks 437 = .ok (.imul, 1) := by decide +kernel
theorem dL_weeks_438 : decode cL_weeks 438 = .ok (.iadd, 1) := by decide +kernel
theorem dL_weeks_439 : decode cL_weeks 439 = .ok (.aload 5, 2) := by decide +kernel
theorem dL_weeks_441 : decode cL_weeks 441 = .ok (.bipush 7, 2) := by decide +kernel
theorem dL_weeks_443 : decode cL_weeks 443 = .ok (.iload 8, 2) := by decide +kernel
theorem dL_weeks_445 : decode cL_weeks 445 = .ok (.imul, 1) := by decide +kernel
theorem dL_weeks_446 : decode cL_weeks 446 = .ok (.iconst 4, 1) := by decide +kernel
theorem dL_weeks_447 : decode cL_weeks 447 = .ok (.iadd, 1) := by decide +kernel
theorem dL_weeks_448 : decode cL_weeks 448 = .ok (.iaload, 1) := by decide +kernel
theorem dL_weeks_449 : decode cL_weeks 449 = .ok (.isub, 1) := by decide +kernel
theorem dL_weeks_450 : decode cL_weeks 450 = .ok (.istore 14, 2) := by decide +kernel
theorem dL_weeks_452 : decode cL_weeks 452 = .ok (.iload 9, 2) := by decide +kernel
theorem dL_weeks_454 : decode cL_weeks 454 = .ok (.sipush (-9999), 3) := by decide +kernel
theorem dL_weeks_457 : decode cL_weeks 457 = .ok (.if_icmp .eq 13, 3) := by decide +kernel
theorem dL_weeks_460 : decode cL_weeks 460 = .ok (.iload 10, 2) := by decide +kernel
theorem dL_weeks_462 : decode cL_weeks 462 = .ok (.ifCond .ne 8, 3) := by decide +kernel
theorem dL_weeks_465 : decode cL_weeks 465 = .ok (.iload 11, 2) := by decide +kernel
theorem dL_weeks_467 : decode cL_weeks 467 = .ok (.ifCond .eq 7, 3) := by decide +kernel
theorem dL_weeks_470 : decode cL_weeks 470 = .ok (.iconst 0, 1) := by decide +kernel
theorem dL_weeks_471 : decode cL_weeks 471 = .ok (.goto 15, 3) := by decide +kernel
theorem dL_weeks_474 : decode cL_weeks 474 = .ok (.iconst 4, 1) := by decide +kernel
theorem dL_weeks_475 : decode cL_weeks 475 = .ok (.aload 5, 2) := by decide +kernel
theorem dL_weeks_477 : decode cL_weeks 477 = .ok (.bipush 7, 2) := by decide +kernel
theorem dL_weeks_479 : decode cL_weeks 479 = .ok (.iload 8, 2) := by decide +kernel
theorem dL_weeks_481 : decode cL_weeks 481 = .ok (.imul, 1) := by decide +kernel
theorem dL_weeks_482 : decode cL_weeks 482 = .ok (.iconst 5, 1) := by decide +kernel
theorem dL_weeks_483 : decode cL_weeks 483 = .ok (.iadd, 1) := by decide +kernel
theorem dL_weeks_484 : decode cL_weeks 484 = .ok (.iaload, 1) := by decide +kernel
theorem dL_weeks_485 : decode cL_weeks 485 = .ok (.iadd, 1) := by decide +kernel
theorem dL_weeks_486 : decode cL_weeks 486 = .ok (.istore 15, 2) := by decide +kernel
theorem dL_weeks_488 : decode cL_weeks 488 = .ok (.aload_n 0, 1) := by decide +kernel
theorem dL_weeks_489 : decode cL_weeks 489 = .ok (.iload 8, 2) := by decide +kernel
theorem dL_weeks_491 : decode cL_weeks 491 = .ok (.aload_n 0, 1) := by decide +kernel
theorem dL_weeks_492 : decode cL_weeks 492 = .ok (.iload 8, 2) := by decide +kernel
theorem dL_weeks_494 : decode cL_weeks 494 = .ok (.iconst 4, 1) := by decide +kernel
theorem dL_weeks_495 : decode cL_weeks 495 = .ok (.invokestatic 129, 3) := by decide +kernel
theorem dL_weeks_498 : decode cL_weeks 498 = .ok (.invokestatic 129, 3) := by decide +kernel
theorem dL_weeks_501 : decode cL_weeks 501 = .ok (.bipush 9, 2) := by decide +kernel
theorem dL_weeks_503 : decode cL_weeks 503 = .ok (.if_icmp .ne 7, 3) := by decide +kernel
theorem dL_weeks_506 : decode cL_weeks 506 = .ok (.iconst 1, 1) := by decide +kernel
theorem dL_weeks_507 : decode cL_weeks 507 = .ok (.goto 4, 3) := by decide +kernel
theorem dL_weeks_510 : decode cL_weeks 510 = .ok (.iconst 0, 1) := by decide +kernel
theorem dL_weeks_511 : decode cL_weeks 511 = .ok (.istore 16, 2) := by decide +kernel
theorem dL_weeks_513 : decode cL_weeks 513 = .ok (.iload 10, 2) := by decide +kernel
theorem dL_weeks_515 : decode cL_weeks 515 = .ok (.ifCond .ne 8, 3) := by decide +kernel
theorem dL_weeks_518 : decode cL_weeks 518 = .ok (.iload 11, 2) := by decide +kernel
theorem dL_weeks_520 : decode cL_weeks 520 = .ok (.ifCond .eq 18, 3) := by decide +kernel
theorem dL_weeks_523 : decode cL_weeks 523 = .ok (.aload 5, 2) := by decide +kernel
theorem dL_weeks_525 : decode cL_weeks 525 = .ok (.bipush 7, 2) := by decide +kernel
theorem dL_weeks_527 : decode cL_weeks 527 = .ok (.iload 8, 2) := by decide +kernel
theorem dL_weeks_529 : decode cL_weeks 529 = .ok (.imul, 1) := by decide +kernel
theorem dL_weeks_530 : decode cL_weeks 530 = .ok (.iconst 3, 1) := by decide +kernel
theorem dL_weeks_531 : decode cL_weeks 531 = .ok (.iadd, 1) := by decide +kernel
theorem dL_weeks_532 : decode cL_weeks 532 = .ok (.iaload, 1) := by decide +kernel
theorem dL_weeks_533 : decode cL_weeks 533 = .ok (.iconst 1, 1) := by decide +kernel
theorem dL_weeks_534 : decode cL_weeks 534 = .ok (.iadd, 1) := by decide +kernel
theorem dL_weeks_535 : decode cL_weeks 535 = .ok (.goto 4, 3) := by decide +kernel
theorem dL_weeks_538 : decode cL_weeks 538 = .ok (.iconst 0, 1) := by decide +kernel
theorem dL_weeks_539 : decode cL_weeks 539 = .ok (.istore 17, 2) := by decide +kernel
theorem dL_weeks_541 : decode cL_weeks 541 = .ok (.iload 9, 2) := by decide +kernel
theorem dL_weeks_543 : decode cL_weeks 543 = .ok (.sipush (-9999), 3) := by decide +kernel
theorem dL_weeks_546 : decode cL_weeks 546 = .ok (.if_icmp .eq 26, 3) := by decide +kernel
theorem dL_weeks_549 : decode cL_weeks 549 = .ok (.iload 17, 2) := by decide +kernel
theorem dL_weeks_551 : decode cL_weeks 551 = .ok (.iconst 3, 1) := by decide +kernel
theorem dL_weeks_552 : decode cL_weeks 552 = .ok (.if_icmp .ge 20, 3) := by decide +kernel
theorem dL_weeks_555 : decode cL_weeks 555 = .ok (.aload_n 0, 1) := by decide +kernel
theorem dL_weeks_556 : decode cL_weeks 556 = .ok (.iload 8, 2) := by decide +kernel
theorem dL_weeks_558 : decode cL_weeks 558 = .ok (.iload 9, 2) := by decide +kernel
theorem dL_weeks_560 : decode cL_weeks 560 = .ok (.iconst 2, 1) := by decide +kernel
theorem dL_weeks_561 : decode cL_weeks 561 = .ok (.invokestatic 139, 3) := by decide +kernel
theorem dL_weeks_564 : decode cL_weeks 564 = .ok (.iconst 1, 1) := by decide +kernel
theorem dL_weeks_565 : decode cL_weeks 565 = .ok (.if_icmp .ne 7, 3) := by decide +kernel
theorem dL_weeks_568 : decode cL_weeks 568 = .ok (.iconst 1, 1) := by decide +kernel
theorem dL_weeks_569 : decode cL_weeks 569 = .ok (.goto 4, 3) := by decide +kernel
theorem dL_weeks_572 : decode cL_weeks 572 = .ok (.iconst 0, 1) := by decide +kernel
theorem dL_weeks_573 : decode cL_weeks 573 = .ok (.istore 18, 2) := by decide +kernel
theorem dL_weeks_575 : decode cL_weeks 575 = .ok (.aload_n 0, 1) := by decide +kernel
theorem dL_weeks_576 : decode cL_weeks 576 = .ok (.iload 8, 2) := by decide +kernel
theorem dL_weeks_578 : decode cL_weeks 578 = .ok (.bipush 6, 2) := by decide +kernel
theorem dL_weeks_580 : decode cL_weeks 580 = .ok (.invokestatic 129, 3) := by decide +kernel
theorem dL_weeks_583 : decode cL_weeks 583 = .ok (.iload 13, 2) := by decide +kernel
theorem dL_weeks_585 : decode cL_weeks 585 = .ok (.if_icmp .ne 130, 3) := by decide +kernel
theorem dL_weeks_588 : decode cL_weeks 588 = .ok (.aload 5, 2) := by decide +kernel
theorem dL_weeks_590 : decode cL_weeks 590 = .ok (.bipush 7, 2) := by decide +kernel
theorem dL_weeks_592 : decode cL_weeks 592 = .ok (.iload 8, 2) := by decide +kernel
theorem dL_weeks_594 : decode cL_weeks 594 = .ok (.imul, 1) := by decide +kernel
theorem dL_weeks_595 : decode cL_weeks 595 = .ok (.bipush 6, 2) := by decide +kernel
theorem dL_weeks_597 : decode cL_weeks 597 = .ok (.iadd, 1) := by decide +kernel
theorem dL_weeks_598 : decode cL_weeks 598 = .ok (.iaload, 1) := by decide +kernel
theorem dL_weeks_599 : decode cL_weeks 599 = .ok (.iload 13, 2) := by decide +kernel
theorem dL_weeks_601 : decode cL_weeks 601 = .ok (.if_icmp .ne 114, 3) := by decide +kernel
theorem dL_weeks_604 : decode cL_weeks 604 = .ok (.aload_n 0, 1) := by decide +kernel
theorem dL_weeks_605 : decode cL_weeks 605 = .ok (.iload 8, 2) := by decide +kernel
theorem dL_weeks_607 : decode cL_weeks 607 = .ok (.bipush 7, 2) := by decide +kernel
theorem dL_weeks_609 : decode cL_weeks 609 = .ok (.invokestatic 129, 3) := by decide +kernel
theorem dL_weeks_612 : decode cL_weeks 612 = .ok (.aload 5, 2) := by decide +kernel
theorem dL_weeks_614 : decode cL_weeks 614 = .ok (.bipush 7, 2) := by decide +kernel
theorem dL_weeks_616 : decode cL_weeks 616 = .ok (.iload 8, 2) := by decide +kernel
theorem dL_weeks_618 : decode cL_weeks 618 = .ok (.imul, 1) := by decide +kernel
theorem dL_weeks_619 : decode cL_weeks 619 = .ok (.iconst 2, 1) := by decide +kernel
theorem dL_weeks_620 : decode cL_weeks 620 = .ok (.iadd, 1) := by decide +kernel
theorem dL_weeks_621 : decode cL_weeks 621 = .ok (.iaload, 1) := by decide +kernel
theorem dL_weeks_622 : decode cL_weeks 622 = .ok (.iload 9, 2) := by decide +kernel
theorem dL_weeks_624 : decode cL_weeks 624 = .ok (.sipush (-9999), 3) := by decide +kernel
theorem dL_weeks_627 : decode cL_weeks 627 = .ok (.if_icmp .eq 12, 3) := by decide +kernel
theorem dL_weeks_630 : decode cL_weeks 630 = .ok (.iload 10, 2) := by decide +kernel
theorem dL_weeks_632 : decode cL_weeks 632 = .ok (.ifCond .eq 7, 3) := by decide +kernel
theorem dL_weeks_635 : decode cL_weeks 635 = .ok (.iconst 1, 1) := by decide +kernel
theorem dL_weeks_636 : decode cL_weeks 636 = .ok (.goto 4, 3) := by decide +kernel
theorem dL_weeks_639 : decode cL_weeks 639 = .ok (.iconst 0, 1) := by decide +kernel
theorem dL_weeks_640 : decode cL_weeks 640 = .ok (.iadd, 1) := by decide +kernel
theorem dL_weeks_641 : decode cL_weeks 641 = .ok (.if_icmp .ne 74, 3) := by decide +kernel
theorem dL_weeks_644 : decode cL_weeks 644 = .ok (.iload 14, 2) := by decide +kernel
theorem dL_weeks_646 : decode cL_weeks 646 = .ok (.iload 15, 2) := by decide +kernel
theorem dL_weeks_648 : decode cL_weeks 648 = .ok (.if_icmp .eq 15, 3) := by decide +kernel
theorem dL_weeks_651 : decode cL_weeks 651 = .ok (.iload 16, 2) := by decide +kernel
theorem dL_weeks_653 : decode cL_weeks 653 = .ok (.ifCond .eq 62, 3) := by decide +kernel
theorem dL_weeks_656 : decode cL_weeks 656 = .ok (.iload 14, 2) := by decide +kernel
theorem dL_weeks_658 : decode cL_weeks 658 = .ok (.iload 15, 2) := by decide +kernel
theorem dL_weeks_660 : decode cL_weeks 660 = .ok (.if_icmp .gt 55, 3) := by decide +kernel
theorem dL_weeks_663 : decode cL_weeks 663 = .ok (.aload_n 0, 1) := by decide +kernel
theorem dL_weeks_664 : decode cL_weeks 664 = .ok (.iload 8, 2) := by decide +kernel
theorem dL_weeks_666 : decode cL_weeks 666 = .ok (.bipush 8, 2) := by decide +kernel
theorem dL_weeks_668 : decode cL_weeks 668 = .ok (.invokestatic 129, 3) := by decide +kernel
theorem dL_weeks_671 : decode cL_weeks 671 = .ok (.iload 18, 2) := by decide +kernel
theorem dL_weeks_673 : decode cL_weeks 673 = .ok (.ifCond .eq 8, 3) := by decide +kernel
theorem dL_weeks_676 : decode cL_weeks 676 = .ok (.iload 9, 2) := by decide +kernel
theorem dL_weeks_678 : decode cL_weeks 678 = .ok (.goto 6, 3) := by decide +kernel
theorem dL_weeks_681 : decode cL_weeks 681 = .ok (.sipush (-9999), 3) := by decide +kernel
theorem dL_weeks_684 : decode cL_weeks 684 = .ok (.if_icmp .ne 31, 3) := by decide +kernel
theorem dL_weeks_687 : decode cL_weeks 687 = .ok (.aload_n 0, 1) := by decide +kernel
theorem dL_weeks_688 : decode cL_weeks 688 = .ok (.iload 8, 2) := by decide +kernel
theorem dL_weeks_690 : decode cL_weeks 690 = .ok (.bipush 9, 2) := by decide +kernel
theorem dL_weeks_692 : decode cL_weeks 692 = .ok (.invokestatic 129, 3) := by decide +kernel
theorem dL_weeks_695 : decode cL_weeks 695 = .ok (.iload 18, 2) := by decide +kernel
theorem dL_weeks_697 : decode cL_weeks 697 = .ok (.ifCond .eq 8, 3) := by decide +kernel
theorem dL_weeks_700 : decode cL_weeks 700 = .ok (.iload 17, 2) := by decide +kernel
theorem dL_weeks_702 : decode cL_weeks 702 = .ok (.goto 6, 3) := by decide +kernel
theorem dL_weeks_705 : decode cL_weeks 705 = .ok (.sipush (-9999), 3) := by decide +kernel
theorem dL_weeks_708 : decode cL_weeks 708 = .ok (.if_icmp .ne 7, 3) := by decide +kernel
theorem dL_weeks_711 : decode cL_weeks 711 = .ok (.iconst 1, 1) := by decide +kernel
theorem dL_weeks_712 : decode cL_weeks 712 = .ok (.goto 4, 3) := by decide +kernel
theorem dL_weeks_715 : decode cL_weeks 715 = .ok (.iconst 0, 1) := by decide +kernel
theorem dL_weeks_716 : decode cL_weeks 716 = .ok (.istore 7, 2) := by decide +kernel
theorem dL_weeks_718 : decode cL_weeks 718 = .ok (.iinc 8 1, 3) := by decide +kernel
theorem dL_weeks_721 : decode cL_weeks 721 = .ok (.goto (-469), 3) := by decide +kernel
theorem dL_weeks_724 : decode cL_weeks 724 = .ok (.iload 7, 2) := by decide +kernel
theorem dL_weeks_726 : decode cL_weeks 726 = .ok (.ireturn, 1) := by decide +kernel
set_option maxRecDepth 20000 in
theorem ggL_hands_L_tryAbout : GoodIn wsL_hands wsL_tryAbout := goodIn_ca (goodIn_r _ [5, 6, 7, 8, 9, 10, 11, 12, 13, 14, 15, 16, 17, 18, 19, 20, 21, 22, 23, 24, 25, 26, 27, 28, 29, 30, 31, 32, 33, 34, 35, 36, 37, 38, 39, 40, 41, 42, 43, 44, 45, 46, 47, 48, 49, 50, 51, 52, 53, 54, 55, 56, 57, 58, 59, 60, 61, 62, 63, 64, 65, 66, 67, 68, 69, 70, 71, 72, 73, 74, 75, 76, 77, 78, 79, 80, 81, 82, 83, 84, 85, 409, 410, 411, 412, 413, 414, 415, 416, 417, 418, 419, 420, 421, 422, 423, 424, 425] (by decide +kernel) (by decide +kernel)) (goodIn_sub (fun _ h => List.mem_cons_of_mem _ (List.mem_append_left _ (List.mem_append_left _ (List.mem_append_right _ h)))) (by decide +kernel))
set_option maxRecDepth 20000 in
theorem gL_hands_L_tryAbout : GoodIn wsL_hands (va_wsS RL 126 yL_tryAbout wsL_tryAbout) := goodIn_app (goodIn_of _ (by decide +kernel)) ggL_hands_L_tryAbout
set_option maxRecDepth 20000 in
theorem ggL_hands_X5_missedMost : GoodIn wsL_hands wsX5_missedMost := goodIn_r _ [89, 90, 15, 16, 91, 92, 93, 94, 95, 96, 97, 98, 99, 100, 101, 102, 103, 104, 105, 106, 107, 67, 68, 21, 69, 48, 49, 50, 51, 28, 52, 53, 108, 39, 40, 41, 42, 43, 44, 45, 46, 47, 54, 55, 56, 57, 109, 110, 111, 112, 409, 410, 411, 412, 413, 414, 415, 416, 417, 418, 426, 419, 420, 421, 422, 423, 424, 425] (by decide +kernel) (by decide +kernel)
set_option maxRecDepth 20000 in
theorem gL_hands_X5_missedMost : GoodIn wsL_hands (wsV RL 203 RX5 yX5_missedMost wsX5_missedMost) := goodIn_app (goodIn_of _ (by decide +kernel)) ggL_hands_X5_missedMost
set_option maxRecDepth 20000 in
theorem ggL_hands_X5_match : GoodIn wsL_hands wsX5_match := goodIn_r _ [116, 117, 15, 118, 119, 120, 121, 122, 123, 124, 125, 126, 127, 128, 21, 129, 23, 28, 130, 131, 132, 133, 134, 135, 136, 137, 138, 139, 140, 141, 142, 143, 144, 145, 146, 147, 148, 149, 150, 151, 152, 153, 154, 155, 156, 157, 158, 159, 160, 161, 162, 29, 66, 67, 68, 69, 48, 49, 50, 51, 52, 53, 38, 39, 40, 41, 42, 43, 44, 45, 46, 47, 54, 55, 56, 57, 30, 31, 32, 33, 163, 164, 165, 166, 167, 409, 410, 411, 412, 413, 414, 415, 427, 428, 429, 416, 417, 418, 419, 420, 421, 422, 423, 424, 425] (by decide +kernel) (by decide +kernel)
set_option maxRecDepth 20000 in
theorem gL_hands_X5_match : GoodIn wsL_hands (wsV RL 206 RX5 yX5_match wsX5_match) := goodIn_app (goodIn_of _ (by decide +kernel)) ggL_hands_X5_match
set_option maxRecDepth 20000 in
theorem ggL_hands_L_tryUndo : GoodIn wsL_hands wsL_tryUndo := goodIn_ca (goodIn_r _ [170, 171, 1, 172, 173, 174, 11, 175, 176, 177, 117, 178, 15, 179, 180, 181, 121, 182, 123, 125, 124, 126, 127, 128, 21, 129, 23, 28, 130, 131, 132, 133, 134, 135, 136, 137, 138, 139, 140, 141, 142, 143, 144, 145, 146, 409, 410, 411, 412, 413, 414, 415, 427, 428, 429, 416, 417, 418, 419, 420, 421, 422, 423, 424, 425] (by decide +kernel) (by decide +kernel)) (goodIn_sub (fun _ h => List.mem_cons_of_mem _ (List.mem_append_left _ (List.mem_append_right _ h))) (by decide +kernel))
set_option maxRecDepth 20000 in
theorem gL_hands_L_tryUndo : GoodIn wsL_hands (va_wsS RL 133 yL_tryUndo wsL_tryUndo) := goodIn_app (goodIn_of _ (by decide +kernel)) ggL_hands_L_tryUndo
