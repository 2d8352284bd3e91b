theorem dL_hands_0 : decode cL_hands 0 = .ok (.aload_n 0, 1) := by decide +kernel
theorem dL_hands_1 : decode cL_hands 1 = .ok (.iconst 0, 1) := by decide +kernel
theorem dL_hands_2 : decode cL_hands 2 = .ok (.invokestatic 126, 3) := by decide +kernel
theorem dL_hands_5 : decode cL_hands 5 = .ok (.istore_n 2, 1) := by decide +kernel
theorem dL_hands_6 : decode cL_hands 6 = .ok (.aload_n 0, 1) := by decide +kernel
theorem dL_hands_7 : decode cL_hands 7 = .ok (.iconst 2, 1) := by decide +kernel
theorem dL_hands_8 : decode cL_hands 8 = .ok (.invokestatic 126, 3) := by decide +kernel
theorem dL_hands_11 : decode cL_hands 11 = .ok (.istore_n 3, 1) := by decide +kernel
theorem dL_hands_12 : decode cL_hands 12 = .ok (.iload_n 2, 1) := by decide +kernel
theorem dL_hands_13 : decode cL_hands 13 = .ok (.ifCond .ne 33, 3) := by decide +kernel
theorem dL_hands_16 : decode cL_hands 16 = .ok (.aload_n 0, 1) := by decide +kernel
theorem dL_hands_17 : decode cL_hands 17 = .ok (.invokevirtual 203, 3) := by decide +kernel
theorem dL_hands_20 : decode cL_hands 20 = .ok (.sipush (-9999), 3) := by decide +kernel
theorem dL_hands_23 : decode cL_hands 23 = .ok (.if_icmp .ne 21, 3) := by decide +kernel
theorem dL_hands_26 : decode cL_hands 26 = .ok (.aload_n 0, 1) := by decide +kernel
theorem dL_hands_27 : decode cL_hands 27 = .ok (.invokevirtual 206, 3) := by decide +kernel
theorem dL_hands_30 : decode cL_hands 30 = .ok (.ifCond .ne 14, 3) := by decide +kernel
theorem dL_hands_33 : decode cL_hands 33 = .ok (.aload_n 0, 1) := by decide +kernel
theorem dL_hands_34 : decode cL_hands 34 = .ok (.invokestatic 133, 3) := by decide +kernel
theorem dL_hands_37 : decode cL_hands 37 = .ok (.ifCond .ne 7, 3) := by decide +kernel
theorem dL_hands_40 : decode cL_hands 40 = .ok (.iconst 1, 1) := by decide +kernel
theorem dL_hands_41 : decode cL_hands 41 = .ok (.goto 4, 3) := by decide +kernel
theorem dL_hands_44 : decode cL_hands 44 = .ok (.iconst 0, 1) := by decide +kernel
theorem dL_hands_45 : decode cL_hands 45 = .ok (.ireturn, 1) := by decide +kernel
theorem dL_hands_46 : decode cL_hands 46 = .ok (.iload_n 1, 1) := by decide +kernel
theorem dL_hands_47 : decode cL_hands 47 = .ok (.iload_n 2, 1) := by decide +kernel
theorem dL_hands_48 : decode cL_hands 48 = .ok (.irem, 1) := by decide +kernel
theorem dL_hands_49 : decode cL_hands 49 = .ok (.istore 4, 2) := by decide +kernel
theorem dL_hands_51 : decode cL_hands 51 = .ok (.aload_n 0, 1) := by decide +kernel
theorem dL_hands_52 : decode cL_hands 52 = .ok (.iconst 1, 1) := by decide +kernel
theorem dL_hands_53 : decode cL_hands 53 = .ok (.invokestatic 126, 3) := by decide +kernel
theorem dL_hands_56 : decode cL_hands 56 = .ok (.istore 5, 2) := by decide +kernel
theorem dL_hands_58 : decode cL_hands 58 = .ok (.aload_n 0, 1) := by decide +kernel
theorem dL_hands_59 : decode cL_hands 59 = .ok (.iconst 0, 1) := by decide +kernel
theorem dL_hands_60 : decode cL_hands 60 = .ok (.invokestatic 197, 3) := by decide +kernel
theorem dL_hands_63 : decode cL_hands 63 = .ok (.iload_n 3, 1) := by decide +kernel
theorem dL_hands_64 : decode cL_hands 64 = .ok (.if_icmp .ne 7, 3) := by decide +kernel
theorem dL_hands_67 : decode cL_hands 67 = .ok (.iconst 1, 1) := by decide +kernel
theorem dL_hands_68 : decode cL_hands 68 = .ok (.goto 4, 3) := by decide +kernel
theorem dL_hands_71 : decode cL_hands 71 = .ok (.iconst 0, 1) := by decide +kernel
theorem dL_hands_72 : decode cL_hands 72 = .ok (.istore 6, 2) := by decide +kernel
theorem dL_hands_74 : decode cL_hands 74 = .ok (.aload_n 0, 1) := by decide +kernel
theorem dL_hands_75 : decode cL_hands 75 = .ok (.invokevirtual 206, 3) := by decide +kernel
theorem dL_hands_78 : decode cL_hands 78 = .ok (.istore 7, 2) := by decide +kernel
theorem dL_hands_80 : decode cL_hands 80 = .ok (.iload 6, 2) := by decide +kernel
theorem dL_hands_82 : decode cL_hands 82 = .ok (.ifCond .eq 32, 3) := by decide +kernel
theorem dL_hands_85 : decode cL_hands 85 = .ok (.iload 7, 2) := by decide +kernel
theorem dL_hands_87 : decode cL_hands 87 = .ok (.ifCond .lt 27, 3) := by decide +kernel
theorem dL_hands_90 : decode cL_hands 90 = .ok (.aload_n 0, 1) := by decide +kernel
theorem dL_hands_91 : decode cL_hands 91 = .ok (.iconst 1, 1) := by decide +kernel
theorem dL_hands_92 : decode cL_hands 92 = .ok (.invokestatic 126, 3) := by decide +kernel
theorem dL_hands_95 : decode cL_hands 95 = .ok (.iload 5, 2) := by decide +kernel
theorem dL_hands_97 : decode cL_hands 97 = .ok (.iload 7, 2) := by decide +kernel
theorem dL_hands_99 : decode cL_hands 99 = .ok (.iadd, 1) := by decide +kernel
theorem dL_hands_100 : decode cL_hands 100 = .ok (.if_icmp .ne 14, 3) := by decide +kernel
theorem dL_hands_103 : decode cL_hands 103 = .ok (.aload_n 0, 1) := by decide +kernel
theorem dL_hands_104 : decode cL_hands 104 = .ok (.invokestatic 209, 3) := by decide +kernel
theorem dL_hands_107 : decode cL_hands 107 = .ok (.ifCond .eq 7, 3) := by decide +kernel
theorem dL_hands_110 : decode cL_hands 110 = .ok (.iconst 1, 1) := by decide +kernel
theorem dL_hands_111 : decode cL_hands 111 = .ok (.goto 4, 3) := by decide +kernel
theorem dL_hands_114 : decode cL_hands 114 = .ok (.iconst 0, 1) := by decide +kernel
theorem dL_hands_115 : decode cL_hands 115 = .ok (.istore 6, 2) := by decide +kernel
theorem dL_hands_117 : decode cL_hands 117 = .ok (.iconst 0, 1) := by decide +kernel
theorem dL_hands_118 : decode cL_hands 118 = .ok (.istore 8, 2) := by decide +kernel
theorem dL_hands_120 : decode cL_hands 120 = .ok (.iload 8, 2) := by decide +kernel
theorem dL_hands_122 : decode cL_hands 122 = .ok (.iload_n 2, 1) := by decide +kernel
theorem dL_hands_123 : decode cL_hands 123 = .ok (.if_icmp .ge 82, 3) := by decide +kernel
theorem dL_hands_126 : decode cL_hands 126 = .ok (.iload 6, 2) := by decide +kernel
theorem dL_hands_128 : decode cL_hands 128 = .ok (.ifCond .eq 77, 3) := by decide +kernel
theorem dL_hands_131 : decode cL_hands 131 = .ok (.iconst 0, 1) := by decide +kernel
theorem dL_hands_132 : decode cL_hands 132 = .ok (.istore 9, 2) := by decide +kernel
theorem dL_hands_134 : decode cL_hands 134 = .ok (.iload 9, 2) := by decide +kernel
theorem dL_hands_136 : decode cL_hands 136 = .ok (.iload 8, 2) := by decide +kernel
theorem dL_hands_138 : decode cL_hands 138 = .ok (.if_icmp .ge 61, 3) := by decide +kernel
theorem dL_hands_141 : decode cL_hands 141 = .ok (.iload 6, 2) := by decide +kernel
theorem dL_hands_143 : decode cL_hands 143 = .ok (.ifCond .eq 56, 3) := by decide +kernel
theorem dL_hands_146 : decode cL_hands 146 = .ok (.aload_n 0, 1) := by decide +kernel
theorem dL_hands_147 : decode cL_hands 147 = .ok (.iload 8, 2) := by decide +kernel
theorem dL_hands_149 : decode cL_hands 149 = .ok (.bipush 8, 2) := by decide +kernel
theorem dL_hands_151 : decode cL_hands 151 = .ok (.invokestatic 129, 3) := by decide +kernel
theorem dL_hands_154 : decode cL_hands 154 = .ok (.sipush (-9999), 3) := by decide +kernel
theorem dL_hands_157 : decode cL_hands 157 = .ok (.if_icmp .ne 29, 3) := by decide +kernel
theorem dL_hands_160 : decode cL_hands 160 = .ok (.aload_n 0, 1) := by decide +kernel
theorem dL_hands_161 : decode cL_hands 161 = .ok (.iload 9, 2) := by decide +kernel
theorem dL_hands_163 : decode cL_hands 163 = .ok (.bipush 8, 2) := by decide +kernel
theorem dL_hands_165 : decode cL_hands 165 = .ok (.invokestatic 129, 3) := by decide +kernel
theorem dL_hands_168 : decode cL_hands 168 = .ok (.sipush (-9999), 3) := by decide +kernel
theorem dL_hands_171 : decode cL_hands 171 = .ok (.if_icmp .ne 15, 3) := by decide +kernel
theorem dL_hands_174 : decode cL_hands 174 = .ok (.aload_n 0, 1) := by decide +kernel
theorem dL_hands_175 : decode cL_hands 175 = .ok (.iload 8, 2) := by decide +kernel
theorem dL_hands_177 : decode cL_hands 177 = .ok (.iload 9, 2) := by decide +kernel
theorem dL_hands_179 : decode cL_hands 179 = .ok (.iconst 2, 1) := by decide +kernel
theorem dL_hands_180 : decode cL_hands 180 = .ok (.invokestatic 139, 3) := by decide +kernel
theorem dL_hands_183 : decode cL_hands 183 = .ok (.ifCond .ne 7, 3) := by decide +kernel
theorem dL_hands_186 : decode cL_hands 186 = .ok (.iconst 1, 1) := by decide +kernel
theorem dL_hands_187 : decode cL_hands 187 = .ok (.goto 4, 3) := by decide +kernel
theorem dL_hands_190 : decode cL_hands 190 = .ok (.iconst 0, 1) := by decide +kernel
theorem dL_hands_191 : decode cL_hands 191 = .ok (.istore 6, 2) := by decide +kernel
theorem dL_hands_193 : decode cL_hands 193 = .ok (.iinc 9 1, 3) := by decide +kernel
theorem dL_hands_196 : decode cL_hands 196 = .ok (.goto (-62), 3) := by decide +kernel
theorem dL_hands_199 : decode cL_hands 199 = .ok (.iinc 8 1, 3) := by decide +kernel
theorem dL_hands_202 : decode cL_hands 202 = .ok (.goto (-82), 3) := by decide +kernel
theorem dL_hands_205 : decode cL_hands 205 = .ok (.iload 6, 2) := by decide +kernel
theorem dL_hands_207 : decode cL_hands 207 = .ok (.ifCond .eq 23, 3) := by decide +kernel
theorem dL_hands_210 : decode cL_hands 210 = .ok (.aload_n 0, 1) := by decide +kernel
theorem dL_hands_211 : decode cL_hands 211 = .ok (.invokevirtual 206, 3) := by decide +kernel
theorem dL_hands_214 : decode cL_hands 214 = .ok (.ifCond .ne 16, 3) := by decide +kernel
theorem dL_hands_217 : decode cL_hands 217 = .ok (.aload_n 0, 1) := by decide +kernel
theorem dL_hands_218 : decode cL_hands 218 = .ok (.iconst 0, 1) := by decide +kernel
theorem dL_hands_219 : decode cL_hands 219 = .ok (.invokestatic 136, 3) := by decide +kernel
theorem dL_hands_222 : decode cL_hands 222 = .ok (.iload_n 3, 1) := by decide +kernel
theorem dL_hands_223 : decode cL_hands 223 = .ok (.if_icmp .ne 7, 3) := by decide +kernel
theorem dL_hands_226 : decode cL_hands 226 = .ok (.iconst 1, 1) := by decide +kernel
theorem dL_hands_227 : decode cL_hands 227 = .ok (.goto 4, 3) := by decide +kernel
theorem dL_hands_230 : decode cL_hands 230 = .ok (.iconst 0, 1) := by decide +kernel
theorem dL_hands_231 : decode cL_hands 231 = .ok (.istore 6, 2) := by decide +kernel
theorem dL_hands_233 : decode cL_hands 233 = .ok (.iconst 1, 1) := by decide +kernel
theorem dL_hands_234 : decode cL_hands 234 = .ok (.iload_n 1, 1) := by decide +kernel
theorem dL_hands_235 : decode cL_hands 235 = .ok (.bipush 16, 2) := by decide +kernel
theorem dL_hands_237 : decode cL_hands 237 = .ok (.idiv, 1) := by decide +kernel
theorem dL_hands_238 : decode cL_hands 238 = .ok (.bipush 20, 2) := by decide +kernel
theorem dL_hands_240 : decode cL_hands 240 = .ok (.irem, 1) := by decide +kernel
theorem dL_hands_241 : decode cL_hands 241 = .ok (.iadd, 1) := by decide +kernel
theorem dL_hands_242 : decode cL_hands 242 = .ok (.istore 8, 2) := by decide +kernel
theorem dL_hands_244 : decode cL_hands 244 = .ok (.aload_n 0, 1) := by decide +kernel
theorem dL_hands_245 : decode cL_hands 245 = .ok (.iload 8, 2) := by decide +kernel
theorem dL_hands_247 : decode cL_hands 247 = .ok (.invokestatic 164, 3) := by decide +kernel
theorem dL_hands_250 : decode cL_hands 250 = .ok (.istore 9, 2) := by decide +kernel
theorem dL_hands_252 : decode cL_hands 252 = .ok (.iload 6, 2) := by decide +kernel
theorem dL_hands_254 : decode cL_hands 254 = .ok (.ifCond .eq 66, 3) := by decide +kernel
theorem dL_hands_257 : decode cL_hands 257 = .ok (.iload 9, 2) := by decide +kernel
theorem dL_hands_259 : decode cL_hands 259 = .ok (.ifCond .lt 61, 3) := by decide +kernel
theorem dL_hands_262 : decode cL_hands 262 = .ok (.iload 9, 2) := by decide +kernel
theorem dL_hands_264 : decode cL_hands 264 = .ok (.iload 8, 2) := by decide +kernel
theorem dL_hands_266 : decode cL_hands 266 = .ok (.if_icmp .gt 54, 3) := by decide +kernel
theorem dL_hands_269 : decode cL_hands 269 = .ok (.iload 9, 2) := by decide +kernel
theorem dL_hands_271 : decode cL_hands 271 = .ok (.iload 8, 2) := by decide +kernel
theorem dL_hands_273 : decode cL_hands 273 = .ok (.if_icmp .eq 11, 3) := by decide +kernel
theorem dL_hands_276 : decode cL_hands 276 = .ok (.aload_n 0, 1) := by decide +kernel
theorem dL_hands_277 : decode cL_hands 277 = .ok (.iconst 4, 1) := by decide +kernel
theorem dL_hands_278 : decode cL_hands 278 = .ok (.invokestatic 126, 3) := by decide +kernel
theorem dL_hands_281 : decode cL_hands 281 = .ok (.ifCond .ne 39, 3) := by decide +kernel
theorem dL_hands_284 : decode cL_hands 284 = .ok (.aload_n 0, 1) := by decide +kernel
theorem dL_hands_285 : decode cL_hands 285 = .ok (.iconst 4, 1) := by decide +kernel
theorem dL_hands_286 : decode cL_hands 286 = .ok (.invokestatic 126, 3) := by decide +kernel
theorem dL_hands_289 : decode cL_hands 289 = .ok (.ifCond .gt 11, 3) := by decide +kernel
theorem dL_hands_292 : decode cL_hands 292 = .ok (.aload_n 0, 1) := by decide +kernel
theorem dL_hands_293 : decode cL_hands 293 = .ok (.iconst 1, 1) := by decide +kernel
theorem dL_hands_294 : decode cL_hands 294 = .ok (.invokestatic 164, 3) := by decide +kernel
theorem dL_hands_297 : decode cL_hands 297 = .ok (.ifCond .ne 23, 3) := by decide +kernel
theorem dL_hands_300 : decode cL_hands 300 = .ok (.aload_n 0, 1) := by decide +kernel
theorem dL_hands_301 : decode cL_hands 301 = .ok (.invokestatic 209, 3) := by decide +kernel
theorem dL_hands_304 : decode cL_hands 304 = .ok (.ifCond .eq 16, 3) := by decide +kernel
theorem dL_hands_307 : decode cL_hands 307 = .ok (.aload_n 0, 1) := by decide +kernel
theorem dL_hands_308 : decode cL_hands 308 = .ok (.iconst 0, 1) := by decide +kernel
theorem dL_hands_309 : decode cL_hands 309 = .ok (.invokestatic 136, 3) := by decide +kernel
theorem dL_hands_312 : decode cL_hands 312 = .ok (.iload_n 3, 1) := by decide +kernel
theorem dL_hands_313 : decode cL_hands 313 = .ok (.if_icmp .ne 7, 3) := by decide +kernel
theorem dL_hands_316 : decode cL_hands 316 = .ok (.iconst 1, 1) := by decide +kernel
theorem dL_hands_317 : decode cL_hands 317 = .ok (.goto 4, 3) := by decide +kernel
theorem dL_hands_320 : decode cL_hands 320 = .ok (.iconst 0, 1) := by decide +kernel
theorem dL_hands_321 : decode cL_hands 321 = .ok (.istore 6, 2) := by decide +kernel
theorem dL_hands_323 : decode cL_hands 323 = .ok (.aload_n 0, 1) := by decide +kernel
theorem dL_hands_324 : decode cL_hands 324 = .ok (.iconst 0, 1) := by decide +kernel
theorem dL_hands_325 : decode cL_hands 325 = .ok (.invokestatic 177, 3) := by decide +kernel
theorem dL_hands_328 : decode cL_hands 328 = .ok (.istore 10, 2) := by decide +kernel
theorem dL_hands_330 : decode cL_hands 330 = .ok (.aload_n 0, 1) := by decide +kernel
theorem dL_hands_331 : decode cL_hands 331 = .ok (.iconst 1, 1) := by decide +kernel
theorem dL_hands_332 : decode cL_hands 332 = .ok (.invokestatic 177, 3) := by decide +kernel
theorem dL_hands_335 : decode cL_hands 335 = .ok (.istore 11, 2) := by decide +kernel
theorem dL_hands_337 : decode cL_hands 337 = .ok (.aload_n 0, 1) := by decide +kernel
theorem dL_hands_338 : decode cL_hands 338 = .ok (.invokevirtual 203, 3) := by decide +kernel
theorem dL_hands_341 : decode cL_hands 341 = .ok (.istore 12, 2) := by decide +kernel
theorem dL_hands_343 : decode cL_hands 343 = .ok (.aload_n 0, 1) := by decide +kernel
theorem dL_hands_344 : decode cL_hands 344 = .ok (.iconst 5, 1) := by decide +kernel
theorem dL_hands_345 : decode cL_hands 345 = .ok (.invokestatic 126, 3) := by decide +kernel
theorem dL_hands_348 : decode cL_hands 348 = .ok (.istore 13, 2) := by decide +kernel
theorem dL_hands_350 : decode cL_hands 350 = .ok (.aload_n 0, 1) := by decide +kernel
theorem dL_hands_351 : decode cL_hands 351 = .ok (.iload 4, 2) := by decide +kernel
theorem dL_hands_353 : decode cL_hands 353 = .ok (.bipush 6, 2) := by decide +kernel
theorem dL_hands_355 : decode cL_hands 355 = .ok (.invokestatic 129, 3) := by decide +kernel
theorem dL_hands_358 : decode cL_hands 358 = .ok (.istore 14, 2) := by decide +kernel
theorem dL_hands_360 : decode cL_hands 360 = .ok (.iload 6, 2) := by decide +kernel
theorem dL_hands_362 : decode cL_hands 362 = .ok (.ifCond .eq 91, 3) := by decide +kernel
theorem dL_hands_365 : decode cL_hands 365 = .ok (.aload_n 0, 1) := by decide +kernel
theorem dL_hands_366 : decode cL_hands 366 = .ok (.iload 4, 2) := by decide +kernel
theorem dL_hands_368 : decode cL_hands 368 = .ok (.invokestatic 146, 3) := by decide +kernel
theorem dL_hands_371 : decode cL_hands 371 = .ok (.iload 14, 2) := by decide +kernel
theorem dL_hands_373 : decode cL_hands 373 = .ok (.if_icmp .ne 80, 3) := by decide +kernel
theorem dL_hands_376 : decode cL_hands 376 = .ok (.aload_n 0, 1) := by decide +kernel
theorem dL_hands_377 : decode cL_hands 377 = .ok (.iconst 0, 1) := by decide +kernel
theorem dL_hands_378 : decode cL_hands 378 = .ok (.invokestatic 126, 3) := by decide +kernel
theorem dL_hands_381 : decode cL_hands 381 = .ok (.iload_n 2, 1) := by decide +kernel
theorem dL_hands_382 : decode cL_hands 382 = .ok (.iconst 1, 1) := by decide +kernel
theorem dL_hands_383 : decode cL_hands 383 = .ok (.isub, 1) := by decide +kernel
theorem dL_hands_384 : decode cL_hands 384 = .ok (.if_icmp .ne 69, 3) := by decide +kernel
theorem dL_hands_387 : decode cL_hands 387 = .ok (.aload_n 0, 1) := by decide +kernel
theorem dL_hands_388 : decode cL_hands 388 = .ok (.iconst 5, 1) := by decide +kernel
theorem dL_hands_389 : decode cL_hands 389 = .ok (.invokestatic 126, 3) := by decide +kernel
theorem dL_hands_392 : decode cL_hands 392 = .ok (.iload 13, 2) := by decide +kernel
theorem dL_hands_394 : decode cL_hands 394 = .ok (.iload 14, 2) := by decide +kernel
theorem dL_hands_396 : decode cL_hands 396 = .ok (.isub, 1) := by decide +kernel
theorem dL_hands_397 : decode cL_hands 397 = .ok (.if_icmp .ne 56, 3) := by decide +kernel
theorem dL_hands_400 : decode cL_hands 400 = .ok (.aload_n 0, 1) := by decide +kernel
theorem dL_hands_401 : decode cL_hands 401 = .ok (.iconst 0, 1) := by decide +kernel
theorem dL_hands_402 : decode cL_hands 402 = .ok (.invokestatic 177, 3) := by decide +kernel
theorem dL_hands_405 : decode cL_hands 405 = .ok (.iload 10, 2) := by decide +kernel
theorem dL_hands_407 : decode cL_hands 407 = .ok (.if_icmp .gt 46, 3) := by decide +kernel
theorem dL_hands_410 : decode cL_hands 410 = .ok (.aload_n 0, 1) := by decide +kernel
theorem dL_hands_411 : decode cL_hands 411 = .ok (.iconst 0, 1) := by decide +kernel
theorem dL_hands_412 : decode cL_hands 412 = .ok (.invokestatic 177, 3) := by decide +kernel
theorem dL_hands_415 : decode cL_hands 415 = .ok (.iload 10, 2) := by decide +kernel
theorem dL_hands_417 : decode cL_hands 417 = .ok (.iconst 1, 1) := by decide +kernel
theorem dL_hands_418 : decode cL_hands 418 = .ok (.isub, 1) := by decide +kernel
theorem dL_hands_419 : decode cL_hands 419 = .ok (.if_icmp .lt 34, 3) := by decide +kernel
theorem dL_hands_422 : decode cL_hands 422 = .ok (.aload_n 0, 1) := by decide +kernel
theorem dL_hands_423 : decode cL_hands 423 = .ok (.iconst 0, 1) := by decide +kernel
theorem dL_hands_424 : decode cL_hands 424 = .ok (.invokestatic 177, 3) := by decide +kernel
theorem dL_hands_427 : decode cL_hands 427 = .ok (.iload 10, 2) := by decide +kernel
theorem dL_hands_429 : decode cL_hands 429 = .ok (.if_icmp .lt 13, 3) := by decide +kernel
theorem dL_hands_432 : decode cL_hands 432 = .ok (.aload_n 0, 1) := by decide +kernel
theorem dL_hands_433 : decode cL_hands 433 = .ok (.iconst 1, 1) := by decide +kernel
theorem dL_hands_434 : decode cL_hands 434 = .ok (.invokestatic 177, 3) := by decide +kernel
theorem dL_hands_437 : decode cL_hands 437 = .ok (.iload 11, 2) := by decide +kernel
theorem dL_hands_439 : decode cL_hands 439 = .ok (.if_icmp .gt 14, 3) := by decide +kernel
theorem dL_hands_442 : decode cL_hands 442 = .ok (.aload_n 0, 1) := by decide +kernel
theorem dL_hands_443 : decode cL_hands 443 = .ok (.invokestatic 209, 3) := by decide +kernel
theorem dL_hands_446 : decode cL_hands 446 = .ok (.ifCond .eq 7, 3) := by decide +kernel
theorem dL_hands_449 : decode cL_hands 449 = .ok (.iconst 1, 1) := by decide +kernel
theorem dL_hands_450 : decode cL_hands 450 = .ok (.goto 4, 3) := by decide +kernel
theorem dL_hands_453 : decode cL_hands 453 = .ok (.iconst 0, 1) := by decide +kernel
theorem dL_hands_454 : decode cL_hands 454 = .ok (.istore 6, 2) := by decide +kernel
theorem dL_hands_456 : decode cL_hands 456 = .ok (.aload_n 0, 1) := by decide +kernel
theorem dL_hands_457 : decode cL_hands 457 = .ok (.iconst 0, 1) := by decide +kernel
theorem dL_hands_458 : decode cL_hands 458 = .ok (.invokestatic 177, 3) := by decide +kernel
theorem dL_hands_461 : decode cL_hands 461 = .ok (.istore 15, 2) := by decide +kernel
theorem dL_hands_463 : decode cL_hands 463 = .ok (.aload_n 0, 1) := by decide +kernel
theorem dL_hands_464 : decode cL_hands 464 = .ok (.iconst 1, 1) := by decide +kernel
theorem dL_hands_465 : decode cL_hands 465 = .ok (.invokestatic 177, 3) := by decide +kernel
theorem dL_hands_468 : decode cL_hands 468 = .ok (.istore 16, 2) := by decide +kernel
theorem dL_hands_470 : decode cL_hands 470 = .ok (.iload 6, 2) := by decide +kernel
theorem dL_hands_472 : decode cL_hands 472 = .ok (.ifCond .eq 66, 3) := by decide +kernel
theorem dL_hands_475 : decode cL_hands 475 = .ok (.aload_n 0, 1) := by decide +kernel
theorem dL_hands_476 : decode cL_hands 476 = .ok (.iconst 0, 1) := by decide +kernel
theorem dL_hands_477 : decode cL_hands 477 = .ok (.invokestatic 136, 3) := by decide +kernel
theorem dL_hands_480 : decode cL_hands 480 = .ok (.iload_n 3, 1) := by decide +kernel
theorem dL_hands_481 : decode cL_hands 481 = .ok (.if_icmp .ne 57, 3) := by decide +kernel
theorem dL_hands_484 : decode cL_hands 484 = .ok (.aload_n 0, 1) := by decide +kernel
theorem dL_hands_485 : decode cL_hands 485 = .ok (.iload 12, 2) := by decide +kernel
theorem dL_hands_487 : decode cL_hands 487 = .ok (.invokestatic 146, 3) := by decide +kernel
theorem dL_hands_490 : decode cL_hands 490 = .ok (.ldc 18, 2) := by decide +kernel
theorem dL_hands_492 : decode cL_hands 492 = .ok (.if_icmp .le 46, 3) := by decide +kernel
theorem dL_hands_495 : decode cL_hands 495 = .ok (.aload_n 0, 1) := by decide +kernel
theorem dL_hands_496 : decode cL_hands 496 = .ok (.iconst 0, 1) := by decide +kernel
theorem dL_hands_497 : decode cL_hands 497 = .ok (.invokestatic 177, 3) := by decide +kernel
theorem dL_hands_500 : decode cL_hands 500 = .ok (.iload 15, 2) := by decide +kernel
theorem dL_hands_502 : decode cL_hands 502 = .ok (.if_icmp .lt 23, 3) := by decide +kernel
theorem dL_hands_505 : decode cL_hands 505 = .ok (.aload_n 0, 1) := by decide +kernel
theorem dL_hands_506 : decode cL_hands 506 = .ok (.iconst 0, 1) := by decide +kernel
theorem dL_hands_507 : decode cL_hands 507 = .ok (.invokestatic 177, 3) := by decide +kernel
theorem dL_hands_510 : decode cL_hands 510 = .ok (.iload 15, 2) := by decide +kernel
theorem dL_hands_512 : decode cL_hands 512 = .ok (.if_icmp .ne 26, 3) := by decide +kernel
theorem dL_hands_515 : decode cL_hands 515 = .ok (.aload_n 0, 1) := by decide +kernel
theorem dL_hands_516 : decode cL_hands 516 = .ok (.iconst 1, 1) := by decide +kernel
theorem dL_hands_517 : decode cL_hands 517 = .ok (.invokestatic 177, 3) := by decide +kernel
theorem dL_hands_520 : decode cL_hands 520 = .ok (.iload 16, 2) := by decide +kernel
theorem dL_hands_522 : decode cL_hands 522 = .ok (.if_icmp .gt 16, 3) := by decide +kernel
theorem dL_hands_525 : decode cL_hands 525 = .ok (.aload_n 0, 1) := by decide +kernel
theorem dL_hands_526 : decode cL_hands 526 = .ok (.iconst 0, 1) := by decide +kernel
theorem dL_hands_527 : decode cL_hands 527 = .ok (.invokestatic 136, 3) := by decide +kernel
theorem dL_hands_530 : decode cL_hands 530 = .ok (.iload_n 3, 1) := by decide +kernel
theorem dL_hands_531 : decode cL_hands 531 = .ok (.if_icmp .ne 7, 3) := by decide +kernel
theorem dL_hands_534 : decode cL_hands 534 = .ok (.iconst 1, 1) := by decide +kernel
theorem dL_hands_535 : decode cL_hands 535 = .ok (.goto 4, 3) := by decide +kernel
theorem dL_hands_538 : decode cL_hands 538 = .ok (.iconst 0, 1) := by decide +kernel
theorem dL_hands_539 : decode cL_hands 539 = .ok (.istore 6, 2) := by decide +kernel
theorem dL_hands_541 : decode cL_hands 541 = .ok (.aload_n 0, 1) := by decide +kernel
theorem dL_hands_542 : decode cL_hands 542 = .ok (.iload 4, 2) := by decide +kernel
theorem dL_hands_544 : decode cL_hands 544 = .ok (.iconst 0, 1) := by decide +kernel
theorem dL_hands_545 : decode cL_hands 545 = .ok (.invokestatic 174, 3) := by decide +kernel
theorem dL_hands_548 : decode cL_hands 548 = .ok (.istore 17, 2) := by decide +kernel
theorem dL_hands_550 : decode cL_hands 550 = .ok (.aload_n 0, 1) := by decide +kernel
theorem dL_hands_551 : decode cL_hands 551 = .ok (.iload 4, 2) := by decide +kernel
theorem dL_hands_553 : decode cL_hands 553 = .ok (.iconst 1, 1) := by decide +kernel
theorem dL_hands_554 : decode cL_hands 554 = .ok (.invokestatic 174, 3) := by decide +kernel
theorem dL_hands_557 : decode cL_hands 557 = .ok (.istore 18, 2) := by decide +kernel
theorem dL_hands_559 : decode cL_hands 559 = .ok (.iload 6, 2) := by decide +kernel
theorem dL_hands_561 : decode cL_hands 561 = .ok (.ifCond .eq 90, 3) := by decide +kernel
theorem dL_hands_564 : decode cL_hands 564 = .ok (.iload 17, 2) := by decide +kernel
theorem dL_hands_566 : decode cL_hands 566 = .ok (.sipush (-9999), 3) := by decide +kernel
theorem dL_hands_569 : decode cL_hands 569 = .ok (.if_icmp .ne 7, 3) := by decide +kernel
theorem dL_hands_572 : decode cL_hands 572 = .ok (.iconst 1, 1) := by decide +kernel
theorem dL_hands_573 : decode cL_hands 573 = .ok (.goto 4, 3) := by decide +kernel
theorem dL_hands_576 : decode cL_hands 576 = .ok (.iconst 0, 1) := by decide +kernel
theorem dL_hands_577 : decode cL_hands 577 = .ok (.aload_n 0, 1) := by decide +kernel
theorem dL_hands_578 : decode cL_hands 578 = .ok (.iload 4, 2) := by decide +kernel
theorem dL_hands_580 : decode cL_hands 580 = .ok (.bipush 10, 2) := by decide +kernel
theorem dL_hands_582 : decode cL_hands 582 = .ok (.invokestatic 129, 3) := by decide +kernel
theorem dL_hands_585 : decode cL_hands 585 = .ok (.ifCond .ne 7, 3) := by decide +kernel
theorem dL_hands_588 : decode cL_hands 588 = .ok (.iconst 1, 1) := by decide +kernel
theorem dL_hands_589 : decode cL_hands 589 = .ok (.goto 4, 3) := by decide +kernel
theorem dL_hands_592 : decode cL_hands 592 = .ok (.iconst 0, 1) := by decide +kernel
theorem dL_hands_593 : decode cL_hands 593 = .ok (.if_icmp .ne 58, 3) := by decide +kernel
theorem dL_hands_596 : decode cL_hands 596 = .ok (.iload 18, 2) := by decide +kernel
theorem dL_hands_598 : decode cL_hands 598 = .ok (.sipush (-9999), 3) := by decide +kernel
theorem dL_hands_601 : decode cL_hands 601 = .ok (.if_icmp .eq 46, 3) := by decide +kernel
theorem dL_hands_604 : decode cL_hands 604 = .ok (.iload 17, 2) := by decide +kernel
theorem dL_hands_606 : decode cL_hands 606 = .ok (.sipush (-9999), 3) := by decide +kernel
theorem dL_hands_609 : decode cL_hands 609 = .ok (.if_icmp .eq 42, 3) := by decide +kernel
theorem dL_hands_612 : decode cL_hands 612 = .ok (.aload_n 0, 1) := by decide +kernel
theorem dL_hands_613 : decode cL_hands 613 = .ok (.iload 18, 2) := by decide +kernel
theorem dL_hands_615 : decode cL_hands 615 = .ok (.bipush 8, 2) := by decide +kernel
theorem dL_hands_617 : decode cL_hands 617 = .ok (.invokestatic 129, 3) := by decide +kernel
theorem dL_hands_620 : decode cL_hands 620 = .ok (.sipush (-9999), 3) := by decide +kernel
theorem dL_hands_623 : decode cL_hands 623 = .ok (.if_icmp .ne 28, 3) := by decide +kernel
theorem dL_hands_626 : decode cL_hands 626 = .ok (.aload_n 0, 1) := by decide +kernel
theorem dL_hands_627 : decode cL_hands 627 = .ok (.iload 4, 2) := by decide +kernel
theorem dL_hands_629 : decode cL_hands 629 = .ok (.iload 18, 2) := by decide +kernel
theorem dL_hands_631 : decode cL_hands 631 = .ok (.iconst 0, 1) := by decide +kernel
theorem dL_hands_632 : decode cL_hands 632 = .ok (.invokestatic 139, 3) := by decide +kernel
theorem dL_hands_635 : decode cL_hands 635 = .ok (.aload_n 0, 1) := by decide +kernel
theorem dL_hands_636 : decode cL_hands 636 = .ok (.iload 4, 2) := by decide +kernel
theorem dL_hands_638 : decode cL_hands 638 = .ok (.iload 17, 2) := by decide +kernel
theorem dL_hands_640 : decode cL_hands 640 = .ok (.iconst 0, 1) := by decide +kernel
theorem dL_hands_641 : decode cL_hands 641 = .ok (.invokestatic 139, 3) := by decide +kernel
theorem dL_hands_644 : decode cL_hands 644 = .ok (.if_icmp .gt 7, 3) := by decide +kernel
theorem dL_hands_647 : decode cL_hands 647 = .ok (.iconst 1, 1) := by decide +kernel
theorem dL_hands_648 : decode cL_hands 648 = .ok (.goto 4, 3) := by decide +kernel
theorem dL_hands_651 : decode cL_hands 651 = .ok (.iconst 0, 1) := by decide +kernel
theorem dL_hands_652 : decode cL_hands 652 = .ok (.istore 6, 2) := by decide +kernel
theorem dL_hands_654 : decode cL_hands 654 = .ok (.iconst 0, 1) := by decide +kernel
theorem dL_hands_655 : decode cL_hands 655 = .ok (.istore 19, 2) := by decide +kernel
theorem dL_hands_657 : decode cL_hands 657 = .ok (.iload 19, 2) := by decide +kernel
theorem dL_hands_659 : decode cL_hands 659 = .ok (.iload_n 2, 1) := by decide +kernel
theorem dL_hands_660 : decode cL_hands 660 = .ok (.if_icmp .ge 102, 3) := by decide +kernel
theorem dL_hands_663 : decode cL_hands 663 = .ok (.iload 6, 2) := by decide +kernel
theorem dL_hands_665 : decode cL_hands 665 = .ok (.ifCond .eq 97, 3) := by decide +kernel
theorem dL_hands_668 : decode cL_hands 668 = .ok (.iload 19, 2) := by decide +kernel
theorem dL_hands_670 : decode cL_hands 670 = .ok (.iload 4, 2) := by decide +kernel
theorem dL_hands_672 : decode cL_hands 672 = .ok (.if_icmp .eq 20, 3) := by decide +kernel
theorem dL_hands_675 : decode cL_hands 675 = .ok (.aload_n 0, 1) := by decide +kernel
theorem dL_hands_676 : decode cL_hands 676 = .ok (.iload 4, 2) := by decide +kernel
theorem dL_hands_678 : decode cL_hands 678 = .ok (.iload 19, 2) := by decide +kernel
theorem dL_hands_680 : decode cL_hands 680 = .ok (.iconst 2, 1) := by decide +kernel
theorem dL_hands_681 : decode cL_hands 681 = .ok (.invokestatic 139, 3) := by decide +kernel
theorem dL_hands_684 : decode cL_hands 684 = .ok (.iconst 1, 1) := by decide +kernel
theorem dL_hands_685 : decode cL_hands 685 = .ok (.if_icmp .ne 7, 3) := by decide +kernel
theorem dL_hands_688 : decode cL_hands 688 = .ok (.iconst 1, 1) := by decide +kernel
theorem dL_hands_689 : decode cL_hands 689 = .ok (.goto 4, 3) := by decide +kernel
theorem dL_hands_692 : decode cL_hands 692 = .ok (.iconst 0, 1) := by decide +kernel
theorem dL_hands_693 : decode cL_hands 693 = .ok (.istore 20, 2) := by decide +kernel
theorem dL_hands_695 : decode cL_hands 695 = .ok (.iload 20, 2) := by decide +kernel
theorem dL_hands_697 : decode cL_hands 697 = .ok (.ifCond .eq 52, 3) := by decide +kernel
theorem dL_hands_700 : decode cL_hands 700 = .ok (.aload_n 0, 1) := by decide +kernel
theorem dL_hands_701 : decode cL_hands 701 = .ok (.iload 4, 2) := by decide +kernel
theorem dL_hands_703 : decode cL_hands 703 = .ok (.iload 19, 2) := by decide +kernel
theorem dL_hands_705 : decode cL_hands 705 = .ok (.iconst 0, 1) := by decide +kernel
theorem dL_hands_706 : decode cL_hands 706 = .ok (.invokestatic 139, 3) := by decide +kernel
theorem dL_hands_709 : decode cL_hands 709 = .ok (.aload_n 0, 1) := by decide +kernel
theorem dL_hands_710 : decode cL_hands 710 = .ok (.iload 4, 2) := by decide +kernel
theorem dL_hands_712 : decode cL_hands 712 = .ok (.iload 17, 2) := by decide +kernel
theorem dL_hands_714 : decode cL_hands 714 = .ok (.iconst 0, 1) := by decide +kernel
theorem dL_hands_715 : decode cL_hands 715 = .ok (.invokestatic 139, 3) := by decide +kernel
theorem dL_hands_718 : decode cL_hands 718 = .ok (.if_icmp .lt 31, 3) := by decide +kernel
theorem dL_hands_721 : decode cL_hands 721 = .ok (.aload_n 0, 1) := by decide +kernel
theorem dL_hands_722 : decode cL_hands 722 = .ok (.iload 4, 2) := by decide +kernel
theorem dL_hands_724 : decode cL_hands 724 = .ok (.iload 19, 2) := by decide +kernel
theorem dL_hands_726 : decode cL_hands 726 = .ok (.iconst 0, 1) := by decide +kernel
theorem dL_hands_727 : decode cL_hands 727 = .ok (.invokestatic 139, 3) := by decide +kernel
theorem dL_hands_730 : decode cL_hands 730 = .ok (.aload_n 0, 1) := by decide +kernel
theorem dL_hands_731 : decode cL_hands 731 = .ok (.iload 4, 2) := by decide +kernel
theorem dL_hands_733 : decode cL_hands 733 = .ok (.iload 17, 2) := by decide +kernel
theorem dL_hands_735 : decode cL_hands 735 = .ok (.iconst 0, 1) := by decide +kernel
theorem dL_hands_736 : decode cL_hands 736 = .ok (.invokestatic 139, 3) := by decide +kernel
theorem dL_hands_739 : decode cL_hands 739 = .ok (.if_icmp .ne 14, 3) := by decide +kernel
theorem dL_hands_742 : decode cL_hands 742 = .ok (.iload 19, 2) := by decide +kernel
theorem dL_hands_744 : decode cL_hands 744 = .ok (.iload 17, 2) := by decide +kernel
theorem dL_hands_746 : decode cL_hands 746 = .ok (.if_icmp .lt 7, 3) := by decide +kernel
theorem dL_hands_749 : decode cL_hands 749 = .ok (.iconst 1, 1) := by decide +kernel
theorem dL_hands_750 : decode cL_hands 750 = .ok (.goto 4, 3) := by decide +kernel
theorem dL_hands_753 : decode cL_hands 753 = .ok (.iconst 0, 1) := by decide +kernel
theorem dL_hands_754 : decode cL_hands 754 = .ok (.istore 6, 2) := by decide +kernel
theorem dL_hands_756 : decode cL_hands 756 = .ok (.iinc 19 1, 3) := by decide +kernel
theorem dL_hands_759 : decode cL_hands 759 = .ok (.goto (-102), 3) := by decide +kernel
theorem dL_hands_762 : decode cL_hands 762 = .ok (.aload_n 0, 1) := by decide +kernel
theorem dL_hands_763 : decode cL_hands 763 = .ok (.iload 4, 2) := by decide +kernel
theorem dL_hands_765 : decode cL_hands 765 = .ok (.bipush 8, 2) := by decide +kernel
theorem dL_hands_767 : decode cL_hands 767 = .ok (.invokestatic 129, 3) := by decide +kernel
theorem dL_hands_770 : decode cL_hands 770 = .ok (.istore 19, 2) := by decide +kernel
theorem dL_hands_772 : decode cL_hands 772 = .ok (.iload_n 1, 1) := by decide +kernel
theorem dL_hands_773 : decode cL_hands 773 = .ok (.bipush 32, 2) := by decide +kernel
theorem dL_hands_775 : decode cL_hands 775 = .ok (.idiv, 1) := by decide +kernel
theorem dL_hands_776 : decode cL_hands 776 = .ok (.sipush 512, 3) := by decide +kernel
theorem dL_hands_779 : decode cL_hands 779 = .ok (.irem, 1) := by decide +kernel
theorem dL_hands_780 : decode cL_hands 780 = .ok (.istore 20, 2) := by decide +kernel
theorem dL_hands_782 : decode cL_hands 782 = .ok (.iload 19, 2) := by decide +kernel
theorem dL_hands_784 : decode cL_hands 784 = .ok (.sipush (-9999), 3) := by decide +kernel
theorem dL_hands_787 : decode cL_hands 787 = .ok (.if_icmp .eq 179, 3) := by decide +kernel
theorem dL_hands_790 : decode cL_hands 790 = .ok (.iload 6, 2) := by decide +kernel
theorem dL_hands_792 : decode cL_hands 792 = .ok (.ifCond .eq 174, 3) := by decide +kernel
theorem dL_hands_795 : decode cL_hands 795 = .ok (.aload_n 0, 1) := by decide +kernel
theorem dL_hands_796 : decode cL_hands 796 = .ok (.iload 4, 2) := by decide +kernel
theorem dL_hands_798 : decode cL_hands 798 = .ok (.iload 20, 2) := by decide +kernel
theorem dL_hands_800 : decode cL_hands 800 = .ok (.invokestatic 161, 3) := by decide +kernel
theorem dL_hands_803 : decode cL_hands 803 = .ok (.istore 21, 2) := by decide +kernel
theorem dL_hands_805 : decode cL_hands 805 = .ok (.iload 21, 2) := by decide +kernel
theorem dL_hands_807 : decode cL_hands 807 = .ok (.ifCond .eq 156, 3) := by decide +kernel
theorem dL_hands_810 : decode cL_hands 810 = .ok (.iload 21, 2) := by decide +kernel
theorem dL_hands_812 : decode cL_hands 812 = .ok (.sipush (-9999), 3) := by decide +kernel
theorem dL_hands_815 : decode cL_hands 815 = .ok (.if_icmp .eq 53, 3) := by decide +kernel
theorem dL_hands_818 : decode cL_hands 818 = .ok (.iload 21, 2) := by decide +kernel
theorem dL_hands_820 : decode cL_hands 820 = .ok (.bipush 60, 2) := by decide +kernel
theorem dL_hands_822 : decode cL_hands 822 = .ok (.if_icmp .gt 46, 3) := by decide +kernel
theorem dL_hands_825 : decode cL_hands 825 = .ok (.aload_n 0, 1) := by decide +kernel
theorem dL_hands_826 : decode cL_hands 826 = .ok (.iload 4, 2) := by decide +kernel
theorem dL_hands_828 : decode cL_hands 828 = .ok (.iload 21, 2) := by decide +kernel
theorem dL_hands_830 : decode cL_hands 830 = .ok (.iload 20, 2) := by decide +kernel
theorem dL_hands_832 : decode cL_hands 832 = .ok (.bipush 8, 2) := by decide +kernel
theorem dL_hands_834 : decode cL_hands 834 = .ok (.invokestatic 180, 3) := by decide +kernel
theorem dL_hands_837 : decode cL_hands 837 = .ok (.sipush (-9999), 3) := by decide +kernel
theorem dL_hands_840 : decode cL_hands 840 = .ok (.if_icmp .ne 123, 3) := by decide +kernel
theorem dL_hands_843 : decode cL_hands 843 = .ok (.iload 21, 2) := by decide +kernel
theorem dL_hands_845 : decode cL_hands 845 = .ok (.iconst 1, 1) := by decide +kernel
theorem dL_hands_846 : decode cL_hands 846 = .ok (.if_icmp .eq 22, 3) := by decide +kernel
theorem dL_hands_849 : decode cL_hands 849 = .ok (.aload_n 0, 1) := by decide +kernel
theorem dL_hands_850 : decode cL_hands 850 = .ok (.iload 4, 2) := by decide +kernel
theorem dL_hands_852 : decode cL_hands 852 = .ok (.iload 21, 2) := by decide +kernel
theorem dL_hands_854 : decode cL_hands 854 = .ok (.iconst 1, 1) := by decide +kernel
theorem dL_hands_855 : decode cL_hands 855 = .ok (.isub, 1) := by decide +kernel
theorem dL_hands_856 : decode cL_hands 856 = .ok (.iload 20, 2) := by decide +kernel
theorem dL_hands_858 : decode cL_hands 858 = .ok (.bipush 8, 2) := by decide +kernel
theorem dL_hands_860 : decode cL_hands 860 = .ok (.invokestatic 180, 3) := by decide +kernel
theorem dL_hands_863 : decode cL_hands 863 = .ok (.iload 19, 2) := by decide +kernel
theorem dL_hands_865 : decode cL_hands 865 = .ok (.if_icmp .ne 98, 3) := by decide +kernel
theorem dL_hands_868 : decode cL_hands 868 = .ok (.aload_n 0, 1) := by decide +kernel
theorem dL_hands_869 : decode cL_hands 869 = .ok (.iload 4, 2) := by decide +kernel
theorem dL_hands_871 : decode cL_hands 871 = .ok (.invokestatic 158, 3) := by decide +kernel
theorem dL_hands_874 : decode cL_hands 874 = .ok (.iload 19, 2) := by decide +kernel
theorem dL_hands_876 : decode cL_hands 876 = .ok (.if_icmp .ne 87, 3) := by decide +kernel
theorem dL_hands_879 : decode cL_hands 879 = .ok (.aload_n 0, 1) := by decide +kernel
theorem dL_hands_880 : decode cL_hands 880 = .ok (.iload 4, 2) := by decide +kernel
theorem dL_hands_882 : decode cL_hands 882 = .ok (.bipush 8, 2) := by decide +kernel
theorem dL_hands_884 : decode cL_hands 884 = .ok (.invokestatic 129, 3) := by decide +kernel
theorem dL_hands_887 : decode cL_hands 887 = .ok (.sipush (-9999), 3) := by decide +kernel
theorem dL_hands_890 : decode cL_hands 890 = .ok (.if_icmp .ne 73, 3) := by decide +kernel
theorem dL_hands_893 : decode cL_hands 893 = .ok (.aload_n 0, 1) := by decide +kernel
theorem dL_hands_894 : decode cL_hands 894 = .ok (.iload 19, 2) := by decide +kernel
theorem dL_hands_896 : decode cL_hands 896 = .ok (.bipush 8, 2) := by decide +kernel
theorem dL_hands_898 : decode cL_hands 898 = .ok (.invokestatic 129, 3) := by decide +kernel
theorem dL_hands_901 : decode cL_hands 901 = .ok (.sipush (-9999), 3) := by decide +kernel
theorem dL_hands_904 : decode cL_hands 904 = .ok (.if_icmp .ne 59, 3) := by decide +kernel
theorem dL_hands_907 : decode cL_hands 907 = .ok (.aload_n 0, 1) := by decide +kernel
theorem dL_hands_908 : decode cL_hands 908 = .ok (.iload 4, 2) := by decide +kernel
theorem dL_hands_910 : decode cL_hands 910 = .ok (.iload 19, 2) := by decide +kernel
theorem dL_hands_912 : decode cL_hands 912 = .ok (.iconst 3, 1) := by decide +kernel
theorem dL_hands_913 : decode cL_hands 913 = .ok (.invokestatic 139, 3) := by decide +kernel
theorem dL_hands_916 : decode cL_hands 916 = .ok (.ifCond .lt 47, 3) := by decide +kernel
theorem dL_hands_919 : decode cL_hands 919 = .ok (.aload_n 0, 1) := by decide +kernel
theorem dL_hands_920 : decode cL_hands 920 = .ok (.iload 4, 2) := by decide +kernel
theorem dL_hands_922 : decode cL_hands 922 = .ok (.iload 19, 2) := by decide +kernel
theorem dL_hands_924 : decode cL_hands 924 = .ok (.invokestatic 155, 3) := by decide +kernel
theorem dL_hands_927 : decode cL_hands 927 = .ok (.aload_n 0, 1) := by decide +kernel
theorem dL_hands_928 : decode cL_hands 928 = .ok (.iload 4, 2) := by decide +kernel
theorem dL_hands_930 : decode cL_hands 930 = .ok (.iload 19, 2) := by decide +kernel
theorem dL_hands_932 : decode cL_hands 932 = .ok (.iconst 1, 1) := by decide +kernel
theorem dL_hands_933 : decode cL_hands 933 = .ok (.invokestatic 139, 3) := by decide +kernel
theorem dL_hands_936 : decode cL_hands 936 = .ok (.if_icmp .ne 27, 3) := by decide +kernel
theorem dL_hands_939 : decode cL_hands 939 = .ok (.aload_n 0, 1) := by decide +kernel
theorem dL_hands_940 : decode cL_hands 940 = .ok (.iload 4, 2) := by decide +kernel
theorem dL_hands_942 : decode cL_hands 942 = .ok (.bipush 9, 2) := by decide +kernel
theorem dL_hands_944 : decode cL_hands 944 = .ok (.invokestatic 129, 3) := by decide +kernel
theorem dL_hands_947 : decode cL_hands 947 = .ok (.ifCond .ne 16, 3) := by decide +kernel
theorem dL_hands_950 : decode cL_hands 950 = .ok (.aload_n 0, 1) := by decide +kernel
theorem dL_hands_951 : decode cL_hands 951 = .ok (.iconst 0, 1) := by decide +kernel
theorem dL_hands_952 : decode cL_hands 952 = .ok (.invokestatic 136, 3) := by decide +kernel
theorem dL_hands_955 : decode cL_hands 955 = .ok (.iload_n 3, 1) := by decide +kernel
theorem dL_hands_956 : decode cL_hands 956 = .ok (.if_icmp .ne 7, 3) := by decide +kernel
theorem dL_hands_959 : decode cL_hands 959 = .ok (.iconst 1, 1) := by decide +kernel
theorem dL_hands_960 : decode cL_hands 960 = .ok (.goto 4, 3) := by decide +kernel
theorem dL_hands_963 : decode cL_hands 963 = .ok (.iconst 0, 1) := by decide +kernel
theorem dL_hands_964 : decode cL_hands 964 = .ok (.istore 6, 2) := by decide +kernel
theorem dL_hands_966 : decode cL_hands 966 = .ok (.iload_n 1, 1) := by decide +kernel
theorem dL_hands_967 : decode cL_hands 967 = .ok (.bipush 64, 2) := by decide +kernel
theorem dL_hands_969 : decode cL_hands 969 = .ok (.idiv, 1) := by decide +kernel
theorem dL_hands_970 : decode cL_hands 970 = .ok (.bipush 10, 2) := by decide +kernel
theorem dL_hands_972 : decode cL_hands 972 = .ok (.irem, 1) := by decide +kernel
theorem dL_hands_973 : decode cL_hands 973 = .ok (.istore 21, 2) := by decide +kernel
theorem dL_hands_975 : decode cL_hands 975 = .ok (.aload_n 0, 1) := by decide +kernel
theorem dL_hands_976 : decode cL_hands 976 = .ok (.iload 4, 2) := by decide +kernel
theorem dL_hands_978 : decode cL_hands 978 = .ok (.iload 21, 2) := by decide +kernel
theorem dL_hands_980 : decode cL_hands 980 = .ok (.invokestatic 184, 3) := by decide +kernel
theorem dL_hands_983 : decode cL_hands 983 = .ok (.istore 22, 2) := by decide +kernel
theorem dL_hands_985 : decode cL_hands 985 = .ok (.aload_n 0, 1) := by decide +kernel
theorem dL_hands_986 : decode cL_hands 986 = .ok (.iload 4, 2) := by decide +kernel
theorem dL_hands_988 : decode cL_hands 988 = .ok (.aload_n 0, 1) := by decide +kernel
theorem dL_hands_989 : decode cL_hands 989 = .ok (.iload 4, 2) := by decide +kernel
theorem dL_hands_991 : decode cL_hands 991 = .ok (.iconst 4, 1) := by decide +kernel
theorem dL_hands_992 : decode cL_hands 992 = .ok (.invokestatic 129, 3) := by decide +kernel
theorem dL_hands_995 : decode cL_hands 995 = .ok (.invokestatic 129, 3) := by decide +kernel
theorem dL_hands_998 : decode cL_hands 998 = .ok (.istore 23, 2) := by decide +kernel
theorem dL_hands_1000 : decode cL_hands 1000 = .ok (.iload 6, 2) := by decide +kernel
theorem dL_hands_1002 : decode cL_hands 1002 = .ok (.ifCond .eq 64, 3) := by decide +kernel
theorem dL_hands_1005 : decode cL_hands 1005 = .ok (.iload 22, 2) := by decide +kernel
theorem dL_hands_1007 : decode cL_hands 1007 = .ok (.ifCond .ne 7, 3) := by decide +kernel
theorem dL_hands_1010 : decode cL_hands 1010 = .ok (.iconst 1, 1) := by decide +kernel
theorem dL_hands_1011 : decode cL_hands 1011 = .ok (.goto 4, 3) := by decide +kernel
theorem dL_hands_1014 : decode cL_hands 1014 = .ok (.iconst 0, 1) := by decide +kernel
theorem dL_hands_1015 : decode cL_hands 1015 = .ok (.iload 23, 2) := by decide +kernel
theorem dL_hands_1017 : decode cL_hands 1017 = .ok (.iload 21, 2) := by decide +kernel
theorem dL_hands_1019 : decode cL_hands 1019 = .ok (.if_icmp .lt 7, 3) := by decide +kernel
theorem dL_hands_1022 : decode cL_hands 1022 = .ok (.iconst 1, 1) := by decide +kernel
theorem dL_hands_1023 : decode cL_hands 1023 = .ok (.goto 4, 3) := by decide +kernel
theorem dL_hands_1026 : decode cL_hands 1026 = .ok (.iconst 0, 1) := by decide +kernel
theorem dL_hands_1027 : decode cL_hands 1027 = .ok (.if_icmp .ne 39, 3) := by decide +kernel
theorem dL_hands_1030 : decode cL_hands 1030 = .ok (.iload 22, 2) := by decide +kernel
theorem dL_hands_1032 : decode cL_hands 1032 = .ok (.sipush (-9999), 3) := by decide +kernel
theorem dL_hands_1035 : decode cL_hands 1035 = .ok (.if_icmp .ne 10, 3) := by decide +kernel
theorem dL_hands_1038 : decode cL_hands 1038 = .ok (.iload 23, 2) := by decide +kernel
theorem dL_hands_1040 : decode cL_hands 1040 = .ok (.iload 21, 2) := by decide +kernel
theorem dL_hands_1042 : decode cL_hands 1042 = .ok (.if_icmp .ge 24, 3) := by decide +kernel
theorem dL_hands_1045 : decode cL_hands 1045 = .ok (.aload_n 0, 1) := by decide +kernel
theorem dL_hands_1046 : decode cL_hands 1046 = .ok (.iload 4, 2) := by decide +kernel
theorem dL_hands_1048 : decode cL_hands 1048 = .ok (.iconst 0, 1) := by decide +kernel
theorem dL_hands_1049 : decode cL_hands 1049 = .ok (.sipush 511, 3) := by decide +kernel
theorem dL_hands_1052 : decode cL_hands 1052 = .ok (.bipush 6, 2) := by decide +kernel
theorem dL_hands_1054 : decode cL_hands 1054 = .ok (.invokestatic 180, 3) := by decide +kernel
theorem dL_hands_1057 : decode cL_hands 1057 = .ok (.iload 14, 2) := by decide +kernel
theorem dL_hands_1059 : decode cL_hands 1059 = .ok (.if_icmp .ne 7, 3) := by decide +kernel
theorem dL_hands_1062 : decode cL_hands 1062 = .ok (.iconst 1, 1) := by decide +kernel
theorem dL_hands_1063 : decode cL_hands 1063 = .ok (.goto 4, 3) := by decide +kernel
theorem dL_hands_1066 : decode cL_hands 1066 = .ok (.iconst 0, 1) := by decide +kernel
theorem dL_hands_1067 : decode cL_hands 1067 = .ok (.istore 6, 2) := by decide +kernel
theorem dL_hands_1069 : decode cL_hands 1069 = .ok (.iload 22, 2) := by decide +kernel
theorem dL_hands_1071 : decode cL_hands 1071 = .ok (.ifCond .le 119, 3) := by decide +kernel
theorem dL_hands_1074 : decode cL_hands 1074 = .ok (.iload 22, 2) := by decide +kernel
theorem dL_hands_1076 : decode cL_hands 1076 = .ok (.bipush 20, 2) := by decide +kernel
theorem dL_hands_1078 : decode cL_hands 1078 = .ok (.if_icmp .ge 112, 3) := by decide +kernel
theorem dL_hands_1081 : decode cL_hands 1081 = .ok (.iload 6, 2) := by decide +kernel
theorem dL_hands_1083 : decode cL_hands 1083 = .ok (.ifCond .eq 107, 3) := by decide +kernel
theorem dL_hands_1086 : decode cL_hands 1086 = .ok (.iconst 0, 1) := by decide +kernel
theorem dL_hands_1087 : decode cL_hands 1087 = .ok (.istore 24, 2) := by decide +kernel
theorem dL_hands_1089 : decode cL_hands 1089 = .ok (.iload 24, 2) := by decide +kernel
theorem dL_hands_1091 : decode cL_hands 1091 = .ok (.iload 22, 2) := by decide +kernel
theorem dL_hands_1093 : decode cL_hands 1093 = .ok (.if_icmp .ge 58, 3) := by decide +kernel
theorem dL_hands_1096 : decode cL_hands 1096 = .ok (.aload_n 0, 1) := by decide +kernel
theorem dL_hands_1097 : decode cL_hands 1097 = .ok (.invokevirtual 206, 3) := by decide +kernel
theorem dL_hands_1100 : decode cL_hands 1100 = .ok (.istore 25, 2) := by decide +kernel
theorem dL_hands_1102 : decode cL_hands 1102 = .ok (.iload 6, 2) := by decide +kernel
theorem dL_hands_1104 : decode cL_hands 1104 = .ok (.ifCond .eq 38, 3) := by decide +kernel
theorem dL_hands_1107 : decode cL_hands 1107 = .ok (.iload 25, 2) := by decide +kernel
theorem dL_hands_1109 : decode cL_hands 1109 = .ok (.ifCond .lt 33, 3) := by decide +kernel
theorem dL_hands_1112 : decode cL_hands 1112 = .ok (.aload_n 0, 1) := by decide +kernel
theorem dL_hands_1113 : decode cL_hands 1113 = .ok (.iload 4, 2) := by decide +kernel
theorem dL_hands_1115 : decode cL_hands 1115 = .ok (.aload_n 0, 1) := by decide +kernel
theorem dL_hands_1116 : decode cL_hands 1116 = .ok (.iload 4, 2) := by decide +kernel
theorem dL_hands_1118 : decode cL_hands 1118 = .ok (.iconst 4, 1) := by decide +kernel
theorem dL_hands_1119 : decode cL_hands 1119 = .ok (.invokestatic 129, 3) := by decide +kernel
theorem dL_hands_1122 : decode cL_hands 1122 = .ok (.invokestatic 129, 3) := by decide +kernel
theorem dL_hands_1125 : decode cL_hands 1125 = .ok (.iload 21, 2) := by decide +kernel
theorem dL_hands_1127 : decode cL_hands 1127 = .ok (.if_icmp .ge 15, 3) := by decide +kernel
theorem dL_hands_1130 : decode cL_hands 1130 = .ok (.aload_n 0, 1) := by decide +kernel
theorem dL_hands_1131 : decode cL_hands 1131 = .ok (.iconst 0, 1) := by decide +kernel
theorem dL_hands_1132 : decode cL_hands 1132 = .ok (.invokestatic 167, 3) := by decide +kernel
theorem dL_hands_1135 : decode cL_hands 1135 = .ok (.ifCond .lt 7, 3) := by decide +kernel
theorem dL_hands_1138 : decode cL_hands 1138 = .ok (.iconst 1, 1) := by decide +kernel
theorem dL_hands_1139 : decode cL_hands 1139 = .ok (.goto 4, 3) := by decide +kernel
theorem dL_hands_1142 : decode cL_hands 1142 = .ok (.iconst 0, 1) := by decide +kernel
theorem dL_hands_1143 : decode cL_hands 1143 = .ok (.istore 6, 2) := by decide +kernel
theorem dL_hands_1145 : decode cL_hands 1145 = .ok (.iinc 24 1, 3) := by decide +kernel
theorem dL_hands_1148 : decode cL_hands 1148 = .ok (.goto (-59), 3) := by decide +kernel
theorem dL_hands_1151 : decode cL_hands 1151 = .ok (.iload 6, 2) := by decide +kernel
theorem dL_hands_1153 : decode cL_hands 1153 = .ok (.ifCond .eq 34, 3) := by decide +kernel
theorem dL_hands_1156 : decode cL_hands 1156 = .ok (.aload_n 0, 1) := by decide +kernel
theorem dL_hands_1157 : decode cL_hands 1157 = .ok (.iload 4, 2) := by decide +kernel
theorem dL_hands_1159 : decode cL_hands 1159 = .ok (.aload_n 0, 1) := by decide +kernel
theorem dL_hands_1160 : decode cL_hands 1160 = .ok (.iload 4, 2) := by decide +kernel
theorem dL_hands_1162 : decode cL_hands 1162 = .ok (.iconst 4, 1) := by decide +kernel
theorem dL_hands_1163 : decode cL_hands 1163 = .ok (.invokestatic 129, 3) := by decide +kernel
theorem dL_hands_1166 : decode cL_hands 1166 = .ok (.invokestatic 129, 3) := by decide +kernel
theorem dL_hands_1169 : decode cL_hands 1169 = .ok (.iload 21, 2) := by decide +kernel
theorem dL_hands_1171 : decode cL_hands 1171 = .ok (.if_icmp .lt 16, 3) := by decide +kernel
theorem dL_hands_1174 : decode cL_hands 1174 = .ok (.aload_n 0, 1) := by decide +kernel
theorem dL_hands_1175 : decode cL_hands 1175 = .ok (.iconst 0, 1) := by decide +kernel
theorem dL_hands_1176 : decode cL_hands 1176 = .ok (.invokestatic 136, 3) := by decide +kernel
theorem dL_hands_1179 : decode cL_hands 1179 = .ok (.iload_n 3, 1) := by decide +kernel
theorem dL_hands_1180 : decode cL_hands 1180 = .ok (.if_icmp .ne 7, 3) := by decide +kernel
theorem dL_hands_1183 : decode cL_hands 1183 = .ok (.iconst 1, 1) := by decide +kernel
theorem dL_hands_1184 : decode cL_hands 1184 = .ok (.goto 4, 3) := by decide +kernel
theorem dL_hands_1187 : decode cL_hands 1187 = .ok (.iconst 0, 1) := by decide +kernel
theorem dL_hands_1188 : decode cL_hands 1188 = .ok (.istore 6, 2) := by decide +kernel
theorem dL_hands_1190 : decode cL_hands 1190 = .ok (.iload 6, 2) := by decide +kernel
theorem dL_hands_1192 : decode cL_hands 1192 = .ok (.ifCond .eq 25, 3) := by decide +kernel
theorem dL_hands_1195 : decode cL_hands 1195 = .ok (.aload_n 0, 1) := by decide +kernel
theorem dL_hands_1196 : decode cL_hands 1196 = .ok (.iconst 0, 1) := by decide +kernel
theorem dL_hands_1197 : decode cL_hands 1197 = .ok (.invokestatic 136, 3) := by decide +kernel
theorem dL_hands_1200 : decode cL_hands 1200 = .ok (.iload_n 3, 1) := by decide +kernel
theorem dL_hands_1201 : decode cL_hands 1201 = .ok (.if_icmp .ne 16, 3) := by decide +kernel
theorem dL_hands_1204 : decode cL_hands 1204 = .ok (.aload_n 0, 1) := by decide +kernel
theorem dL_hands_1205 : decode cL_hands 1205 = .ok (.invokestatic 133, 3) := by decide +kernel
theorem dL_hands_1208 : decode cL_hands 1208 = .ok (.ldc 18, 2) := by decide +kernel
theorem dL_hands_1210 : decode cL_hands 1210 = .ok (.if_icmp .ne 7, 3) := by decide +kernel
theorem dL_hands_1213 : decode cL_hands 1213 = .ok (.iconst 1, 1) := by decide +kernel
theorem dL_hands_1214 : decode cL_hands 1214 = .ok (.goto 4, 3) := by decide +kernel
theorem dL_hands_1217 : decode cL_hands 1217 = .ok (.iconst 0, 1) := by decide +kernel
theorem dL_hands_1218 : decode cL_hands 1218 = .ok (.ireturn, 1) := by decide +kernel
set_option maxRecDepth 20000 in
theorem ggL_scripts_L_tryAbout : GoodIn wsL_scripts wsL_tryAbout := goodIn_ca (goodIn_r _ [28, 29, 30, 31, 32, 33, 34, 35, 36, 37, 38, 39, 40, 41, 42, 43, 44, 45, 46, 47, 48, 49, 50, 51, 52, 53, 54, 55, 56, 57, 58, 59, 60, 61, 62, 63, 64, 65, 66, 67, 68, 69, 70, 71, 72, 73, 74, 75, 76, 77, 78, 79, 80, 81, 82, 83, 84, 85, 86, 87, 88, 89, 90, 91, 92, 93, 94, 95, 96, 97, 98, 99, 100, 101, 102, 103, 104, 105, 106, 107, 108, 263, 264, 265, 266, 267, 268, 269, 270, 271, 272, 273, 274, 275, 276, 277, 278, 279] rfl (by decide +kernel)) (goodIn_sub (fun _ h => List.mem_cons_of_mem _ (List.mem_append_left _ (List.mem_append_right _ h))) (by decide +kernel))
set_option maxRecDepth 20000 in
theorem gL_scripts_L_tryAbout : GoodIn wsL_scripts (va_wsS RL 126 yL_tryAbout wsL_tryAbout) := goodIn_app (goodIn_of _ (by decide +kernel)) ggL_scripts_L_tryAbout
set_option maxRecDepth 20000 in
theorem ggL_scripts_L_trySimulate : GoodIn wsL_scripts wsL_trySimulate := goodIn_ca (goodIn_r _ [111, 29, 30, 112, 113, 114, 34, 115, 116, 38, 117, 118, 119, 120, 121, 36, 37, 122, 123, 124, 44, 125, 46, 51, 126, 127, 128, 129, 130, 131, 132, 133, 134, 135, 136, 137, 138, 139, 140, 141, 142, 143, 144, 145, 146, 147, 148, 149, 150, 151, 152, 153, 154, 155, 156, 157, 158, 52, 89, 90, 91, 92, 71, 72, 73, 74, 75, 76, 61, 62, 63, 64, 65, 66, 67, 68, 69, 70, 77, 78, 79, 80, 53, 54, 55, 56, 159, 160, 161, 162, 163, 164, 165, 166, 167, 47, 48, 49, 50, 168, 169, 170, 171, 172, 173, 174, 175, 176, 177, 178, 179, 180, 181, 182, 183, 184, 185, 186, 187, 188, 189, 190, 191, 192, 193, 194, 195, 196, 197, 198, 199, 200, 201, 202, 203, 97, 98, 99, 100, 263, 264, 265, 266, 267, 268, 269, 270, 271, 272, 273, 274, 275, 276, 277, 278, 279] rfl (by decide +kernel)) (goodIn_sub (fun _ h => List.mem_cons_of_mem _ (List.mem_append_left _ (List.mem_append_right _ h))) (by decide +kernel))
set_option maxRecDepth 20000 in
theorem gL_scripts_L_trySimulate : GoodIn wsL_scripts (va_wsS RL 193 yL_trySimulate wsL_trySimulate) := goodIn_app (goodIn_of _ (by decide +kernel)) ggL_scripts_L_trySimulate
