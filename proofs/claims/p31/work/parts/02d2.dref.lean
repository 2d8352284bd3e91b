theorem dL_refuses_0 : decode cL_refuses 0 = .ok (.aload_n 0, 1) := by decide +kernel
theorem dL_refuses_1 : decode cL_refuses 1 = .ok (.iconst 0, 1) := by decide +kernel
theorem dL_refuses_2 : decode cL_refuses 2 = .ok (.invokestatic 126, 3) := by decide +kernel
theorem dL_refuses_5 : decode cL_refuses 5 = .ok (.istore_n 1, 1) := by decide +kernel
theorem dL_refuses_6 : decode cL_refuses 6 = .ok (.iload_n 1, 1) := by decide +kernel
theorem dL_refuses_7 : decode cL_refuses 7 = .ok (.ifCond .le 20, 3) := by decide +kernel
theorem dL_refuses_10 : decode cL_refuses 10 = .ok (.aload_n 0, 1) := by decide +kernel
theorem dL_refuses_11 : decode cL_refuses 11 = .ok (.iconst 0, 1) := by decide +kernel
theorem dL_refuses_12 : decode cL_refuses 12 = .ok (.bipush 8, 2) := by decide +kernel
theorem dL_refuses_14 : decode cL_refuses 14 = .ok (.invokestatic 129, 3) := by decide +kernel
theorem dL_refuses_17 : decode cL_refuses 17 = .ok (.sipush (-9999), 3) := by decide +kernel
theorem dL_refuses_20 : decode cL_refuses 20 = .ok (.if_icmp .eq 7, 3) := by decide +kernel
theorem dL_refuses_23 : decode cL_refuses 23 = .ok (.iconst 1, 1) := by decide +kernel
theorem dL_refuses_24 : decode cL_refuses 24 = .ok (.goto 4, 3) := by decide +kernel
theorem dL_refuses_27 : decode cL_refuses 27 = .ok (.iconst 0, 1) := by decide +kernel
theorem dL_refuses_28 : decode cL_refuses 28 = .ok (.istore_n 2, 1) := by decide +kernel
theorem dL_refuses_29 : decode cL_refuses 29 = .ok (.aload_n 0, 1) := by decide +kernel
theorem dL_refuses_30 : decode cL_refuses 30 = .ok (.bipush 7, 2) := by decide +kernel
theorem dL_refuses_32 : decode cL_refuses 32 = .ok (.invokestatic 126, 3) := by decide +kernel
theorem dL_refuses_35 : decode cL_refuses 35 = .ok (.ldc 15, 2) := by decide +kernel
theorem dL_refuses_37 : decode cL_refuses 37 = .ok (.if_icmp .ne 295, 3) := by decide +kernel
theorem dL_refuses_40 : decode cL_refuses 40 = .ok (.aload_n 0, 1) := by decide +kernel
theorem dL_refuses_41 : decode cL_refuses 41 = .ok (.iload_n 1, 1) := by decide +kernel
theorem dL_refuses_42 : decode cL_refuses 42 = .ok (.bipush 11, 2) := by decide +kernel
theorem dL_refuses_44 : decode cL_refuses 44 = .ok (.invokestatic 129, 3) := by decide +kernel
theorem dL_refuses_47 : decode cL_refuses 47 = .ok (.ldc 32, 2) := by decide +kernel
theorem dL_refuses_49 : decode cL_refuses 49 = .ok (.if_icmp .ne 283, 3) := by decide +kernel
theorem dL_refuses_52 : decode cL_refuses 52 = .ok (.iload_n 1, 1) := by decide +kernel
theorem dL_refuses_53 : decode cL_refuses 53 = .ok (.ifCond .eq 15, 3) := by decide +kernel
theorem dL_refuses_56 : decode cL_refuses 56 = .ok (.aload_n 0, 1) := by decide +kernel
theorem dL_refuses_57 : decode cL_refuses 57 = .ok (.iconst 0, 1) := by decide +kernel
theorem dL_refuses_58 : decode cL_refuses 58 = .ok (.bipush 11, 2) := by decide +kernel
theorem dL_refuses_60 : decode cL_refuses 60 = .ok (.invokestatic 129, 3) := by decide +kernel
theorem dL_refuses_63 : decode cL_refuses 63 = .ok (.ldc 15, 2) := by decide +kernel
theorem dL_refuses_65 : decode cL_refuses 65 = .ok (.if_icmp .ne 267, 3) := by decide +kernel
theorem dL_refuses_68 : decode cL_refuses 68 = .ok (.aload_n 0, 1) := by decide +kernel
theorem dL_refuses_69 : decode cL_refuses 69 = .ok (.iload_n 1, 1) := by decide +kernel
theorem dL_refuses_70 : decode cL_refuses 70 = .ok (.iconst 0, 1) := by decide +kernel
theorem dL_refuses_71 : decode cL_refuses 71 = .ok (.iconst 4, 1) := by decide +kernel
theorem dL_refuses_72 : decode cL_refuses 72 = .ok (.invokestatic 139, 3) := by decide +kernel
theorem dL_refuses_75 : decode cL_refuses 75 = .ok (.ldc 32, 2) := by decide +kernel
theorem dL_refuses_77 : decode cL_refuses 77 = .ok (.if_icmp .ne 255, 3) := by decide +kernel
theorem dL_refuses_80 : decode cL_refuses 80 = .ok (.iload_n 1, 1) := by decide +kernel
theorem dL_refuses_81 : decode cL_refuses 81 = .ok (.ifCond .eq 15, 3) := by decide +kernel
theorem dL_refuses_84 : decode cL_refuses 84 = .ok (.aload_n 0, 1) := by decide +kernel
theorem dL_refuses_85 : decode cL_refuses 85 = .ok (.iconst 0, 1) := by decide +kernel
theorem dL_refuses_86 : decode cL_refuses 86 = .ok (.iconst 0, 1) := by decide +kernel
theorem dL_refuses_87 : decode cL_refuses 87 = .ok (.iconst 0, 1) := by decide +kernel
theorem dL_refuses_88 : decode cL_refuses 88 = .ok (.invokestatic 139, 3) := by decide +kernel
theorem dL_refuses_91 : decode cL_refuses 91 = .ok (.ldc 15, 2) := by decide +kernel
theorem dL_refuses_93 : decode cL_refuses 93 = .ok (.if_icmp .ne 239, 3) := by decide +kernel
theorem dL_refuses_96 : decode cL_refuses 96 = .ok (.iload_n 1, 1) := by decide +kernel
theorem dL_refuses_97 : decode cL_refuses 97 = .ok (.iconst 2, 1) := by decide +kernel
theorem dL_refuses_98 : decode cL_refuses 98 = .ok (.if_icmp .lt 15, 3) := by decide +kernel
theorem dL_refuses_101 : decode cL_refuses 101 = .ok (.aload_n 0, 1) := by decide +kernel
theorem dL_refuses_102 : decode cL_refuses 102 = .ok (.iconst 0, 1) := by decide +kernel
theorem dL_refuses_103 : decode cL_refuses 103 = .ok (.iconst 1, 1) := by decide +kernel
theorem dL_refuses_104 : decode cL_refuses 104 = .ok (.iconst 4, 1) := by decide +kernel
theorem dL_refuses_105 : decode cL_refuses 105 = .ok (.invokestatic 139, 3) := by decide +kernel
theorem dL_refuses_108 : decode cL_refuses 108 = .ok (.ldc 15, 2) := by decide +kernel
theorem dL_refuses_110 : decode cL_refuses 110 = .ok (.if_icmp .ne 222, 3) := by decide +kernel
theorem dL_refuses_113 : decode cL_refuses 113 = .ok (.aload_n 0, 1) := by decide +kernel
theorem dL_refuses_114 : decode cL_refuses 114 = .ok (.iconst 4, 1) := by decide +kernel
theorem dL_refuses_115 : decode cL_refuses 115 = .ok (.iconst 0, 1) := by decide +kernel
theorem dL_refuses_116 : decode cL_refuses 116 = .ok (.iconst 0, 1) := by decide +kernel
theorem dL_refuses_117 : decode cL_refuses 117 = .ok (.invokestatic 143, 3) := by decide +kernel
theorem dL_refuses_120 : decode cL_refuses 120 = .ok (.ldc 15, 2) := by decide +kernel
theorem dL_refuses_122 : decode cL_refuses 122 = .ok (.if_icmp .ne 210, 3) := by decide +kernel
theorem dL_refuses_125 : decode cL_refuses 125 = .ok (.aload_n 0, 1) := by decide +kernel
theorem dL_refuses_126 : decode cL_refuses 126 = .ok (.iconst 0, 1) := by decide +kernel
theorem dL_refuses_127 : decode cL_refuses 127 = .ok (.sipush 10000, 3) := by decide +kernel
theorem dL_refuses_130 : decode cL_refuses 130 = .ok (.iconst 0, 1) := by decide +kernel
theorem dL_refuses_131 : decode cL_refuses 131 = .ok (.invokestatic 143, 3) := by decide +kernel
theorem dL_refuses_134 : decode cL_refuses 134 = .ok (.ldc 15, 2) := by decide +kernel
theorem dL_refuses_136 : decode cL_refuses 136 = .ok (.if_icmp .ne 196, 3) := by decide +kernel
theorem dL_refuses_139 : decode cL_refuses 139 = .ok (.aload_n 0, 1) := by decide +kernel
theorem dL_refuses_140 : decode cL_refuses 140 = .ok (.iconst 0, 1) := by decide +kernel
theorem dL_refuses_141 : decode cL_refuses 141 = .ok (.iconst 0, 1) := by decide +kernel
theorem dL_refuses_142 : decode cL_refuses 142 = .ok (.bipush 100, 2) := by decide +kernel
theorem dL_refuses_144 : decode cL_refuses 144 = .ok (.invokestatic 143, 3) := by decide +kernel
theorem dL_refuses_147 : decode cL_refuses 147 = .ok (.ldc 15, 2) := by decide +kernel
theorem dL_refuses_149 : decode cL_refuses 149 = .ok (.if_icmp .ne 183, 3) := by decide +kernel
theorem dL_refuses_152 : decode cL_refuses 152 = .ok (.iload_n 1, 1) := by decide +kernel
theorem dL_refuses_153 : decode cL_refuses 153 = .ok (.bipush 9, 2) := by decide +kernel
theorem dL_refuses_155 : decode cL_refuses 155 = .ok (.if_icmp .lt 15, 3) := by decide +kernel
theorem dL_refuses_158 : decode cL_refuses 158 = .ok (.aload_n 0, 1) := by decide +kernel
theorem dL_refuses_159 : decode cL_refuses 159 = .ok (.iconst 0, 1) := by decide +kernel
theorem dL_refuses_160 : decode cL_refuses 160 = .ok (.iconst 0, 1) := by decide +kernel
theorem dL_refuses_161 : decode cL_refuses 161 = .ok (.iconst 0, 1) := by decide +kernel
theorem dL_refuses_162 : decode cL_refuses 162 = .ok (.invokestatic 143, 3) := by decide +kernel
theorem dL_refuses_165 : decode cL_refuses 165 = .ok (.ldc 18, 2) := by decide +kernel
theorem dL_refuses_167 : decode cL_refuses 167 = .ok (.if_icmp .ne 165, 3) := by decide +kernel
theorem dL_refuses_170 : decode cL_refuses 170 = .ok (.aload_n 0, 1) := by decide +kernel
theorem dL_refuses_171 : decode cL_refuses 171 = .ok (.iload_n 1, 1) := by decide +kernel
theorem dL_refuses_172 : decode cL_refuses 172 = .ok (.invokestatic 146, 3) := by decide +kernel
theorem dL_refuses_175 : decode cL_refuses 175 = .ok (.ldc 32, 2) := by decide +kernel
theorem dL_refuses_177 : decode cL_refuses 177 = .ok (.if_icmp .ne 155, 3) := by decide +kernel
theorem dL_refuses_180 : decode cL_refuses 180 = .ok (.aload_n 0, 1) := by decide +kernel
theorem dL_refuses_181 : decode cL_refuses 181 = .ok (.iload_n 1, 1) := by decide +kernel
theorem dL_refuses_182 : decode cL_refuses 182 = .ok (.iconst 4, 1) := by decide +kernel
theorem dL_refuses_183 : decode cL_refuses 183 = .ok (.invokestatic 149, 3) := by decide +kernel
theorem dL_refuses_186 : decode cL_refuses 186 = .ok (.ldc 32, 2) := by decide +kernel
theorem dL_refuses_188 : decode cL_refuses 188 = .ok (.if_icmp .ne 144, 3) := by decide +kernel
theorem dL_refuses_191 : decode cL_refuses 191 = .ok (.iload_n 1, 1) := by decide +kernel
theorem dL_refuses_192 : decode cL_refuses 192 = .ok (.ifCond .eq 14, 3) := by decide +kernel
theorem dL_refuses_195 : decode cL_refuses 195 = .ok (.aload_n 0, 1) := by decide +kernel
theorem dL_refuses_196 : decode cL_refuses 196 = .ok (.iconst 0, 1) := by decide +kernel
theorem dL_refuses_197 : decode cL_refuses 197 = .ok (.iconst 4, 1) := by decide +kernel
theorem dL_refuses_198 : decode cL_refuses 198 = .ok (.invokestatic 149, 3) := by decide +kernel
theorem dL_refuses_201 : decode cL_refuses 201 = .ok (.ldc 15, 2) := by decide +kernel
theorem dL_refuses_203 : decode cL_refuses 203 = .ok (.if_icmp .ne 129, 3) := by decide +kernel
theorem dL_refuses_206 : decode cL_refuses 206 = .ok (.aload_n 0, 1) := by decide +kernel
theorem dL_refuses_207 : decode cL_refuses 207 = .ok (.iload_n 1, 1) := by decide +kernel
theorem dL_refuses_208 : decode cL_refuses 208 = .ok (.iconst 4, 1) := by decide +kernel
theorem dL_refuses_209 : decode cL_refuses 209 = .ok (.iconst 0, 1) := by decide +kernel
theorem dL_refuses_210 : decode cL_refuses 210 = .ok (.invokestatic 152, 3) := by decide +kernel
theorem dL_refuses_213 : decode cL_refuses 213 = .ok (.ldc 32, 2) := by decide +kernel
theorem dL_refuses_215 : decode cL_refuses 215 = .ok (.if_icmp .ne 117, 3) := by decide +kernel
theorem dL_refuses_218 : decode cL_refuses 218 = .ok (.iload_n 1, 1) := by decide +kernel
theorem dL_refuses_219 : decode cL_refuses 219 = .ok (.ifCond .eq 39, 3) := by decide +kernel
theorem dL_refuses_222 : decode cL_refuses 222 = .ok (.aload_n 0, 1) := by decide +kernel
theorem dL_refuses_223 : decode cL_refuses 223 = .ok (.iconst 0, 1) := by decide +kernel
theorem dL_refuses_224 : decode cL_refuses 224 = .ok (.iconst 4, 1) := by decide +kernel
theorem dL_refuses_225 : decode cL_refuses 225 = .ok (.iconst 0, 1) := by decide +kernel
theorem dL_refuses_226 : decode cL_refuses 226 = .ok (.invokestatic 152, 3) := by decide +kernel
theorem dL_refuses_229 : decode cL_refuses 229 = .ok (.ldc 15, 2) := by decide +kernel
theorem dL_refuses_231 : decode cL_refuses 231 = .ok (.if_icmp .ne 101, 3) := by decide +kernel
theorem dL_refuses_234 : decode cL_refuses 234 = .ok (.aload_n 0, 1) := by decide +kernel
theorem dL_refuses_235 : decode cL_refuses 235 = .ok (.iconst 0, 1) := by decide +kernel
theorem dL_refuses_236 : decode cL_refuses 236 = .ok (.iconst 0, 1) := by decide +kernel
theorem dL_refuses_237 : decode cL_refuses 237 = .ok (.bipush 100, 2) := by decide +kernel
theorem dL_refuses_239 : decode cL_refuses 239 = .ok (.invokestatic 152, 3) := by decide +kernel
theorem dL_refuses_242 : decode cL_refuses 242 = .ok (.ldc 15, 2) := by decide +kernel
theorem dL_refuses_244 : decode cL_refuses 244 = .ok (.if_icmp .ne 88, 3) := by decide +kernel
theorem dL_refuses_247 : decode cL_refuses 247 = .ok (.aload_n 0, 1) := by decide +kernel
theorem dL_refuses_248 : decode cL_refuses 248 = .ok (.iconst 0, 1) := by decide +kernel
theorem dL_refuses_249 : decode cL_refuses 249 = .ok (.iconst 0, 1) := by decide +kernel
theorem dL_refuses_250 : decode cL_refuses 250 = .ok (.invokestatic 155, 3) := by decide +kernel
theorem dL_refuses_253 : decode cL_refuses 253 = .ok (.ldc 15, 2) := by decide +kernel
theorem dL_refuses_255 : decode cL_refuses 255 = .ok (.if_icmp .ne 77, 3) := by decide +kernel
theorem dL_refuses_258 : decode cL_refuses 258 = .ok (.aload_n 0, 1) := by decide +kernel
theorem dL_refuses_259 : decode cL_refuses 259 = .ok (.iconst 0, 1) := by decide +kernel
theorem dL_refuses_260 : decode cL_refuses 260 = .ok (.iload_n 1, 1) := by decide +kernel
theorem dL_refuses_261 : decode cL_refuses 261 = .ok (.invokestatic 155, 3) := by decide +kernel
theorem dL_refuses_264 : decode cL_refuses 264 = .ok (.ldc 32, 2) := by decide +kernel
theorem dL_refuses_266 : decode cL_refuses 266 = .ok (.if_icmp .ne 66, 3) := by decide +kernel
theorem dL_refuses_269 : decode cL_refuses 269 = .ok (.iload_n 1, 1) := by decide +kernel
theorem dL_refuses_270 : decode cL_refuses 270 = .ok (.iconst 2, 1) := by decide +kernel
theorem dL_refuses_271 : decode cL_refuses 271 = .ok (.if_icmp .lt 18, 3) := by decide +kernel
theorem dL_refuses_274 : decode cL_refuses 274 = .ok (.iload_n 2, 1) := by decide +kernel
theorem dL_refuses_275 : decode cL_refuses 275 = .ok (.ifCond .eq 14, 3) := by decide +kernel
theorem dL_refuses_278 : decode cL_refuses 278 = .ok (.aload_n 0, 1) := by decide +kernel
theorem dL_refuses_279 : decode cL_refuses 279 = .ok (.iconst 0, 1) := by decide +kernel
theorem dL_refuses_280 : decode cL_refuses 280 = .ok (.iconst 1, 1) := by decide +kernel
theorem dL_refuses_281 : decode cL_refuses 281 = .ok (.invokestatic 155, 3) := by decide +kernel
theorem dL_refuses_284 : decode cL_refuses 284 = .ok (.ldc 18, 2) := by decide +kernel
theorem dL_refuses_286 : decode cL_refuses 286 = .ok (.if_icmp .ne 46, 3) := by decide +kernel
theorem dL_refuses_289 : decode cL_refuses 289 = .ok (.aload_n 0, 1) := by decide +kernel
theorem dL_refuses_290 : decode cL_refuses 290 = .ok (.iload_n 1, 1) := by decide +kernel
theorem dL_refuses_291 : decode cL_refuses 291 = .ok (.invokestatic 158, 3) := by decide +kernel
theorem dL_refuses_294 : decode cL_refuses 294 = .ok (.ldc 32, 2) := by decide +kernel
theorem dL_refuses_296 : decode cL_refuses 296 = .ok (.if_icmp .ne 36, 3) := by decide +kernel
theorem dL_refuses_299 : decode cL_refuses 299 = .ok (.iload_n 1, 1) := by decide +kernel
theorem dL_refuses_300 : decode cL_refuses 300 = .ok (.ifCond .eq 28, 3) := by decide +kernel
theorem dL_refuses_303 : decode cL_refuses 303 = .ok (.iload_n 2, 1) := by decide +kernel
theorem dL_refuses_304 : decode cL_refuses 304 = .ok (.ifCond .ne 24, 3) := by decide +kernel
theorem dL_refuses_307 : decode cL_refuses 307 = .ok (.aload_n 0, 1) := by decide +kernel
theorem dL_refuses_308 : decode cL_refuses 308 = .ok (.iconst 0, 1) := by decide +kernel
theorem dL_refuses_309 : decode cL_refuses 309 = .ok (.invokestatic 158, 3) := by decide +kernel
theorem dL_refuses_312 : decode cL_refuses 312 = .ok (.ldc 18, 2) := by decide +kernel
theorem dL_refuses_314 : decode cL_refuses 314 = .ok (.if_icmp .ne 18, 3) := by decide +kernel
theorem dL_refuses_317 : decode cL_refuses 317 = .ok (.aload_n 0, 1) := by decide +kernel
theorem dL_refuses_318 : decode cL_refuses 318 = .ok (.iconst 0, 1) := by decide +kernel
theorem dL_refuses_319 : decode cL_refuses 319 = .ok (.iconst 0, 1) := by decide +kernel
theorem dL_refuses_320 : decode cL_refuses 320 = .ok (.invokestatic 161, 3) := by decide +kernel
theorem dL_refuses_323 : decode cL_refuses 323 = .ok (.ldc 18, 2) := by decide +kernel
theorem dL_refuses_325 : decode cL_refuses 325 = .ok (.if_icmp .ne 7, 3) := by decide +kernel
theorem dL_refuses_328 : decode cL_refuses 328 = .ok (.iconst 1, 1) := by decide +kernel
theorem dL_refuses_329 : decode cL_refuses 329 = .ok (.goto 4, 3) := by decide +kernel
theorem dL_refuses_332 : decode cL_refuses 332 = .ok (.iconst 0, 1) := by decide +kernel
theorem dL_refuses_333 : decode cL_refuses 333 = .ok (.istore_n 3, 1) := by decide +kernel
theorem dL_refuses_334 : decode cL_refuses 334 = .ok (.iload_n 3, 1) := by decide +kernel
theorem dL_refuses_335 : decode cL_refuses 335 = .ok (.ifCond .eq 249, 3) := by decide +kernel
theorem dL_refuses_338 : decode cL_refuses 338 = .ok (.aload_n 0, 1) := by decide +kernel
theorem dL_refuses_339 : decode cL_refuses 339 = .ok (.iconst 0, 1) := by decide +kernel
theorem dL_refuses_340 : decode cL_refuses 340 = .ok (.invokestatic 164, 3) := by decide +kernel
theorem dL_refuses_343 : decode cL_refuses 343 = .ok (.ldc 15, 2) := by decide +kernel
theorem dL_refuses_345 : decode cL_refuses 345 = .ok (.if_icmp .ne 239, 3) := by decide +kernel
theorem dL_refuses_348 : decode cL_refuses 348 = .ok (.aload_n 0, 1) := by decide +kernel
theorem dL_refuses_349 : decode cL_refuses 349 = .ok (.bipush 51, 2) := by decide +kernel
theorem dL_refuses_351 : decode cL_refuses 351 = .ok (.invokestatic 164, 3) := by decide +kernel
theorem dL_refuses_354 : decode cL_refuses 354 = .ok (.ldc 15, 2) := by decide +kernel
theorem dL_refuses_356 : decode cL_refuses 356 = .ok (.if_icmp .ne 228, 3) := by decide +kernel
theorem dL_refuses_359 : decode cL_refuses 359 = .ok (.aload_n 0, 1) := by decide +kernel
theorem dL_refuses_360 : decode cL_refuses 360 = .ok (.sipush 512, 3) := by decide +kernel
theorem dL_refuses_363 : decode cL_refuses 363 = .ok (.invokestatic 167, 3) := by decide +kernel
theorem dL_refuses_366 : decode cL_refuses 366 = .ok (.ldc 15, 2) := by decide +kernel
theorem dL_refuses_368 : decode cL_refuses 368 = .ok (.if_icmp .ne 216, 3) := by decide +kernel
theorem dL_refuses_371 : decode cL_refuses 371 = .ok (.aload_n 0, 1) := by decide +kernel
theorem dL_refuses_372 : decode cL_refuses 372 = .ok (.iconst (-1), 1) := by decide +kernel
theorem dL_refuses_373 : decode cL_refuses 373 = .ok (.iconst 1, 1) := by decide +kernel
theorem dL_refuses_374 : decode cL_refuses 374 = .ok (.invokestatic 170, 3) := by decide +kernel
theorem dL_refuses_377 : decode cL_refuses 377 = .ok (.ldc 15, 2) := by decide +kernel
theorem dL_refuses_379 : decode cL_refuses 379 = .ok (.if_icmp .ne 205, 3) := by decide +kernel
theorem dL_refuses_382 : decode cL_refuses 382 = .ok (.aload_n 0, 1) := by decide +kernel
theorem dL_refuses_383 : decode cL_refuses 383 = .ok (.iload_n 1, 1) := by decide +kernel
theorem dL_refuses_384 : decode cL_refuses 384 = .ok (.iconst 1, 1) := by decide +kernel
theorem dL_refuses_385 : decode cL_refuses 385 = .ok (.invokestatic 174, 3) := by decide +kernel
theorem dL_refuses_388 : decode cL_refuses 388 = .ok (.ldc 32, 2) := by decide +kernel
theorem dL_refuses_390 : decode cL_refuses 390 = .ok (.if_icmp .ne 194, 3) := by decide +kernel
theorem dL_refuses_393 : decode cL_refuses 393 = .ok (.aload_n 0, 1) := by decide +kernel
theorem dL_refuses_394 : decode cL_refuses 394 = .ok (.iconst 2, 1) := by decide +kernel
theorem dL_refuses_395 : decode cL_refuses 395 = .ok (.invokestatic 177, 3) := by decide +kernel
theorem dL_refuses_398 : decode cL_refuses 398 = .ok (.ldc 15, 2) := by decide +kernel
theorem dL_refuses_400 : decode cL_refuses 400 = .ok (.if_icmp .ne 184, 3) := by decide +kernel
theorem dL_refuses_403 : decode cL_refuses 403 = .ok (.aload_n 0, 1) := by decide +kernel
theorem dL_refuses_404 : decode cL_refuses 404 = .ok (.iload_n 1, 1) := by decide +kernel
theorem dL_refuses_405 : decode cL_refuses 405 = .ok (.bipush 61, 2) := by decide +kernel
theorem dL_refuses_407 : decode cL_refuses 407 = .ok (.sipush 512, 3) := by decide +kernel
theorem dL_refuses_410 : decode cL_refuses 410 = .ok (.bipush 11, 2) := by decide +kernel
theorem dL_refuses_412 : decode cL_refuses 412 = .ok (.invokestatic 180, 3) := by decide +kernel
theorem dL_refuses_415 : decode cL_refuses 415 = .ok (.ldc 32, 2) := by decide +kernel
theorem dL_refuses_417 : decode cL_refuses 417 = .ok (.if_icmp .ne 167, 3) := by decide +kernel
theorem dL_refuses_420 : decode cL_refuses 420 = .ok (.iload_n 1, 1) := by decide +kernel
theorem dL_refuses_421 : decode cL_refuses 421 = .ok (.ifCond .eq 69, 3) := by decide +kernel
theorem dL_refuses_424 : decode cL_refuses 424 = .ok (.aload_n 0, 1) := by decide +kernel
theorem dL_refuses_425 : decode cL_refuses 425 = .ok (.iconst 0, 1) := by decide +kernel
theorem dL_refuses_426 : decode cL_refuses 426 = .ok (.bipush 61, 2) := by decide +kernel
theorem dL_refuses_428 : decode cL_refuses 428 = .ok (.iconst 0, 1) := by decide +kernel
theorem dL_refuses_429 : decode cL_refuses 429 = .ok (.iconst 0, 1) := by decide +kernel
theorem dL_refuses_430 : decode cL_refuses 430 = .ok (.invokestatic 180, 3) := by decide +kernel
theorem dL_refuses_433 : decode cL_refuses 433 = .ok (.ldc 15, 2) := by decide +kernel
theorem dL_refuses_435 : decode cL_refuses 435 = .ok (.if_icmp .ne 149, 3) := by decide +kernel
theorem dL_refuses_438 : decode cL_refuses 438 = .ok (.aload_n 0, 1) := by decide +kernel
theorem dL_refuses_439 : decode cL_refuses 439 = .ok (.iconst 0, 1) := by decide +kernel
theorem dL_refuses_440 : decode cL_refuses 440 = .ok (.iconst 0, 1) := by decide +kernel
theorem dL_refuses_441 : decode cL_refuses 441 = .ok (.sipush 512, 3) := by decide +kernel
theorem dL_refuses_444 : decode cL_refuses 444 = .ok (.iconst 0, 1) := by decide +kernel
theorem dL_refuses_445 : decode cL_refuses 445 = .ok (.invokestatic 180, 3) := by decide +kernel
theorem dL_refuses_448 : decode cL_refuses 448 = .ok (.ldc 15, 2) := by decide +kernel
theorem dL_refuses_450 : decode cL_refuses 450 = .ok (.if_icmp .ne 134, 3) := by decide +kernel
theorem dL_refuses_453 : decode cL_refuses 453 = .ok (.aload_n 0, 1) := by decide +kernel
theorem dL_refuses_454 : decode cL_refuses 454 = .ok (.iconst 0, 1) := by decide +kernel
theorem dL_refuses_455 : decode cL_refuses 455 = .ok (.iconst 0, 1) := by decide +kernel
theorem dL_refuses_456 : decode cL_refuses 456 = .ok (.iconst 0, 1) := by decide +kernel
theorem dL_refuses_457 : decode cL_refuses 457 = .ok (.bipush 11, 2) := by decide +kernel
theorem dL_refuses_459 : decode cL_refuses 459 = .ok (.invokestatic 180, 3) := by decide +kernel
theorem dL_refuses_462 : decode cL_refuses 462 = .ok (.ldc 15, 2) := by decide +kernel
theorem dL_refuses_464 : decode cL_refuses 464 = .ok (.if_icmp .ne 120, 3) := by decide +kernel
theorem dL_refuses_467 : decode cL_refuses 467 = .ok (.aload_n 0, 1) := by decide +kernel
theorem dL_refuses_468 : decode cL_refuses 468 = .ok (.iconst 0, 1) := by decide +kernel
theorem dL_refuses_469 : decode cL_refuses 469 = .ok (.bipush 10, 2) := by decide +kernel
theorem dL_refuses_471 : decode cL_refuses 471 = .ok (.invokestatic 184, 3) := by decide +kernel
theorem dL_refuses_474 : decode cL_refuses 474 = .ok (.ldc 15, 2) := by decide +kernel
theorem dL_refuses_476 : decode cL_refuses 476 = .ok (.if_icmp .ne 108, 3) := by decide +kernel
theorem dL_refuses_479 : decode cL_refuses 479 = .ok (.aload_n 0, 1) := by decide +kernel
theorem dL_refuses_480 : decode cL_refuses 480 = .ok (.iconst 0, 1) := by decide +kernel
theorem dL_refuses_481 : decode cL_refuses 481 = .ok (.iconst (-1), 1) := by decide +kernel
theorem dL_refuses_482 : decode cL_refuses 482 = .ok (.invokestatic 161, 3) := by decide +kernel
theorem dL_refuses_485 : decode cL_refuses 485 = .ok (.ldc 15, 2) := by decide +kernel
theorem dL_refuses_487 : decode cL_refuses 487 = .ok (.if_icmp .ne 97, 3) := by decide +kernel
theorem dL_refuses_490 : decode cL_refuses 490 = .ok (.aload_n 0, 1) := by decide +kernel
theorem dL_refuses_491 : decode cL_refuses 491 = .ok (.iload_n 1, 1) := by decide +kernel
theorem dL_refuses_492 : decode cL_refuses 492 = .ok (.iconst 0, 1) := by decide +kernel
theorem dL_refuses_493 : decode cL_refuses 493 = .ok (.invokestatic 184, 3) := by decide +kernel
theorem dL_refuses_496 : decode cL_refuses 496 = .ok (.ldc 32, 2) := by decide +kernel
theorem dL_refuses_498 : decode cL_refuses 498 = .ok (.if_icmp .ne 86, 3) := by decide +kernel
theorem dL_refuses_501 : decode cL_refuses 501 = .ok (.aload_n 0, 1) := by decide +kernel
theorem dL_refuses_502 : decode cL_refuses 502 = .ok (.iload_n 1, 1) := by decide +kernel
theorem dL_refuses_503 : decode cL_refuses 503 = .ok (.iconst 0, 1) := by decide +kernel
theorem dL_refuses_504 : decode cL_refuses 504 = .ok (.invokestatic 161, 3) := by decide +kernel
theorem dL_refuses_507 : decode cL_refuses 507 = .ok (.ldc 32, 2) := by decide +kernel
theorem dL_refuses_509 : decode cL_refuses 509 = .ok (.if_icmp .ne 75, 3) := by decide +kernel
theorem dL_refuses_512 : decode cL_refuses 512 = .ok (.aload_n 0, 1) := by decide +kernel
theorem dL_refuses_513 : decode cL_refuses 513 = .ok (.iconst 5, 1) := by decide +kernel
theorem dL_refuses_514 : decode cL_refuses 514 = .ok (.lconst 0, 1) := by decide +kernel
theorem dL_refuses_515 : decode cL_refuses 515 = .ok (.invokestatic 187, 3) := by decide +kernel
theorem dL_refuses_518 : decode cL_refuses 518 = .ok (.ldc 15, 2) := by decide +kernel
theorem dL_refuses_520 : decode cL_refuses 520 = .ok (.if_icmp .ne 64, 3) := by decide +kernel
theorem dL_refuses_523 : decode cL_refuses 523 = .ok (.aload_n 0, 1) := by decide +kernel
theorem dL_refuses_524 : decode cL_refuses 524 = .ok (.iconst 1, 1) := by decide +kernel
theorem dL_refuses_525 : decode cL_refuses 525 = .ok (.ldc2_w 191, 3) := by decide +kernel
theorem dL_refuses_528 : decode cL_refuses 528 = .ok (.invokestatic 187, 3) := by decide +kernel
theorem dL_refuses_531 : decode cL_refuses 531 = .ok (.ldc 15, 2) := by decide +kernel
theorem dL_refuses_533 : decode cL_refuses 533 = .ok (.if_icmp .ne 51, 3) := by decide +kernel
theorem dL_refuses_536 : decode cL_refuses 536 = .ok (.aload_n 0, 1) := by decide +kernel
theorem dL_refuses_537 : decode cL_refuses 537 = .ok (.lconst 1, 1) := by decide +kernel
theorem dL_refuses_538 : decode cL_refuses 538 = .ok (.bipush 61, 2) := by decide +kernel
theorem dL_refuses_540 : decode cL_refuses 540 = .ok (.invokestatic 193, 3) := by decide +kernel
theorem dL_refuses_543 : decode cL_refuses 543 = .ok (.ldc 15, 2) := by decide +kernel
theorem dL_refuses_545 : decode cL_refuses 545 = .ok (.if_icmp .ne 39, 3) := by decide +kernel
theorem dL_refuses_548 : decode cL_refuses 548 = .ok (.aload_n 0, 1) := by decide +kernel
theorem dL_refuses_549 : decode cL_refuses 549 = .ok (.iconst 2, 1) := by decide +kernel
theorem dL_refuses_550 : decode cL_refuses 550 = .ok (.invokestatic 197, 3) := by decide +kernel
theorem dL_refuses_553 : decode cL_refuses 553 = .ok (.ldc 32, 2) := by decide +kernel
theorem dL_refuses_555 : decode cL_refuses 555 = .ok (.if_icmp .ne 29, 3) := by decide +kernel
theorem dL_refuses_558 : decode cL_refuses 558 = .ok (.aload_n 0, 1) := by decide +kernel
theorem dL_refuses_559 : decode cL_refuses 559 = .ok (.iconst (-1), 1) := by decide +kernel
theorem dL_refuses_560 : decode cL_refuses 560 = .ok (.invokestatic 136, 3) := by decide +kernel
theorem dL_refuses_563 : decode cL_refuses 563 = .ok (.ldc 32, 2) := by decide +kernel
theorem dL_refuses_565 : decode cL_refuses 565 = .ok (.if_icmp .ne 19, 3) := by decide +kernel
theorem dL_refuses_568 : decode cL_refuses 568 = .ok (.aload_n 0, 1) := by decide +kernel
theorem dL_refuses_569 : decode cL_refuses 569 = .ok (.sipush 256, 3) := by decide +kernel
theorem dL_refuses_572 : decode cL_refuses 572 = .ok (.invokestatic 100, 3) := by decide +kernel
theorem dL_refuses_575 : decode cL_refuses 575 = .ok (.ldc 15, 2) := by decide +kernel
theorem dL_refuses_577 : decode cL_refuses 577 = .ok (.if_icmp .ne 7, 3) := by decide +kernel
theorem dL_refuses_580 : decode cL_refuses 580 = .ok (.iconst 1, 1) := by decide +kernel
theorem dL_refuses_581 : decode cL_refuses 581 = .ok (.goto 4, 3) := by decide +kernel
theorem dL_refuses_584 : decode cL_refuses 584 = .ok (.iconst 0, 1) := by decide +kernel
theorem dL_refuses_585 : decode cL_refuses 585 = .ok (.ireturn, 1) := by decide +kernel
set_option maxRecDepth 20000 in
theorem ggL_lead_L_tryMember : GoodIn wsL_lead wsL_tryMember := goodIn_ca (goodIn_ca (goodIn_r _ [4, 5, 6, 7, 8, 9, 10, 11, 12, 13, 14, 15, 16, 17, 18, 19, 20, 21, 22, 23, 24, 25, 26, 27, 28, 29, 30, 31, 32, 33, 34, 35, 36, 37, 38, 39, 40, 41, 42, 43, 44, 45, 46, 47, 48, 49, 50, 51, 52, 53, 54, 55, 56, 57, 58, 59, 60, 61, 62, 63, 64, 65, 66, 67, 68, 69, 70, 71, 72, 73, 74, 75, 76] (by decide +kernel) (by decide +kernel)) (goodIn_sub (fun _ h => List.mem_cons_of_mem _ (List.mem_append_left _ (List.mem_append_right _ h))) (by decide +kernel))) (goodIn_sub (fun _ h => List.mem_cons_of_mem _ (List.mem_append_right _ h)) (by decide +kernel))
set_option maxRecDepth 20000 in
theorem gL_lead_L_tryMember : GoodIn wsL_lead (va_wsS RL 129 yL_tryMember wsL_tryMember) := goodIn_app (goodIn_of _ (by decide +kernel)) ggL_lead_L_tryMember
theorem dL_lead_0 : decode cL_lead 0 = .ok (.aload_n 0, 1) := by decide +kernel
theorem dL_lead_1 : decode cL_lead 1 = .ok (.iload_n 1, 1) := by decide +kernel
theorem dL_lead_2 : decode cL_lead 2 = .ok (.iconst 4, 1) := by decide +kernel
theorem dL_lead_3 : decode cL_lead 3 = .ok (.invokestatic 129, 3) := by decide +kernel
theorem dL_lead_6 : decode cL_lead 6 = .ok (.istore_n 3, 1) := by decide +kernel
theorem dL_lead_7 : decode cL_lead 7 = .ok (.aload_n 0, 1) := by decide +kernel
theorem dL_lead_8 : decode cL_lead 8 = .ok (.iload_n 2, 1) := by decide +kernel
theorem dL_lead_9 : decode cL_lead 9 = .ok (.iload_n 3, 1) := by decide +kernel
theorem dL_lead_10 : decode cL_lead 10 = .ok (.invokestatic 129, 3) := by decide +kernel
theorem dL_lead_13 : decode cL_lead 13 = .ok (.aload_n 0, 1) := by decide +kernel
theorem dL_lead_14 : decode cL_lead 14 = .ok (.iload_n 1, 1) := by decide +kernel
theorem dL_lead_15 : decode cL_lead 15 = .ok (.iload_n 3, 1) := by decide +kernel
theorem dL_lead_16 : decode cL_lead 16 = .ok (.invokestatic 129, 3) := by decide +kernel
theorem dL_lead_19 : decode cL_lead 19 = .ok (.isub, 1) := by decide +kernel
theorem dL_lead_20 : decode cL_lead 20 = .ok (.ireturn, 1) := by decide +kernel
set_option maxRecDepth 20000 in
theorem ggL_sound_L_tryAbout : GoodIn wsL_sound wsL_tryAbout := goodIn_ca (goodIn_r _ [4, 5, 6, 7, 8, 9, 10, 11, 12, 13, 14, 15, 16, 17, 18, 19, 20, 21, 22, 23, 24, 25, 26, 27, 28, 29, 30, 31, 32, 33, 34, 35, 36, 37, 38, 39, 40, 41, 42, 43, 44, 45, 46, 47, 48, 49, 50, 51, 52, 53, 54, 55, 56, 57, 58, 59, 60, 61, 62, 63, 64, 65, 66, 67, 68, 69, 70, 71, 72, 73, 74, 75, 76, 77, 78, 79, 80, 81, 82, 83, 84, 180, 181, 182, 183, 184, 185, 186, 187, 188, 189, 190, 191, 192, 193, 194, 195, 196] (by decide +kernel) (by decide +kernel)) (goodIn_sub (fun _ h => List.mem_cons_of_mem _ (List.mem_append_left _ (List.mem_append_right _ h))) (by decide +kernel))
set_option maxRecDepth 20000 in
theorem gL_sound_L_tryAbout : GoodIn wsL_sound (va_wsS RL 126 yL_tryAbout wsL_tryAbout) := goodIn_app (goodIn_of _ (by decide +kernel)) ggL_sound_L_tryAbout
set_option maxRecDepth 20000 in
theorem ggL_sound_L_tryMember : GoodIn wsL_sound wsL_tryMember := goodIn_ca (goodIn_ca (goodIn_r _ [87, 88, 5, 89, 6, 90, 91, 92, 10, 93, 14, 94, 95, 96, 97, 98, 99, 100, 30, 31, 20, 32, 22, 101, 102, 103, 12, 13, 104, 105, 106, 107, 27, 52, 51, 108, 46, 45, 28, 109, 110, 111, 112, 113, 81, 82, 83, 84, 65, 66, 67, 68, 47, 48, 49, 50, 180, 181, 182, 183, 184, 185, 186, 187, 188, 189, 190, 191, 192, 193, 194, 195, 196] (by decide +kernel) (by decide +kernel)) (goodIn_sub (fun _ h => List.mem_cons_of_mem _ (List.mem_append_right _ h)) (by decide +kernel))) (goodIn_sub (fun _ h => List.mem_cons_of_mem _ (List.mem_append_left _ (List.mem_append_right _ h))) (by decide +kernel))
set_option maxRecDepth 20000 in
theorem gL_sound_L_tryMember : GoodIn wsL_sound (va_wsS RL 129 yL_tryMember wsL_tryMember) := goodIn_app (goodIn_of _ (by decide +kernel)) ggL_sound_L_tryMember
set_option maxRecDepth 20000 in
theorem ggL_sound_L_tryBoth : GoodIn wsL_sound wsL_tryBoth := goodIn_ca (goodIn_ca (goodIn_r _ [116, 88, 5, 89, 6, 117, 118, 119, 10, 120, 12, 13, 14, 121, 122, 123, 124, 94, 95, 96, 97, 98, 99, 100, 30, 31, 20, 32, 22, 125, 42, 43, 44, 27, 45, 46, 47, 48, 49, 50, 51, 52, 53, 54, 55, 56, 126, 38, 39, 40, 41, 127, 66, 67, 68, 128, 62, 63, 64, 28, 65, 69, 70, 71, 72, 29, 180, 181, 182, 183, 184, 185, 186, 187, 188, 189, 190, 191, 192, 193, 194, 195, 196] (by decide +kernel) (by decide +kernel)) (goodIn_sub (fun _ h => List.mem_cons_of_mem _ (List.mem_append_left _ (List.mem_append_right _ h))) (by decide +kernel))) (goodIn_sub (fun _ h => List.mem_cons_of_mem _ (List.mem_append_right _ h)) (by decide +kernel))
set_option maxRecDepth 20000 in
theorem gL_sound_L_tryBoth : GoodIn wsL_sound (va_wsS RL 139 yL_tryBoth wsL_tryBoth) := goodIn_app (goodIn_of _ (by decide +kernel)) ggL_sound_L_tryBoth
set_option maxRecDepth 20000 in
theorem ggL_sound_L_lead : GoodIn wsL_sound wsL_lead := goodIn_ca (goodIn_ca (goodIn_r _ [131, 85, 86, 3, 87, 88, 5, 89, 6, 90, 91, 92, 10, 93, 14, 94, 95, 96, 97, 98, 99, 100, 30, 31, 20, 32, 22, 101, 102, 103, 12, 13, 104, 105, 106, 107, 27, 52, 51, 108, 46, 45, 28, 109, 110, 111, 112, 113, 81, 82, 83, 84, 65, 66, 67, 68, 47, 48, 49, 50, 180, 181, 182, 183, 184, 185, 186, 187, 188, 189, 190, 191, 192, 193, 194, 195, 196] (by decide +kernel) (by decide +kernel)) (goodIn_sub (fun _ h => List.mem_cons_of_mem _ (List.mem_append_right _ h)) (by decide +kernel))) (goodIn_sub (fun _ h => List.mem_cons_of_mem _ (List.mem_append_left _ (List.mem_append_right _ h))) (by decide +kernel))
set_option maxRecDepth 20000 in
theorem gL_sound_L_lead : GoodIn wsL_sound (va_wsS RL 200 yL_lead wsL_lead) := goodIn_app (goodIn_of _ (by decide +kernel)) ggL_sound_L_lead
set_option maxRecDepth 20000 in
theorem ggL_sound_L_tryBlocking : GoodIn wsL_sound wsL_tryBlocking := goodIn_ca (goodIn_r _ [134, 5, 6, 135, 136, 137, 10, 138, 12, 13, 14, 15, 128, 62, 63, 20, 64, 27, 28, 65, 66, 67, 68, 47, 48, 49, 50, 51, 52, 69, 70, 71, 72, 29, 30, 31, 32, 22, 41, 42, 43, 44, 45, 46, 53, 54, 55, 56, 180, 181, 182, 183, 184, 185, 186, 187, 188, 189, 190, 191, 192, 193, 194, 195, 196] (by decide +kernel) (by decide +kernel)) (goodIn_sub (fun _ h => List.mem_cons_of_mem _ (List.mem_append_left _ (List.mem_append_right _ h))) (by decide +kernel))
set_option maxRecDepth 20000 in
theorem gL_sound_L_tryBlocking : GoodIn wsL_sound (va_wsS RL 170 yL_tryBlocking wsL_tryBlocking) := goodIn_app (goodIn_of _ (by decide +kernel)) ggL_sound_L_tryBlocking
set_option maxRecDepth 20000 in
theorem ggL_sound_L_tryBest : GoodIn wsL_sound wsL_tryBest := goodIn_ca (goodIn_r _ [141, 5, 6, 142, 143, 144, 10, 145, 146, 14, 101, 102, 103, 12, 13, 147, 148, 149, 150, 151, 152, 153, 154, 155, 156, 157, 158, 159, 160, 161, 162, 163, 66, 67, 20, 68, 47, 48, 49, 50, 27, 51, 52, 164, 38, 39, 40, 41, 42, 43, 44, 45, 46, 53, 54, 55, 56, 165, 166, 167, 168, 169, 170, 171, 172, 173, 174, 175, 176, 177, 178, 179, 180, 181, 182, 183, 184, 185, 186, 197, 187, 188, 189, 190, 191, 192, 193, 194, 195, 196] (by decide +kernel) (by decide +kernel)) (goodIn_sub (fun _ h => List.mem_cons_of_mem _ (List.mem_append_left _ (List.mem_append_right _ h))) (by decide +kernel))
set_option maxRecDepth 20000 in
theorem gL_sound_L_tryBest : GoodIn wsL_sound (va_wsS RL 177 yL_tryBest wsL_tryBest) := goodIn_app (goodIn_of _ (by decide +kernel)) ggL_sound_L_tryBest
