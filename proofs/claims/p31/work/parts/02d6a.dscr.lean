theorem dL_scripts_0 : decode cL_scripts 0 = .ok (.aload_n 0, 1) := by decide +kernel
theorem dL_scripts_1 : decode cL_scripts 1 = .ok (.iconst 0, 1) := by decide +kernel
theorem dL_scripts_2 : decode cL_scripts 2 = .ok (.invokestatic 126, 3) := by decide +kernel
theorem dL_scripts_5 : decode cL_scripts 5 = .ok (.istore_n 2, 1) := by decide +kernel
theorem dL_scripts_6 : decode cL_scripts 6 = .ok (.aload_n 0, 1) := by decide +kernel
theorem dL_scripts_7 : decode cL_scripts 7 = .ok (.iconst 1, 1) := by decide +kernel
theorem dL_scripts_8 : decode cL_scripts 8 = .ok (.invokestatic 126, 3) := by decide +kernel
theorem dL_scripts_11 : decode cL_scripts 11 = .ok (.istore_n 3, 1) := by decide +kernel
theorem dL_scripts_12 : decode cL_scripts 12 = .ok (.aload_n 0, 1) := by decide +kernel
theorem dL_scripts_13 : decode cL_scripts 13 = .ok (.iload_n 1, 1) := by decide +kernel
theorem dL_scripts_14 : decode cL_scripts 14 = .ok (.i2l, 1) := by decide +kernel
theorem dL_scripts_15 : decode cL_scripts 15 = .ok (.ldc2_w 213, 3) := by decide +kernel
theorem dL_scripts_18 : decode cL_scripts 18 = .ok (.lmul, 1) := by decide +kernel
theorem dL_scripts_19 : decode cL_scripts 19 = .ok (.bipush 15, 2) := by decide +kernel
theorem dL_scripts_21 : decode cL_scripts 21 = .ok (.invokestatic 193, 3) := by decide +kernel
theorem dL_scripts_24 : decode cL_scripts 24 = .ok (.istore 4, 2) := by decide +kernel
theorem dL_scripts_26 : decode cL_scripts 26 = .ok (.aload_n 0, 1) := by decide +kernel
theorem dL_scripts_27 : decode cL_scripts 27 = .ok (.iconst 1, 1) := by decide +kernel
theorem dL_scripts_28 : decode cL_scripts 28 = .ok (.ldc2_w 215, 3) := by decide +kernel
theorem dL_scripts_31 : decode cL_scripts 31 = .ok (.iload_n 3, 1) := by decide +kernel
theorem dL_scripts_32 : decode cL_scripts 32 = .ok (.i2l, 1) := by decide +kernel
theorem dL_scripts_33 : decode cL_scripts 33 = .ok (.ladd, 1) := by decide +kernel
theorem dL_scripts_34 : decode cL_scripts 34 = .ok (.invokestatic 187, 3) := by decide +kernel
theorem dL_scripts_37 : decode cL_scripts 37 = .ok (.sipush (-9999), 3) := by decide +kernel
theorem dL_scripts_40 : decode cL_scripts 40 = .ok (.if_icmp .ne 171, 3) := by decide +kernel
theorem dL_scripts_43 : decode cL_scripts 43 = .ok (.aload_n 0, 1) := by decide +kernel
theorem dL_scripts_44 : decode cL_scripts 44 = .ok (.iconst 1, 1) := by decide +kernel
theorem dL_scripts_45 : decode cL_scripts 45 = .ok (.ldc2_w 217, 3) := by decide +kernel
theorem dL_scripts_48 : decode cL_scripts 48 = .ok (.iload_n 3, 1) := by decide +kernel
theorem dL_scripts_49 : decode cL_scripts 49 = .ok (.i2l, 1) := by decide +kernel
theorem dL_scripts_50 : decode cL_scripts 50 = .ok (.ladd, 1) := by decide +kernel
theorem dL_scripts_51 : decode cL_scripts 51 = .ok (.invokestatic 187, 3) := by decide +kernel
theorem dL_scripts_54 : decode cL_scripts 54 = .ok (.ifCond .ne 157, 3) := by decide +kernel
theorem dL_scripts_57 : decode cL_scripts 57 = .ok (.aload_n 0, 1) := by decide +kernel
theorem dL_scripts_58 : decode cL_scripts 58 = .ok (.iconst 1, 1) := by decide +kernel
theorem dL_scripts_59 : decode cL_scripts 59 = .ok (.ldc2_w 219, 3) := by decide +kernel
theorem dL_scripts_62 : decode cL_scripts 62 = .ok (.invokestatic 187, 3) := by decide +kernel
theorem dL_scripts_65 : decode cL_scripts 65 = .ok (.sipush (-9999), 3) := by decide +kernel
theorem dL_scripts_68 : decode cL_scripts 68 = .ok (.if_icmp .ne 143, 3) := by decide +kernel
theorem dL_scripts_71 : decode cL_scripts 71 = .ok (.aload_n 0, 1) := by decide +kernel
theorem dL_scripts_72 : decode cL_scripts 72 = .ok (.iconst 1, 1) := by decide +kernel
theorem dL_scripts_73 : decode cL_scripts 73 = .ok (.ldc2_w 221, 3) := by decide +kernel
theorem dL_scripts_76 : decode cL_scripts 76 = .ok (.invokestatic 187, 3) := by decide +kernel
theorem dL_scripts_79 : decode cL_scripts 79 = .ok (.ifCond .ne 132, 3) := by decide +kernel
theorem dL_scripts_82 : decode cL_scripts 82 = .ok (.aload_n 0, 1) := by decide +kernel
theorem dL_scripts_83 : decode cL_scripts 83 = .ok (.iconst 1, 1) := by decide +kernel
theorem dL_scripts_84 : decode cL_scripts 84 = .ok (.ldc2_w 223, 3) := by decide +kernel
theorem dL_scripts_87 : decode cL_scripts 87 = .ok (.invokestatic 187, 3) := by decide +kernel
theorem dL_scripts_90 : decode cL_scripts 90 = .ok (.ifCond .ne 121, 3) := by decide +kernel
theorem dL_scripts_93 : decode cL_scripts 93 = .ok (.aload_n 0, 1) := by decide +kernel
theorem dL_scripts_94 : decode cL_scripts 94 = .ok (.iconst 1, 1) := by decide +kernel
theorem dL_scripts_95 : decode cL_scripts 95 = .ok (.ldc2_w 225, 3) := by decide +kernel
theorem dL_scripts_98 : decode cL_scripts 98 = .ok (.invokestatic 187, 3) := by decide +kernel
theorem dL_scripts_101 : decode cL_scripts 101 = .ok (.ifCond .ne 110, 3) := by decide +kernel
theorem dL_scripts_104 : decode cL_scripts 104 = .ok (.aload_n 0, 1) := by decide +kernel
theorem dL_scripts_105 : decode cL_scripts 105 = .ok (.iconst 1, 1) := by decide +kernel
theorem dL_scripts_106 : decode cL_scripts 106 = .ok (.ldc2_w 227, 3) := by decide +kernel
theorem dL_scripts_109 : decode cL_scripts 109 = .ok (.invokestatic 187, 3) := by decide +kernel
theorem dL_scripts_112 : decode cL_scripts 112 = .ok (.sipush (-9999), 3) := by decide +kernel
theorem dL_scripts_115 : decode cL_scripts 115 = .ok (.if_icmp .ne 96, 3) := by decide +kernel
theorem dL_scripts_118 : decode cL_scripts 118 = .ok (.aload_n 0, 1) := by decide +kernel
theorem dL_scripts_119 : decode cL_scripts 119 = .ok (.iconst 1, 1) := by decide +kernel
theorem dL_scripts_120 : decode cL_scripts 120 = .ok (.ldc2_w 229, 3) := by decide +kernel
theorem dL_scripts_123 : decode cL_scripts 123 = .ok (.invokestatic 187, 3) := by decide +kernel
theorem dL_scripts_126 : decode cL_scripts 126 = .ok (.ifCond .ne 85, 3) := by decide +kernel
theorem dL_scripts_129 : decode cL_scripts 129 = .ok (.aload_n 0, 1) := by decide +kernel
theorem dL_scripts_130 : decode cL_scripts 130 = .ok (.iconst 1, 1) := by decide +kernel
theorem dL_scripts_131 : decode cL_scripts 131 = .ok (.ldc2_w 231, 3) := by decide +kernel
theorem dL_scripts_134 : decode cL_scripts 134 = .ok (.invokestatic 187, 3) := by decide +kernel
theorem dL_scripts_137 : decode cL_scripts 137 = .ok (.sipush (-9999), 3) := by decide +kernel
theorem dL_scripts_140 : decode cL_scripts 140 = .ok (.if_icmp .ne 71, 3) := by decide +kernel
theorem dL_scripts_143 : decode cL_scripts 143 = .ok (.aload_n 0, 1) := by decide +kernel
theorem dL_scripts_144 : decode cL_scripts 144 = .ok (.iconst 1, 1) := by decide +kernel
theorem dL_scripts_145 : decode cL_scripts 145 = .ok (.ldc2_w 233, 3) := by decide +kernel
theorem dL_scripts_148 : decode cL_scripts 148 = .ok (.invokestatic 187, 3) := by decide +kernel
theorem dL_scripts_151 : decode cL_scripts 151 = .ok (.ifCond .ne 60, 3) := by decide +kernel
theorem dL_scripts_154 : decode cL_scripts 154 = .ok (.aload_n 0, 1) := by decide +kernel
theorem dL_scripts_155 : decode cL_scripts 155 = .ok (.iconst 1, 1) := by decide +kernel
theorem dL_scripts_156 : decode cL_scripts 156 = .ok (.ldc2_w 235, 3) := by decide +kernel
theorem dL_scripts_159 : decode cL_scripts 159 = .ok (.invokestatic 187, 3) := by decide +kernel
theorem dL_scripts_162 : decode cL_scripts 162 = .ok (.ifCond .ne 49, 3) := by decide +kernel
theorem dL_scripts_165 : decode cL_scripts 165 = .ok (.aload_n 0, 1) := by decide +kernel
theorem dL_scripts_166 : decode cL_scripts 166 = .ok (.iconst 1, 1) := by decide +kernel
theorem dL_scripts_167 : decode cL_scripts 167 = .ok (.lconst 0, 1) := by decide +kernel
theorem dL_scripts_168 : decode cL_scripts 168 = .ok (.invokestatic 187, 3) := by decide +kernel
theorem dL_scripts_171 : decode cL_scripts 171 = .ok (.ifCond .ne 40, 3) := by decide +kernel
theorem dL_scripts_174 : decode cL_scripts 174 = .ok (.iload 4, 2) := by decide +kernel
theorem dL_scripts_176 : decode cL_scripts 176 = .ok (.sipush (-891), 3) := by decide +kernel
theorem dL_scripts_179 : decode cL_scripts 179 = .ok (.if_icmp .lt 32, 3) := by decide +kernel
theorem dL_scripts_182 : decode cL_scripts 182 = .ok (.iload 4, 2) := by decide +kernel
theorem dL_scripts_184 : decode cL_scripts 184 = .ok (.sipush 891, 3) := by decide +kernel
theorem dL_scripts_187 : decode cL_scripts 187 = .ok (.if_icmp .gt 24, 3) := by decide +kernel
theorem dL_scripts_190 : decode cL_scripts 190 = .ok (.iload 4, 2) := by decide +kernel
theorem dL_scripts_192 : decode cL_scripts 192 = .ok (.aload_n 0, 1) := by decide +kernel
theorem dL_scripts_193 : decode cL_scripts 193 = .ok (.iload_n 1, 1) := by decide +kernel
theorem dL_scripts_194 : decode cL_scripts 194 = .ok (.i2l, 1) := by decide +kernel
theorem dL_scripts_195 : decode cL_scripts 195 = .ok (.ldc2_w 213, 3) := by decide +kernel
theorem dL_scripts_198 : decode cL_scripts 198 = .ok (.lmul, 1) := by decide +kernel
theorem dL_scripts_199 : decode cL_scripts 199 = .ok (.bipush 15, 2) := by decide +kernel
theorem dL_scripts_201 : decode cL_scripts 201 = .ok (.invokestatic 193, 3) := by decide +kernel
theorem dL_scripts_204 : decode cL_scripts 204 = .ok (.if_icmp .ne 7, 3) := by decide +kernel
theorem dL_scripts_207 : decode cL_scripts 207 = .ok (.iconst 1, 1) := by decide +kernel
theorem dL_scripts_208 : decode cL_scripts 208 = .ok (.goto 4, 3) := by decide +kernel
theorem dL_scripts_211 : decode cL_scripts 211 = .ok (.iconst 0, 1) := by decide +kernel
theorem dL_scripts_212 : decode cL_scripts 212 = .ok (.istore 5, 2) := by decide +kernel
theorem dL_scripts_214 : decode cL_scripts 214 = .ok (.iload_n 2, 1) := by decide +kernel
theorem dL_scripts_215 : decode cL_scripts 215 = .ok (.ifCond .le 349, 3) := by decide +kernel
theorem dL_scripts_218 : decode cL_scripts 218 = .ok (.iload 5, 2) := by decide +kernel
theorem dL_scripts_220 : decode cL_scripts 220 = .ok (.ifCond .eq 344, 3) := by decide +kernel
theorem dL_scripts_223 : decode cL_scripts 223 = .ok (.iload_n 1, 1) := by decide +kernel
theorem dL_scripts_224 : decode cL_scripts 224 = .ok (.iload_n 2, 1) := by decide +kernel
theorem dL_scripts_225 : decode cL_scripts 225 = .ok (.irem, 1) := by decide +kernel
theorem dL_scripts_226 : decode cL_scripts 226 = .ok (.istore 6, 2) := by decide +kernel
theorem dL_scripts_228 : decode cL_scripts 228 = .ok (.iload_n 1, 1) := by decide +kernel
theorem dL_scripts_229 : decode cL_scripts 229 = .ok (.bipush 16, 2) := by decide +kernel
theorem dL_scripts_231 : decode cL_scripts 231 = .ok (.idiv, 1) := by decide +kernel
theorem dL_scripts_232 : decode cL_scripts 232 = .ok (.iconst 4, 1) := by decide +kernel
theorem dL_scripts_233 : decode cL_scripts 233 = .ok (.irem, 1) := by decide +kernel
theorem dL_scripts_234 : decode cL_scripts 234 = .ok (.istore 7, 2) := by decide +kernel
theorem dL_scripts_236 : decode cL_scripts 236 = .ok (.aload_n 0, 1) := by decide +kernel
theorem dL_scripts_237 : decode cL_scripts 237 = .ok (.iload 6, 2) := by decide +kernel
theorem dL_scripts_239 : decode cL_scripts 239 = .ok (.iload 7, 2) := by decide +kernel
theorem dL_scripts_241 : decode cL_scripts 241 = .ok (.invokestatic 129, 3) := by decide +kernel
theorem dL_scripts_244 : decode cL_scripts 244 = .ok (.istore 8, 2) := by decide +kernel
theorem dL_scripts_246 : decode cL_scripts 246 = .ok (.aload_n 0, 1) := by decide +kernel
theorem dL_scripts_247 : decode cL_scripts 247 = .ok (.iload 6, 2) := by decide +kernel
theorem dL_scripts_249 : decode cL_scripts 249 = .ok (.bipush 8, 2) := by decide +kernel
theorem dL_scripts_251 : decode cL_scripts 251 = .ok (.invokestatic 129, 3) := by decide +kernel
theorem dL_scripts_254 : decode cL_scripts 254 = .ok (.istore 9, 2) := by decide +kernel
theorem dL_scripts_256 : decode cL_scripts 256 = .ok (.aload_n 0, 1) := by decide +kernel
theorem dL_scripts_257 : decode cL_scripts 257 = .ok (.iconst 1, 1) := by decide +kernel
theorem dL_scripts_258 : decode cL_scripts 258 = .ok (.ldc2_w 237, 3) := by decide +kernel
theorem dL_scripts_261 : decode cL_scripts 261 = .ok (.ldc2_w 239, 3) := by decide +kernel
theorem dL_scripts_264 : decode cL_scripts 264 = .ok (.iload 6, 2) := by decide +kernel
theorem dL_scripts_266 : decode cL_scripts 266 = .ok (.i2l, 1) := by decide +kernel
theorem dL_scripts_267 : decode cL_scripts 267 = .ok (.lmul, 1) := by decide +kernel
theorem dL_scripts_268 : decode cL_scripts 268 = .ok (.ladd, 1) := by decide +kernel
theorem dL_scripts_269 : decode cL_scripts 269 = .ok (.ldc2_w 241, 3) := by decide +kernel
theorem dL_scripts_272 : decode cL_scripts 272 = .ok (.iload 7, 2) := by decide +kernel
theorem dL_scripts_274 : decode cL_scripts 274 = .ok (.i2l, 1) := by decide +kernel
theorem dL_scripts_275 : decode cL_scripts 275 = .ok (.lmul, 1) := by decide +kernel
theorem dL_scripts_276 : decode cL_scripts 276 = .ok (.ladd, 1) := by decide +kernel
theorem dL_scripts_277 : decode cL_scripts 277 = .ok (.iload 8, 2) := by decide +kernel
theorem dL_scripts_279 : decode cL_scripts 279 = .ok (.i2l, 1) := by decide +kernel
theorem dL_scripts_280 : decode cL_scripts 280 = .ok (.ladd, 1) := by decide +kernel
theorem dL_scripts_281 : decode cL_scripts 281 = .ok (.invokestatic 187, 3) := by decide +kernel
theorem dL_scripts_284 : decode cL_scripts 284 = .ok (.sipush (-9999), 3) := by decide +kernel
theorem dL_scripts_287 : decode cL_scripts 287 = .ok (.if_icmp .ne 274, 3) := by decide +kernel
theorem dL_scripts_290 : decode cL_scripts 290 = .ok (.aload_n 0, 1) := by decide +kernel
theorem dL_scripts_291 : decode cL_scripts 291 = .ok (.iconst 1, 1) := by decide +kernel
theorem dL_scripts_292 : decode cL_scripts 292 = .ok (.ldc2_w 237, 3) := by decide +kernel
theorem dL_scripts_295 : decode cL_scripts 295 = .ok (.ldc2_w 239, 3) := by decide +kernel
theorem dL_scripts_298 : decode cL_scripts 298 = .ok (.iload 6, 2) := by decide +kernel
theorem dL_scripts_300 : decode cL_scripts 300 = .ok (.i2l, 1) := by decide +kernel
theorem dL_scripts_301 : decode cL_scripts 301 = .ok (.lmul, 1) := by decide +kernel
theorem dL_scripts_302 : decode cL_scripts 302 = .ok (.ladd, 1) := by decide +kernel
theorem dL_scripts_303 : decode cL_scripts 303 = .ok (.ldc2_w 241, 3) := by decide +kernel
theorem dL_scripts_306 : decode cL_scripts 306 = .ok (.iload 7, 2) := by decide +kernel
theorem dL_scripts_308 : decode cL_scripts 308 = .ok (.i2l, 1) := by decide +kernel
theorem dL_scripts_309 : decode cL_scripts 309 = .ok (.lmul, 1) := by decide +kernel
theorem dL_scripts_310 : decode cL_scripts 310 = .ok (.ladd, 1) := by decide +kernel
theorem dL_scripts_311 : decode cL_scripts 311 = .ok (.iload 8, 2) := by decide +kernel
theorem dL_scripts_313 : decode cL_scripts 313 = .ok (.iconst 1, 1) := by decide +kernel
theorem dL_scripts_314 : decode cL_scripts 314 = .ok (.iadd, 1) := by decide +kernel
theorem dL_scripts_315 : decode cL_scripts 315 = .ok (.bipush 10, 2) := by decide +kernel
theorem dL_scripts_317 : decode cL_scripts 317 = .ok (.irem, 1) := by decide +kernel
theorem dL_scripts_318 : decode cL_scripts 318 = .ok (.i2l, 1) := by decide +kernel
theorem dL_scripts_319 : decode cL_scripts 319 = .ok (.ladd, 1) := by decide +kernel
theorem dL_scripts_320 : decode cL_scripts 320 = .ok (.invokestatic 187, 3) := by decide +kernel
theorem dL_scripts_323 : decode cL_scripts 323 = .ok (.ifCond .ne 238, 3) := by decide +kernel
theorem dL_scripts_326 : decode cL_scripts 326 = .ok (.aload_n 0, 1) := by decide +kernel
theorem dL_scripts_327 : decode cL_scripts 327 = .ok (.iconst 2, 1) := by decide +kernel
theorem dL_scripts_328 : decode cL_scripts 328 = .ok (.ldc2_w 243, 3) := by decide +kernel
theorem dL_scripts_331 : decode cL_scripts 331 = .ok (.ldc2_w 239, 3) := by decide +kernel
theorem dL_scripts_334 : decode cL_scripts 334 = .ok (.iload 6, 2) := by decide +kernel
theorem dL_scripts_336 : decode cL_scripts 336 = .ok (.i2l, 1) := by decide +kernel
theorem dL_scripts_337 : decode cL_scripts 337 = .ok (.lmul, 1) := by decide +kernel
theorem dL_scripts_338 : decode cL_scripts 338 = .ok (.ladd, 1) := by decide +kernel
theorem dL_scripts_339 : decode cL_scripts 339 = .ok (.ldc2_w 241, 3) := by decide +kernel
theorem dL_scripts_342 : decode cL_scripts 342 = .ok (.iload 7, 2) := by decide +kernel
theorem dL_scripts_344 : decode cL_scripts 344 = .ok (.i2l, 1) := by decide +kernel
theorem dL_scripts_345 : decode cL_scripts 345 = .ok (.lmul, 1) := by decide +kernel
theorem dL_scripts_346 : decode cL_scripts 346 = .ok (.ladd, 1) := by decide +kernel
theorem dL_scripts_347 : decode cL_scripts 347 = .ok (.ldc2_w 245, 3) := by decide +kernel
theorem dL_scripts_350 : decode cL_scripts 350 = .ok (.ladd, 1) := by decide +kernel
theorem dL_scripts_351 : decode cL_scripts 351 = .ok (.ldc2_w 191, 3) := by decide +kernel
theorem dL_scripts_354 : decode cL_scripts 354 = .ok (.lmul, 1) := by decide +kernel
theorem dL_scripts_355 : decode cL_scripts 355 = .ok (.ldc2_w 247, 3) := by decide +kernel
theorem dL_scripts_358 : decode cL_scripts 358 = .ok (.ladd, 1) := by decide +kernel
theorem dL_scripts_359 : decode cL_scripts 359 = .ok (.ldc2_w 239, 3) := by decide +kernel
theorem dL_scripts_362 : decode cL_scripts 362 = .ok (.iload 6, 2) := by decide +kernel
theorem dL_scripts_364 : decode cL_scripts 364 = .ok (.i2l, 1) := by decide +kernel
theorem dL_scripts_365 : decode cL_scripts 365 = .ok (.lmul, 1) := by decide +kernel
theorem dL_scripts_366 : decode cL_scripts 366 = .ok (.ladd, 1) := by decide +kernel
theorem dL_scripts_367 : decode cL_scripts 367 = .ok (.ldc2_w 241, 3) := by decide +kernel
theorem dL_scripts_370 : decode cL_scripts 370 = .ok (.iload 7, 2) := by decide +kernel
theorem dL_scripts_372 : decode cL_scripts 372 = .ok (.i2l, 1) := by decide +kernel
theorem dL_scripts_373 : decode cL_scripts 373 = .ok (.lmul, 1) := by decide +kernel
theorem dL_scripts_374 : decode cL_scripts 374 = .ok (.ladd, 1) := by decide +kernel
theorem dL_scripts_375 : decode cL_scripts 375 = .ok (.invokestatic 187, 3) := by decide +kernel
theorem dL_scripts_378 : decode cL_scripts 378 = .ok (.sipush (-9999), 3) := by decide +kernel
theorem dL_scripts_381 : decode cL_scripts 381 = .ok (.if_icmp .ne 180, 3) := by decide +kernel
theorem dL_scripts_384 : decode cL_scripts 384 = .ok (.aload_n 0, 1) := by decide +kernel
theorem dL_scripts_385 : decode cL_scripts 385 = .ok (.iconst 1, 1) := by decide +kernel
theorem dL_scripts_386 : decode cL_scripts 386 = .ok (.ldc2_w 249, 3) := by decide +kernel
theorem dL_scripts_389 : decode cL_scripts 389 = .ok (.ldc2_w 239, 3) := by decide +kernel
theorem dL_scripts_392 : decode cL_scripts 392 = .ok (.iload 6, 2) := by decide +kernel
theorem dL_scripts_394 : decode cL_scripts 394 = .ok (.i2l, 1) := by decide +kernel
theorem dL_scripts_395 : decode cL_scripts 395 = .ok (.lmul, 1) := by decide +kernel
theorem dL_scripts_396 : decode cL_scripts 396 = .ok (.ladd, 1) := by decide +kernel
theorem dL_scripts_397 : decode cL_scripts 397 = .ok (.invokestatic 187, 3) := by decide +kernel
theorem dL_scripts_400 : decode cL_scripts 400 = .ok (.ifCond .ne 161, 3) := by decide +kernel
theorem dL_scripts_403 : decode cL_scripts 403 = .ok (.aload_n 0, 1) := by decide +kernel
theorem dL_scripts_404 : decode cL_scripts 404 = .ok (.iconst 1, 1) := by decide +kernel
theorem dL_scripts_405 : decode cL_scripts 405 = .ok (.ldc2_w 251, 3) := by decide +kernel
theorem dL_scripts_408 : decode cL_scripts 408 = .ok (.ldc2_w 239, 3) := by decide +kernel
theorem dL_scripts_411 : decode cL_scripts 411 = .ok (.iload 6, 2) := by decide +kernel
theorem dL_scripts_413 : decode cL_scripts 413 = .ok (.i2l, 1) := by decide +kernel
theorem dL_scripts_414 : decode cL_scripts 414 = .ok (.lmul, 1) := by decide +kernel
theorem dL_scripts_415 : decode cL_scripts 415 = .ok (.ladd, 1) := by decide +kernel
theorem dL_scripts_416 : decode cL_scripts 416 = .ok (.invokestatic 187, 3) := by decide +kernel
theorem dL_scripts_419 : decode cL_scripts 419 = .ok (.iload 9, 2) := by decide +kernel
theorem dL_scripts_421 : decode cL_scripts 421 = .ok (.sipush (-9999), 3) := by decide +kernel
theorem dL_scripts_424 : decode cL_scripts 424 = .ok (.if_icmp .ne 7, 3) := by decide +kernel
theorem dL_scripts_427 : decode cL_scripts 427 = .ok (.iconst 0, 1) := by decide +kernel
theorem dL_scripts_428 : decode cL_scripts 428 = .ok (.goto 6, 3) := by decide +kernel
theorem dL_scripts_431 : decode cL_scripts 431 = .ok (.sipush (-9999), 3) := by decide +kernel
theorem dL_scripts_434 : decode cL_scripts 434 = .ok (.if_icmp .ne 127, 3) := by decide +kernel
theorem dL_scripts_437 : decode cL_scripts 437 = .ok (.iload 9, 2) := by decide +kernel
theorem dL_scripts_439 : decode cL_scripts 439 = .ok (.sipush (-9999), 3) := by decide +kernel
theorem dL_scripts_442 : decode cL_scripts 442 = .ok (.if_icmp .eq 77, 3) := by decide +kernel
theorem dL_scripts_445 : decode cL_scripts 445 = .ok (.aload_n 0, 1) := by decide +kernel
theorem dL_scripts_446 : decode cL_scripts 446 = .ok (.iconst 1, 1) := by decide +kernel
theorem dL_scripts_447 : decode cL_scripts 447 = .ok (.ldc2_w 253, 3) := by decide +kernel
theorem dL_scripts_450 : decode cL_scripts 450 = .ok (.ldc2_w 239, 3) := by decide +kernel
theorem dL_scripts_453 : decode cL_scripts 453 = .ok (.iload 6, 2) := by decide +kernel
theorem dL_scripts_455 : decode cL_scripts 455 = .ok (.i2l, 1) := by decide +kernel
theorem dL_scripts_456 : decode cL_scripts 456 = .ok (.lmul, 1) := by decide +kernel
theorem dL_scripts_457 : decode cL_scripts 457 = .ok (.ladd, 1) := by decide +kernel
theorem dL_scripts_458 : decode cL_scripts 458 = .ok (.ldc2_w 241, 3) := by decide +kernel
theorem dL_scripts_461 : decode cL_scripts 461 = .ok (.iload 9, 2) := by decide +kernel
theorem dL_scripts_463 : decode cL_scripts 463 = .ok (.i2l, 1) := by decide +kernel
theorem dL_scripts_464 : decode cL_scripts 464 = .ok (.lmul, 1) := by decide +kernel
theorem dL_scripts_465 : decode cL_scripts 465 = .ok (.ladd, 1) := by decide +kernel
theorem dL_scripts_466 : decode cL_scripts 466 = .ok (.invokestatic 187, 3) := by decide +kernel
theorem dL_scripts_469 : decode cL_scripts 469 = .ok (.sipush (-9999), 3) := by decide +kernel
theorem dL_scripts_472 : decode cL_scripts 472 = .ok (.if_icmp .ne 89, 3) := by decide +kernel
theorem dL_scripts_475 : decode cL_scripts 475 = .ok (.aload_n 0, 1) := by decide +kernel
theorem dL_scripts_476 : decode cL_scripts 476 = .ok (.iconst 2, 1) := by decide +kernel
theorem dL_scripts_477 : decode cL_scripts 477 = .ok (.ldc2_w 251, 3) := by decide +kernel
theorem dL_scripts_480 : decode cL_scripts 480 = .ok (.ldc2_w 239, 3) := by decide +kernel
theorem dL_scripts_483 : decode cL_scripts 483 = .ok (.iload 6, 2) := by decide +kernel
theorem dL_scripts_485 : decode cL_scripts 485 = .ok (.i2l, 1) := by decide +kernel
theorem dL_scripts_486 : decode cL_scripts 486 = .ok (.lmul, 1) := by decide +kernel
theorem dL_scripts_487 : decode cL_scripts 487 = .ok (.ladd, 1) := by decide +kernel
theorem dL_scripts_488 : decode cL_scripts 488 = .ok (.ldc2_w 191, 3) := by decide +kernel
theorem dL_scripts_491 : decode cL_scripts 491 = .ok (.lmul, 1) := by decide +kernel
theorem dL_scripts_492 : decode cL_scripts 492 = .ok (.ldc2_w 253, 3) := by decide +kernel
theorem dL_scripts_495 : decode cL_scripts 495 = .ok (.ladd, 1) := by decide +kernel
theorem dL_scripts_496 : decode cL_scripts 496 = .ok (.ldc2_w 239, 3) := by decide +kernel
theorem dL_scripts_499 : decode cL_scripts 499 = .ok (.iload 6, 2) := by decide +kernel
theorem dL_scripts_501 : decode cL_scripts 501 = .ok (.i2l, 1) := by decide +kernel
theorem dL_scripts_502 : decode cL_scripts 502 = .ok (.lmul, 1) := by decide +kernel
theorem dL_scripts_503 : decode cL_scripts 503 = .ok (.ladd, 1) := by decide +kernel
theorem dL_scripts_504 : decode cL_scripts 504 = .ok (.ldc2_w 241, 3) := by decide +kernel
theorem dL_scripts_507 : decode cL_scripts 507 = .ok (.iload 9, 2) := by decide +kernel
theorem dL_scripts_509 : decode cL_scripts 509 = .ok (.i2l, 1) := by decide +kernel
theorem dL_scripts_510 : decode cL_scripts 510 = .ok (.lmul, 1) := by decide +kernel
theorem dL_scripts_511 : decode cL_scripts 511 = .ok (.ladd, 1) := by decide +kernel
theorem dL_scripts_512 : decode cL_scripts 512 = .ok (.invokestatic 187, 3) := by decide +kernel
theorem dL_scripts_515 : decode cL_scripts 515 = .ok (.iconst 1, 1) := by decide +kernel
theorem dL_scripts_516 : decode cL_scripts 516 = .ok (.if_icmp .ne 45, 3) := by decide +kernel
theorem dL_scripts_519 : decode cL_scripts 519 = .ok (.aload_n 0, 1) := by decide +kernel
theorem dL_scripts_520 : decode cL_scripts 520 = .ok (.iconst 1, 1) := by decide +kernel
theorem dL_scripts_521 : decode cL_scripts 521 = .ok (.ldc2_w 255, 3) := by decide +kernel
theorem dL_scripts_524 : decode cL_scripts 524 = .ok (.ldc2_w 257, 3) := by decide +kernel
theorem dL_scripts_527 : decode cL_scripts 527 = .ok (.iload 6, 2) := by decide +kernel
theorem dL_scripts_529 : decode cL_scripts 529 = .ok (.i2l, 1) := by decide +kernel
theorem dL_scripts_530 : decode cL_scripts 530 = .ok (.lmul, 1) := by decide +kernel
theorem dL_scripts_531 : decode cL_scripts 531 = .ok (.ladd, 1) := by decide +kernel
theorem dL_scripts_532 : decode cL_scripts 532 = .ok (.invokestatic 187, 3) := by decide +kernel
theorem dL_scripts_535 : decode cL_scripts 535 = .ok (.ifCond .ne 26, 3) := by decide +kernel
theorem dL_scripts_538 : decode cL_scripts 538 = .ok (.aload_n 0, 1) := by decide +kernel
theorem dL_scripts_539 : decode cL_scripts 539 = .ok (.iconst 1, 1) := by decide +kernel
theorem dL_scripts_540 : decode cL_scripts 540 = .ok (.ldc2_w 253, 3) := by decide +kernel
theorem dL_scripts_543 : decode cL_scripts 543 = .ok (.ldc2_w 257, 3) := by decide +kernel
theorem dL_scripts_546 : decode cL_scripts 546 = .ok (.iload 6, 2) := by decide +kernel
theorem dL_scripts_548 : decode cL_scripts 548 = .ok (.i2l, 1) := by decide +kernel
theorem dL_scripts_549 : decode cL_scripts 549 = .ok (.lmul, 1) := by decide +kernel
theorem dL_scripts_550 : decode cL_scripts 550 = .ok (.ladd, 1) := by decide +kernel
theorem dL_scripts_551 : decode cL_scripts 551 = .ok (.invokestatic 187, 3) := by decide +kernel
theorem dL_scripts_554 : decode cL_scripts 554 = .ok (.ifCond .ne 7, 3) := by decide +kernel
theorem dL_scripts_557 : decode cL_scripts 557 = .ok (.iconst 1, 1) := by decide +kernel
theorem dL_scripts_558 : decode cL_scripts 558 = .ok (.goto 4, 3) := by decide +kernel
theorem dL_scripts_561 : decode cL_scripts 561 = .ok (.iconst 0, 1) := by decide +kernel
theorem dL_scripts_562 : decode cL_scripts 562 = .ok (.istore 5, 2) := by decide +kernel
theorem dL_scripts_564 : decode cL_scripts 564 = .ok (.iload 5, 2) := by decide +kernel
theorem dL_scripts_566 : decode cL_scripts 566 = .ok (.ifCond .eq 31, 3) := by decide +kernel
theorem dL_scripts_569 : decode cL_scripts 569 = .ok (.iload_n 2, 1) := by decide +kernel
theorem dL_scripts_570 : decode cL_scripts 570 = .ok (.bipush 9, 2) := by decide +kernel
theorem dL_scripts_572 : decode cL_scripts 572 = .ok (.if_icmp .eq 21, 3) := by decide +kernel
theorem dL_scripts_575 : decode cL_scripts 575 = .ok (.aload_n 0, 1) := by decide +kernel
theorem dL_scripts_576 : decode cL_scripts 576 = .ok (.iconst 1, 1) := by decide +kernel
theorem dL_scripts_577 : decode cL_scripts 577 = .ok (.ldc2_w 251, 3) := by decide +kernel
theorem dL_scripts_580 : decode cL_scripts 580 = .ok (.ldc2_w 239, 3) := by decide +kernel
theorem dL_scripts_583 : decode cL_scripts 583 = .ok (.iload_n 2, 1) := by decide +kernel
theorem dL_scripts_584 : decode cL_scripts 584 = .ok (.i2l, 1) := by decide +kernel
theorem dL_scripts_585 : decode cL_scripts 585 = .ok (.lmul, 1) := by decide +kernel
theorem dL_scripts_586 : decode cL_scripts 586 = .ok (.ladd, 1) := by decide +kernel
theorem dL_scripts_587 : decode cL_scripts 587 = .ok (.invokestatic 187, 3) := by decide +kernel
theorem dL_scripts_590 : decode cL_scripts 590 = .ok (.ifCond .ne 7, 3) := by decide +kernel
theorem dL_scripts_593 : decode cL_scripts 593 = .ok (.iconst 1, 1) := by decide +kernel
theorem dL_scripts_594 : decode cL_scripts 594 = .ok (.goto 4, 3) := by decide +kernel
theorem dL_scripts_597 : decode cL_scripts 597 = .ok (.iconst 0, 1) := by decide +kernel
theorem dL_scripts_598 : decode cL_scripts 598 = .ok (.ireturn, 1) := by decide +kernel
set_option maxRecDepth 20000 in
theorem ggL_act_L_tryAbout : GoodIn wsL_act wsL_tryAbout := goodIn_ca (goodIn_r _ [5, 6, 7, 8, 9, 10, 11, 12, 13, 14, 15, 16, 17, 18, 19, 20, 21, 22, 23, 24, 25, 26, 27, 28, 29, 30, 31, 32, 33, 34, 35, 36, 37, 38, 39, 40, 41, 42, 43, 44, 45, 46, 47, 48, 49, 50, 51, 52, 53, 54, 55, 56, 57, 58, 59, 60, 61, 62, 63, 64, 65, 66, 67, 68, 69, 70, 71, 72, 73, 74, 75, 76, 77, 78, 79, 80, 81, 82, 83, 84, 85, 343, 344, 345, 346, 347, 348, 349, 350, 351, 352, 353, 354, 355, 356, 357, 358, 359] rfl (by decide +kernel)) (goodIn_sub (fun _ h => List.mem_cons_of_mem _ (List.mem_append_left _ (List.mem_append_left _ (List.mem_append_right _ h)))) (by decide +kernel))
set_option maxRecDepth 20000 in
theorem gL_act_L_tryAbout : GoodIn wsL_act (va_wsS RL 126 yL_tryAbout wsL_tryAbout) := goodIn_app (goodIn_of _ (by decide +kernel)) ggL_act_L_tryAbout
set_option maxRecDepth 20000 in
theorem ggL_act_L_tryJoin : GoodIn wsL_act wsL_tryJoin := goodIn_ca (goodIn_ca (goodIn_r _ [88, 6, 89, 7, 90, 91, 92, 93, 11, 94, 95, 96, 15, 16, 97, 98, 99, 100, 101, 102, 103, 13, 14, 104, 105, 106, 107, 108, 109, 110, 111, 112, 113, 114, 21, 115, 23, 28, 116, 117, 118, 119, 120, 121, 122, 123, 124, 125, 126, 127, 128, 129, 130, 131, 132, 133, 134, 135, 136, 137, 138, 139, 140, 343, 344, 345, 346, 347, 348, 349, 350, 351, 352, 360, 361, 362, 353, 354, 355, 356, 357, 358, 359] rfl (by decide +kernel)) (goodIn_sub (fun _ h => List.mem_cons_of_mem _ (List.mem_append_left _ (List.mem_append_right _ h))) (by decide +kernel))) (goodIn_sub (fun _ h => List.mem_cons_of_mem _ (List.mem_append_left _ (List.mem_append_left _ (List.mem_append_right _ h)))) (by decide +kernel))
set_option maxRecDepth 20000 in
theorem gL_act_L_tryJoin : GoodIn wsL_act (va_wsS RL 143 yL_tryJoin wsL_tryJoin) := goodIn_app (goodIn_of _ (by decide +kernel)) ggL_act_L_tryJoin
set_option maxRecDepth 20000 in
theorem ggL_act_L_tryLeave : GoodIn wsL_act wsL_tryLeave := goodIn_ca (goodIn_r _ [143, 144, 145, 146, 147, 148, 11, 149, 97, 15, 150, 151, 152, 153, 154, 155, 156, 157, 158, 31, 32, 21, 33, 23, 104, 105, 106, 107, 108, 109, 110, 111, 112, 113, 114, 115, 28, 116, 117, 118, 119, 120, 121, 122, 123, 124, 125, 126, 127, 128, 129, 130, 131, 132, 159, 160, 161, 162, 29, 163, 164, 165, 166, 30, 343, 344, 345, 346, 347, 348, 349, 350, 351, 352, 353, 354, 355, 356, 357, 358, 359, 360, 361, 362] rfl (by decide +kernel)) (goodIn_sub (fun _ h => List.mem_cons_of_mem _ (List.mem_append_right _ h)) (by decide +kernel))
set_option maxRecDepth 20000 in
theorem gL_act_L_tryLeave : GoodIn wsL_act (va_wsS RL 146 yL_tryLeave wsL_tryLeave) := goodIn_app (goodIn_of _ (by decide +kernel)) ggL_act_L_tryLeave
