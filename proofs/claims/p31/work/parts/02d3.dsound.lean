theorem dL_sound_0 : decode cL_sound 0 = .ok (.aload_n 0, 1) := by decide +kernel
theorem dL_sound_1 : decode cL_sound 1 = .ok (.iconst 0, 1) := by decide +kernel
theorem dL_sound_2 : decode cL_sound 2 = .ok (.invokestatic 126, 3) := by decide +kernel
theorem dL_sound_5 : decode cL_sound 5 = .ok (.istore_n 1, 1) := by decide +kernel
theorem dL_sound_6 : decode cL_sound 6 = .ok (.iconst 0, 1) := by decide +kernel
theorem dL_sound_7 : decode cL_sound 7 = .ok (.istore_n 2, 1) := by decide +kernel
theorem dL_sound_8 : decode cL_sound 8 = .ok (.iconst 0, 1) := by decide +kernel
theorem dL_sound_9 : decode cL_sound 9 = .ok (.istore_n 3, 1) := by decide +kernel
theorem dL_sound_10 : decode cL_sound 10 = .ok (.iconst 0, 1) := by decide +kernel
theorem dL_sound_11 : decode cL_sound 11 = .ok (.istore 4, 2) := by decide +kernel
theorem dL_sound_13 : decode cL_sound 13 = .ok (.iconst 0, 1) := by decide +kernel
theorem dL_sound_14 : decode cL_sound 14 = .ok (.istore 5, 2) := by decide +kernel
theorem dL_sound_16 : decode cL_sound 16 = .ok (.iconst 1, 1) := by decide +kernel
theorem dL_sound_17 : decode cL_sound 17 = .ok (.istore 6, 2) := by decide +kernel
theorem dL_sound_19 : decode cL_sound 19 = .ok (.iconst 0, 1) := by decide +kernel
theorem dL_sound_20 : decode cL_sound 20 = .ok (.istore 7, 2) := by decide +kernel
theorem dL_sound_22 : decode cL_sound 22 = .ok (.iload 7, 2) := by decide +kernel
theorem dL_sound_24 : decode cL_sound 24 = .ok (.iload_n 1, 1) := by decide +kernel
theorem dL_sound_25 : decode cL_sound 25 = .ok (.if_icmp .ge 602, 3) := by decide +kernel
theorem dL_sound_28 : decode cL_sound 28 = .ok (.iload 6, 2) := by decide +kernel
theorem dL_sound_30 : decode cL_sound 30 = .ok (.ifCond .eq 597, 3) := by decide +kernel
theorem dL_sound_33 : decode cL_sound 33 = .ok (.aload_n 0, 1) := by decide +kernel
theorem dL_sound_34 : decode cL_sound 34 = .ok (.iload 7, 2) := by decide +kernel
theorem dL_sound_36 : decode cL_sound 36 = .ok (.bipush 8, 2) := by decide +kernel
theorem dL_sound_38 : decode cL_sound 38 = .ok (.invokestatic 129, 3) := by decide +kernel
theorem dL_sound_41 : decode cL_sound 41 = .ok (.istore 8, 2) := by decide +kernel
theorem dL_sound_43 : decode cL_sound 43 = .ok (.iconst 0, 1) := by decide +kernel
theorem dL_sound_44 : decode cL_sound 44 = .ok (.istore 9, 2) := by decide +kernel
theorem dL_sound_46 : decode cL_sound 46 = .ok (.iload 8, 2) := by decide +kernel
theorem dL_sound_48 : decode cL_sound 48 = .ok (.sipush (-9999), 3) := by decide +kernel
theorem dL_sound_51 : decode cL_sound 51 = .ok (.if_icmp .ne 7, 3) := by decide +kernel
theorem dL_sound_54 : decode cL_sound 54 = .ok (.iconst 1, 1) := by decide +kernel
theorem dL_sound_55 : decode cL_sound 55 = .ok (.goto 4, 3) := by decide +kernel
theorem dL_sound_58 : decode cL_sound 58 = .ok (.iconst 0, 1) := by decide +kernel
theorem dL_sound_59 : decode cL_sound 59 = .ok (.aload_n 0, 1) := by decide +kernel
theorem dL_sound_60 : decode cL_sound 60 = .ok (.iload 7, 2) := by decide +kernel
theorem dL_sound_62 : decode cL_sound 62 = .ok (.bipush 9, 2) := by decide +kernel
theorem dL_sound_64 : decode cL_sound 64 = .ok (.invokestatic 129, 3) := by decide +kernel
theorem dL_sound_67 : decode cL_sound 67 = .ok (.sipush (-9999), 3) := by decide +kernel
theorem dL_sound_70 : decode cL_sound 70 = .ok (.if_icmp .ne 7, 3) := by decide +kernel
theorem dL_sound_73 : decode cL_sound 73 = .ok (.iconst 1, 1) := by decide +kernel
theorem dL_sound_74 : decode cL_sound 74 = .ok (.goto 4, 3) := by decide +kernel
theorem dL_sound_77 : decode cL_sound 77 = .ok (.iconst 0, 1) := by decide +kernel
theorem dL_sound_78 : decode cL_sound 78 = .ok (.if_icmp .ne 91, 3) := by decide +kernel
theorem dL_sound_81 : decode cL_sound 81 = .ok (.iload 8, 2) := by decide +kernel
theorem dL_sound_83 : decode cL_sound 83 = .ok (.sipush (-9999), 3) := by decide +kernel
theorem dL_sound_86 : decode cL_sound 86 = .ok (.if_icmp .eq 67, 3) := by decide +kernel
theorem dL_sound_89 : decode cL_sound 89 = .ok (.iload 8, 2) := by decide +kernel
theorem dL_sound_91 : decode cL_sound 91 = .ok (.iload 7, 2) := by decide +kernel
theorem dL_sound_93 : decode cL_sound 93 = .ok (.if_icmp .eq 76, 3) := by decide +kernel
theorem dL_sound_96 : decode cL_sound 96 = .ok (.aload_n 0, 1) := by decide +kernel
theorem dL_sound_97 : decode cL_sound 97 = .ok (.iload 8, 2) := by decide +kernel
theorem dL_sound_99 : decode cL_sound 99 = .ok (.bipush 8, 2) := by decide +kernel
theorem dL_sound_101 : decode cL_sound 101 = .ok (.invokestatic 129, 3) := by decide +kernel
theorem dL_sound_104 : decode cL_sound 104 = .ok (.iload 7, 2) := by decide +kernel
theorem dL_sound_106 : decode cL_sound 106 = .ok (.if_icmp .ne 63, 3) := by decide +kernel
theorem dL_sound_109 : decode cL_sound 109 = .ok (.aload_n 0, 1) := by decide +kernel
theorem dL_sound_110 : decode cL_sound 110 = .ok (.iload 8, 2) := by decide +kernel
theorem dL_sound_112 : decode cL_sound 112 = .ok (.bipush 9, 2) := by decide +kernel
theorem dL_sound_114 : decode cL_sound 114 = .ok (.invokestatic 129, 3) := by decide +kernel
theorem dL_sound_117 : decode cL_sound 117 = .ok (.aload_n 0, 1) := by decide +kernel
theorem dL_sound_118 : decode cL_sound 118 = .ok (.iload 7, 2) := by decide +kernel
theorem dL_sound_120 : decode cL_sound 120 = .ok (.bipush 9, 2) := by decide +kernel
theorem dL_sound_122 : decode cL_sound 122 = .ok (.invokestatic 129, 3) := by decide +kernel
theorem dL_sound_125 : decode cL_sound 125 = .ok (.if_icmp .ne 44, 3) := by decide +kernel
theorem dL_sound_128 : decode cL_sound 128 = .ok (.aload_n 0, 1) := by decide +kernel
theorem dL_sound_129 : decode cL_sound 129 = .ok (.iload 7, 2) := by decide +kernel
theorem dL_sound_131 : decode cL_sound 131 = .ok (.bipush 9, 2) := by decide +kernel
theorem dL_sound_133 : decode cL_sound 133 = .ok (.invokestatic 129, 3) := by decide +kernel
theorem dL_sound_136 : decode cL_sound 136 = .ok (.iconst 3, 1) := by decide +kernel
theorem dL_sound_137 : decode cL_sound 137 = .ok (.if_icmp .ge 32, 3) := by decide +kernel
theorem dL_sound_140 : decode cL_sound 140 = .ok (.aload_n 0, 1) := by decide +kernel
theorem dL_sound_141 : decode cL_sound 141 = .ok (.iload 7, 2) := by decide +kernel
theorem dL_sound_143 : decode cL_sound 143 = .ok (.iload 8, 2) := by decide +kernel
theorem dL_sound_145 : decode cL_sound 145 = .ok (.iconst 2, 1) := by decide +kernel
theorem dL_sound_146 : decode cL_sound 146 = .ok (.invokestatic 139, 3) := by decide +kernel
theorem dL_sound_149 : decode cL_sound 149 = .ok (.iconst 1, 1) := by decide +kernel
theorem dL_sound_150 : decode cL_sound 150 = .ok (.if_icmp .ne 19, 3) := by decide +kernel
theorem dL_sound_153 : decode cL_sound 153 = .ok (.aload_n 0, 1) := by decide +kernel
theorem dL_sound_154 : decode cL_sound 154 = .ok (.iload 7, 2) := by decide +kernel
theorem dL_sound_156 : decode cL_sound 156 = .ok (.iconst 5, 1) := by decide +kernel
theorem dL_sound_157 : decode cL_sound 157 = .ok (.invokestatic 129, 3) := by decide +kernel
theorem dL_sound_160 : decode cL_sound 160 = .ok (.bipush 20, 2) := by decide +kernel
theorem dL_sound_162 : decode cL_sound 162 = .ok (.if_icmp .ge 7, 3) := by decide +kernel
theorem dL_sound_165 : decode cL_sound 165 = .ok (.iconst 1, 1) := by decide +kernel
theorem dL_sound_166 : decode cL_sound 166 = .ok (.goto 4, 3) := by decide +kernel
theorem dL_sound_169 : decode cL_sound 169 = .ok (.iconst 0, 1) := by decide +kernel
theorem dL_sound_170 : decode cL_sound 170 = .ok (.istore 6, 2) := by decide +kernel
theorem dL_sound_172 : decode cL_sound 172 = .ok (.iconst 0, 1) := by decide +kernel
theorem dL_sound_173 : decode cL_sound 173 = .ok (.istore 10, 2) := by decide +kernel
theorem dL_sound_175 : decode cL_sound 175 = .ok (.iload 10, 2) := by decide +kernel
theorem dL_sound_177 : decode cL_sound 177 = .ok (.iload_n 1, 1) := by decide +kernel
theorem dL_sound_178 : decode cL_sound 178 = .ok (.if_icmp .ge 418, 3) := by decide +kernel
theorem dL_sound_181 : decode cL_sound 181 = .ok (.iload 6, 2) := by decide +kernel
theorem dL_sound_183 : decode cL_sound 183 = .ok (.ifCond .eq 413, 3) := by decide +kernel
theorem dL_sound_186 : decode cL_sound 186 = .ok (.iload 7, 2) := by decide +kernel
theorem dL_sound_188 : decode cL_sound 188 = .ok (.iload 10, 2) := by decide +kernel
theorem dL_sound_190 : decode cL_sound 190 = .ok (.if_icmp .eq 400, 3) := by decide +kernel
theorem dL_sound_193 : decode cL_sound 193 = .ok (.aload_n 0, 1) := by decide +kernel
theorem dL_sound_194 : decode cL_sound 194 = .ok (.iload 7, 2) := by decide +kernel
theorem dL_sound_196 : decode cL_sound 196 = .ok (.iload 10, 2) := by decide +kernel
theorem dL_sound_198 : decode cL_sound 198 = .ok (.invokestatic 200, 3) := by decide +kernel
theorem dL_sound_201 : decode cL_sound 201 = .ok (.iconst 1, 1) := by decide +kernel
theorem dL_sound_202 : decode cL_sound 202 = .ok (.if_icmp .le 19, 3) := by decide +kernel
theorem dL_sound_205 : decode cL_sound 205 = .ok (.aload_n 0, 1) := by decide +kernel
theorem dL_sound_206 : decode cL_sound 206 = .ok (.iload 10, 2) := by decide +kernel
theorem dL_sound_208 : decode cL_sound 208 = .ok (.iload 7, 2) := by decide +kernel
theorem dL_sound_210 : decode cL_sound 210 = .ok (.invokestatic 200, 3) := by decide +kernel
theorem dL_sound_213 : decode cL_sound 213 = .ok (.iconst 1, 1) := by decide +kernel
theorem dL_sound_214 : decode cL_sound 214 = .ok (.if_icmp .le 7, 3) := by decide +kernel
theorem dL_sound_217 : decode cL_sound 217 = .ok (.iconst 1, 1) := by decide +kernel
theorem dL_sound_218 : decode cL_sound 218 = .ok (.goto 4, 3) := by decide +kernel
theorem dL_sound_221 : decode cL_sound 221 = .ok (.iconst 0, 1) := by decide +kernel
theorem dL_sound_222 : decode cL_sound 222 = .ok (.istore 11, 2) := by decide +kernel
theorem dL_sound_224 : decode cL_sound 224 = .ok (.aload_n 0, 1) := by decide +kernel
theorem dL_sound_225 : decode cL_sound 225 = .ok (.iload 7, 2) := by decide +kernel
theorem dL_sound_227 : decode cL_sound 227 = .ok (.iload 10, 2) := by decide +kernel
theorem dL_sound_229 : decode cL_sound 229 = .ok (.iconst 0, 1) := by decide +kernel
theorem dL_sound_230 : decode cL_sound 230 = .ok (.invokestatic 139, 3) := by decide +kernel
theorem dL_sound_233 : decode cL_sound 233 = .ok (.bipush 10, 2) := by decide +kernel
theorem dL_sound_235 : decode cL_sound 235 = .ok (.aload_n 0, 1) := by decide +kernel
theorem dL_sound_236 : decode cL_sound 236 = .ok (.iload 7, 2) := by decide +kernel
theorem dL_sound_238 : decode cL_sound 238 = .ok (.iload 10, 2) := by decide +kernel
theorem dL_sound_240 : decode cL_sound 240 = .ok (.invokestatic 200, 3) := by decide +kernel
theorem dL_sound_243 : decode cL_sound 243 = .ok (.imul, 1) := by decide +kernel
theorem dL_sound_244 : decode cL_sound 244 = .ok (.isub, 1) := by decide +kernel
theorem dL_sound_245 : decode cL_sound 245 = .ok (.iconst 5, 1) := by decide +kernel
theorem dL_sound_246 : decode cL_sound 246 = .ok (.aload_n 0, 1) := by decide +kernel
theorem dL_sound_247 : decode cL_sound 247 = .ok (.iload 10, 2) := by decide +kernel
theorem dL_sound_249 : decode cL_sound 249 = .ok (.bipush 7, 2) := by decide +kernel
theorem dL_sound_251 : decode cL_sound 251 = .ok (.invokestatic 129, 3) := by decide +kernel
theorem dL_sound_254 : decode cL_sound 254 = .ok (.imul, 1) := by decide +kernel
theorem dL_sound_255 : decode cL_sound 255 = .ok (.iadd, 1) := by decide +kernel
theorem dL_sound_256 : decode cL_sound 256 = .ok (.istore 12, 2) := by decide +kernel
theorem dL_sound_258 : decode cL_sound 258 = .ok (.iload 11, 2) := by decide +kernel
theorem dL_sound_260 : decode cL_sound 260 = .ok (.ifCond .eq 84, 3) := by decide +kernel
theorem dL_sound_263 : decode cL_sound 263 = .ok (.iload 8, 2) := by decide +kernel
theorem dL_sound_265 : decode cL_sound 265 = .ok (.iload 10, 2) := by decide +kernel
theorem dL_sound_267 : decode cL_sound 267 = .ok (.if_icmp .eq 77, 3) := by decide +kernel
theorem dL_sound_270 : decode cL_sound 270 = .ok (.iload 8, 2) := by decide +kernel
theorem dL_sound_272 : decode cL_sound 272 = .ok (.sipush (-9999), 3) := by decide +kernel
theorem dL_sound_275 : decode cL_sound 275 = .ok (.if_icmp .eq 24, 3) := by decide +kernel
theorem dL_sound_278 : decode cL_sound 278 = .ok (.aload_n 0, 1) := by decide +kernel
theorem dL_sound_279 : decode cL_sound 279 = .ok (.iload 7, 2) := by decide +kernel
theorem dL_sound_281 : decode cL_sound 281 = .ok (.iload 8, 2) := by decide +kernel
theorem dL_sound_283 : decode cL_sound 283 = .ok (.iconst 0, 1) := by decide +kernel
theorem dL_sound_284 : decode cL_sound 284 = .ok (.invokestatic 139, 3) := by decide +kernel
theorem dL_sound_287 : decode cL_sound 287 = .ok (.aload_n 0, 1) := by decide +kernel
theorem dL_sound_288 : decode cL_sound 288 = .ok (.iload 7, 2) := by decide +kernel
theorem dL_sound_290 : decode cL_sound 290 = .ok (.iload 10, 2) := by decide +kernel
theorem dL_sound_292 : decode cL_sound 292 = .ok (.iconst 0, 1) := by decide +kernel
theorem dL_sound_293 : decode cL_sound 293 = .ok (.invokestatic 139, 3) := by decide +kernel
theorem dL_sound_296 : decode cL_sound 296 = .ok (.if_icmp .ge 48, 3) := by decide +kernel
theorem dL_sound_299 : decode cL_sound 299 = .ok (.aload_n 0, 1) := by decide +kernel
theorem dL_sound_300 : decode cL_sound 300 = .ok (.iload 10, 2) := by decide +kernel
theorem dL_sound_302 : decode cL_sound 302 = .ok (.bipush 8, 2) := by decide +kernel
theorem dL_sound_304 : decode cL_sound 304 = .ok (.invokestatic 129, 3) := by decide +kernel
theorem dL_sound_307 : decode cL_sound 307 = .ok (.sipush (-9999), 3) := by decide +kernel
theorem dL_sound_310 : decode cL_sound 310 = .ok (.if_icmp .eq 30, 3) := by decide +kernel
theorem dL_sound_313 : decode cL_sound 313 = .ok (.aload_n 0, 1) := by decide +kernel
theorem dL_sound_314 : decode cL_sound 314 = .ok (.iload 10, 2) := by decide +kernel
theorem dL_sound_316 : decode cL_sound 316 = .ok (.aload_n 0, 1) := by decide +kernel
theorem dL_sound_317 : decode cL_sound 317 = .ok (.iload 10, 2) := by decide +kernel
theorem dL_sound_319 : decode cL_sound 319 = .ok (.bipush 8, 2) := by decide +kernel
theorem dL_sound_321 : decode cL_sound 321 = .ok (.invokestatic 129, 3) := by decide +kernel
theorem dL_sound_324 : decode cL_sound 324 = .ok (.iconst 0, 1) := by decide +kernel
theorem dL_sound_325 : decode cL_sound 325 = .ok (.invokestatic 139, 3) := by decide +kernel
theorem dL_sound_328 : decode cL_sound 328 = .ok (.aload_n 0, 1) := by decide +kernel
theorem dL_sound_329 : decode cL_sound 329 = .ok (.iload 10, 2) := by decide +kernel
theorem dL_sound_331 : decode cL_sound 331 = .ok (.iload 7, 2) := by decide +kernel
theorem dL_sound_333 : decode cL_sound 333 = .ok (.iconst 0, 1) := by decide +kernel
theorem dL_sound_334 : decode cL_sound 334 = .ok (.invokestatic 139, 3) := by decide +kernel
theorem dL_sound_337 : decode cL_sound 337 = .ok (.if_icmp .ge 7, 3) := by decide +kernel
theorem dL_sound_340 : decode cL_sound 340 = .ok (.iconst 1, 1) := by decide +kernel
theorem dL_sound_341 : decode cL_sound 341 = .ok (.goto 4, 3) := by decide +kernel
theorem dL_sound_344 : decode cL_sound 344 = .ok (.iconst 0, 1) := by decide +kernel
theorem dL_sound_345 : decode cL_sound 345 = .ok (.istore 13, 2) := by decide +kernel
theorem dL_sound_347 : decode cL_sound 347 = .ok (.iload 9, 2) := by decide +kernel
theorem dL_sound_349 : decode cL_sound 349 = .ok (.iload 11, 2) := by decide +kernel
theorem dL_sound_351 : decode cL_sound 351 = .ok (.ifCond .eq 7, 3) := by decide +kernel
theorem dL_sound_354 : decode cL_sound 354 = .ok (.iconst 1, 1) := by decide +kernel
theorem dL_sound_355 : decode cL_sound 355 = .ok (.goto 4, 3) := by decide +kernel
theorem dL_sound_358 : decode cL_sound 358 = .ok (.iconst 0, 1) := by decide +kernel
theorem dL_sound_359 : decode cL_sound 359 = .ok (.iadd, 1) := by decide +kernel
theorem dL_sound_360 : decode cL_sound 360 = .ok (.istore 9, 2) := by decide +kernel
theorem dL_sound_362 : decode cL_sound 362 = .ok (.aload_n 0, 1) := by decide +kernel
theorem dL_sound_363 : decode cL_sound 363 = .ok (.iload 7, 2) := by decide +kernel
theorem dL_sound_365 : decode cL_sound 365 = .ok (.iload 10, 2) := by decide +kernel
theorem dL_sound_367 : decode cL_sound 367 = .ok (.iconst 2, 1) := by decide +kernel
theorem dL_sound_368 : decode cL_sound 368 = .ok (.invokestatic 139, 3) := by decide +kernel
theorem dL_sound_371 : decode cL_sound 371 = .ok (.iload 11, 2) := by decide +kernel
theorem dL_sound_373 : decode cL_sound 373 = .ok (.ifCond .eq 7, 3) := by decide +kernel
theorem dL_sound_376 : decode cL_sound 376 = .ok (.iconst 1, 1) := by decide +kernel
theorem dL_sound_377 : decode cL_sound 377 = .ok (.goto 4, 3) := by decide +kernel
theorem dL_sound_380 : decode cL_sound 380 = .ok (.iconst 0, 1) := by decide +kernel
theorem dL_sound_381 : decode cL_sound 381 = .ok (.if_icmp .ne 92, 3) := by decide +kernel
theorem dL_sound_384 : decode cL_sound 384 = .ok (.iconst 4, 1) := by decide +kernel
theorem dL_sound_385 : decode cL_sound 385 = .ok (.iload 12, 2) := by decide +kernel
theorem dL_sound_387 : decode cL_sound 387 = .ok (.imul, 1) := by decide +kernel
theorem dL_sound_388 : decode cL_sound 388 = .ok (.aload_n 0, 1) := by decide +kernel
theorem dL_sound_389 : decode cL_sound 389 = .ok (.iload 10, 2) := by decide +kernel
theorem dL_sound_391 : decode cL_sound 391 = .ok (.bipush 6, 2) := by decide +kernel
theorem dL_sound_393 : decode cL_sound 393 = .ok (.invokestatic 129, 3) := by decide +kernel
theorem dL_sound_396 : decode cL_sound 396 = .ok (.if_icmp .gt 77, 3) := by decide +kernel
theorem dL_sound_399 : decode cL_sound 399 = .ok (.iconst 4, 1) := by decide +kernel
theorem dL_sound_400 : decode cL_sound 400 = .ok (.iload 12, 2) := by decide +kernel
theorem dL_sound_402 : decode cL_sound 402 = .ok (.imul, 1) := by decide +kernel
theorem dL_sound_403 : decode cL_sound 403 = .ok (.iconst 4, 1) := by decide +kernel
theorem dL_sound_404 : decode cL_sound 404 = .ok (.iadd, 1) := by decide +kernel
theorem dL_sound_405 : decode cL_sound 405 = .ok (.aload_n 0, 1) := by decide +kernel
theorem dL_sound_406 : decode cL_sound 406 = .ok (.iload 10, 2) := by decide +kernel
theorem dL_sound_408 : decode cL_sound 408 = .ok (.bipush 6, 2) := by decide +kernel
theorem dL_sound_410 : decode cL_sound 410 = .ok (.invokestatic 129, 3) := by decide +kernel
theorem dL_sound_413 : decode cL_sound 413 = .ok (.if_icmp .le 60, 3) := by decide +kernel
theorem dL_sound_416 : decode cL_sound 416 = .ok (.aload_n 0, 1) := by decide +kernel
theorem dL_sound_417 : decode cL_sound 417 = .ok (.iload 7, 2) := by decide +kernel
theorem dL_sound_419 : decode cL_sound 419 = .ok (.iload 10, 2) := by decide +kernel
theorem dL_sound_421 : decode cL_sound 421 = .ok (.iconst 1, 1) := by decide +kernel
theorem dL_sound_422 : decode cL_sound 422 = .ok (.invokestatic 139, 3) := by decide +kernel
theorem dL_sound_425 : decode cL_sound 425 = .ok (.aload_n 0, 1) := by decide +kernel
theorem dL_sound_426 : decode cL_sound 426 = .ok (.iload 7, 2) := by decide +kernel
theorem dL_sound_428 : decode cL_sound 428 = .ok (.iload 10, 2) := by decide +kernel
theorem dL_sound_430 : decode cL_sound 430 = .ok (.iconst 0, 1) := by decide +kernel
theorem dL_sound_431 : decode cL_sound 431 = .ok (.invokestatic 139, 3) := by decide +kernel
theorem dL_sound_434 : decode cL_sound 434 = .ok (.aload_n 0, 1) := by decide +kernel
theorem dL_sound_435 : decode cL_sound 435 = .ok (.iload 10, 2) := by decide +kernel
theorem dL_sound_437 : decode cL_sound 437 = .ok (.iload 7, 2) := by decide +kernel
theorem dL_sound_439 : decode cL_sound 439 = .ok (.iconst 0, 1) := by decide +kernel
theorem dL_sound_440 : decode cL_sound 440 = .ok (.invokestatic 139, 3) := by decide +kernel
theorem dL_sound_443 : decode cL_sound 443 = .ok (.iadd, 1) := by decide +kernel
theorem dL_sound_444 : decode cL_sound 444 = .ok (.if_icmp .ne 29, 3) := by decide +kernel
theorem dL_sound_447 : decode cL_sound 447 = .ok (.aload_n 0, 1) := by decide +kernel
theorem dL_sound_448 : decode cL_sound 448 = .ok (.iload 7, 2) := by decide +kernel
theorem dL_sound_450 : decode cL_sound 450 = .ok (.iload 10, 2) := by decide +kernel
theorem dL_sound_452 : decode cL_sound 452 = .ok (.iconst 3, 1) := by decide +kernel
theorem dL_sound_453 : decode cL_sound 453 = .ok (.invokestatic 139, 3) := by decide +kernel
theorem dL_sound_456 : decode cL_sound 456 = .ok (.iload 13, 2) := by decide +kernel
theorem dL_sound_458 : decode cL_sound 458 = .ok (.ifCond .eq 7, 3) := by decide +kernel
theorem dL_sound_461 : decode cL_sound 461 = .ok (.iconst 1, 1) := by decide +kernel
theorem dL_sound_462 : decode cL_sound 462 = .ok (.goto 4, 3) := by decide +kernel
theorem dL_sound_465 : decode cL_sound 465 = .ok (.iconst 0, 1) := by decide +kernel
theorem dL_sound_466 : decode cL_sound 466 = .ok (.if_icmp .ne 7, 3) := by decide +kernel
theorem dL_sound_469 : decode cL_sound 469 = .ok (.iconst 1, 1) := by decide +kernel
theorem dL_sound_470 : decode cL_sound 470 = .ok (.goto 4, 3) := by decide +kernel
theorem dL_sound_473 : decode cL_sound 473 = .ok (.iconst 0, 1) := by decide +kernel
theorem dL_sound_474 : decode cL_sound 474 = .ok (.istore 6, 2) := by decide +kernel
theorem dL_sound_476 : decode cL_sound 476 = .ok (.iload 7, 2) := by decide +kernel
theorem dL_sound_478 : decode cL_sound 478 = .ok (.iload 10, 2) := by decide +kernel
theorem dL_sound_480 : decode cL_sound 480 = .ok (.if_icmp .ge 110, 3) := by decide +kernel
theorem dL_sound_483 : decode cL_sound 483 = .ok (.iload_n 2, 1) := by decide +kernel
theorem dL_sound_484 : decode cL_sound 484 = .ok (.iload 8, 2) := by decide +kernel
theorem dL_sound_486 : decode cL_sound 486 = .ok (.iload 10, 2) := by decide +kernel
theorem dL_sound_488 : decode cL_sound 488 = .ok (.if_icmp .ne 7, 3) := by decide +kernel
theorem dL_sound_491 : decode cL_sound 491 = .ok (.iconst 1, 1) := by decide +kernel
theorem dL_sound_492 : decode cL_sound 492 = .ok (.goto 4, 3) := by decide +kernel
theorem dL_sound_495 : decode cL_sound 495 = .ok (.iconst 0, 1) := by decide +kernel
theorem dL_sound_496 : decode cL_sound 496 = .ok (.iadd, 1) := by decide +kernel
theorem dL_sound_497 : decode cL_sound 497 = .ok (.istore_n 2, 1) := by decide +kernel
theorem dL_sound_498 : decode cL_sound 498 = .ok (.iload 5, 2) := by decide +kernel
theorem dL_sound_500 : decode cL_sound 500 = .ok (.iload 8, 2) := by decide +kernel
theorem dL_sound_502 : decode cL_sound 502 = .ok (.iload 10, 2) := by decide +kernel
theorem dL_sound_504 : decode cL_sound 504 = .ok (.if_icmp .ne 15, 3) := by decide +kernel
theorem dL_sound_507 : decode cL_sound 507 = .ok (.aload_n 0, 1) := by decide +kernel
theorem dL_sound_508 : decode cL_sound 508 = .ok (.iload 7, 2) := by decide +kernel
theorem dL_sound_510 : decode cL_sound 510 = .ok (.iload 10, 2) := by decide +kernel
theorem dL_sound_512 : decode cL_sound 512 = .ok (.iconst 1, 1) := by decide +kernel
theorem dL_sound_513 : decode cL_sound 513 = .ok (.invokestatic 139, 3) := by decide +kernel
theorem dL_sound_516 : decode cL_sound 516 = .ok (.goto 4, 3) := by decide +kernel
theorem dL_sound_519 : decode cL_sound 519 = .ok (.iconst 0, 1) := by decide +kernel
theorem dL_sound_520 : decode cL_sound 520 = .ok (.iadd, 1) := by decide +kernel
theorem dL_sound_521 : decode cL_sound 521 = .ok (.istore 5, 2) := by decide +kernel
theorem dL_sound_523 : decode cL_sound 523 = .ok (.iload 4, 2) := by decide +kernel
theorem dL_sound_525 : decode cL_sound 525 = .ok (.iload 11, 2) := by decide +kernel
theorem dL_sound_527 : decode cL_sound 527 = .ok (.ifCond .eq 7, 3) := by decide +kernel
theorem dL_sound_530 : decode cL_sound 530 = .ok (.iconst 1, 1) := by decide +kernel
theorem dL_sound_531 : decode cL_sound 531 = .ok (.goto 4, 3) := by decide +kernel
theorem dL_sound_534 : decode cL_sound 534 = .ok (.iconst 0, 1) := by decide +kernel
theorem dL_sound_535 : decode cL_sound 535 = .ok (.iadd, 1) := by decide +kernel
theorem dL_sound_536 : decode cL_sound 536 = .ok (.istore 4, 2) := by decide +kernel
theorem dL_sound_538 : decode cL_sound 538 = .ok (.iload 6, 2) := by decide +kernel
theorem dL_sound_540 : decode cL_sound 540 = .ok (.ifCond .eq 34, 3) := by decide +kernel
theorem dL_sound_543 : decode cL_sound 543 = .ok (.iload 13, 2) := by decide +kernel
theorem dL_sound_545 : decode cL_sound 545 = .ok (.ifCond .eq 25, 3) := by decide +kernel
theorem dL_sound_548 : decode cL_sound 548 = .ok (.aload_n 0, 1) := by decide +kernel
theorem dL_sound_549 : decode cL_sound 549 = .ok (.iload_n 3, 1) := by decide +kernel
theorem dL_sound_550 : decode cL_sound 550 = .ok (.iconst 0, 1) := by decide +kernel
theorem dL_sound_551 : decode cL_sound 551 = .ok (.invokestatic 170, 3) := by decide +kernel
theorem dL_sound_554 : decode cL_sound 554 = .ok (.iload 7, 2) := by decide +kernel
theorem dL_sound_556 : decode cL_sound 556 = .ok (.if_icmp .ne 18, 3) := by decide +kernel
theorem dL_sound_559 : decode cL_sound 559 = .ok (.aload_n 0, 1) := by decide +kernel
theorem dL_sound_560 : decode cL_sound 560 = .ok (.iload_n 3, 1) := by decide +kernel
theorem dL_sound_561 : decode cL_sound 561 = .ok (.iconst 1, 1) := by decide +kernel
theorem dL_sound_562 : decode cL_sound 562 = .ok (.invokestatic 170, 3) := by decide +kernel
theorem dL_sound_565 : decode cL_sound 565 = .ok (.iload 10, 2) := by decide +kernel
theorem dL_sound_567 : decode cL_sound 567 = .ok (.if_icmp .ne 7, 3) := by decide +kernel
theorem dL_sound_570 : decode cL_sound 570 = .ok (.iconst 1, 1) := by decide +kernel
theorem dL_sound_571 : decode cL_sound 571 = .ok (.goto 4, 3) := by decide +kernel
theorem dL_sound_574 : decode cL_sound 574 = .ok (.iconst 0, 1) := by decide +kernel
theorem dL_sound_575 : decode cL_sound 575 = .ok (.istore 6, 2) := by decide +kernel
theorem dL_sound_577 : decode cL_sound 577 = .ok (.iload_n 3, 1) := by decide +kernel
theorem dL_sound_578 : decode cL_sound 578 = .ok (.iload 13, 2) := by decide +kernel
theorem dL_sound_580 : decode cL_sound 580 = .ok (.ifCond .eq 7, 3) := by decide +kernel
theorem dL_sound_583 : decode cL_sound 583 = .ok (.iconst 1, 1) := by decide +kernel
theorem dL_sound_584 : decode cL_sound 584 = .ok (.goto 4, 3) := by decide +kernel
theorem dL_sound_587 : decode cL_sound 587 = .ok (.iconst 0, 1) := by decide +kernel
theorem dL_sound_588 : decode cL_sound 588 = .ok (.iadd, 1) := by decide +kernel
theorem dL_sound_589 : decode cL_sound 589 = .ok (.istore_n 3, 1) := by decide +kernel
theorem dL_sound_590 : decode cL_sound 590 = .ok (.iinc 10 1, 3) := by decide +kernel
theorem dL_sound_593 : decode cL_sound 593 = .ok (.goto (-418), 3) := by decide +kernel
theorem dL_sound_596 : decode cL_sound 596 = .ok (.iload 6, 2) := by decide +kernel
theorem dL_sound_598 : decode cL_sound 598 = .ok (.ifCond .eq 20, 3) := by decide +kernel
theorem dL_sound_601 : decode cL_sound 601 = .ok (.aload_n 0, 1) := by decide +kernel
theorem dL_sound_602 : decode cL_sound 602 = .ok (.iload 7, 2) := by decide +kernel
theorem dL_sound_604 : decode cL_sound 604 = .ok (.bipush 10, 2) := by decide +kernel
theorem dL_sound_606 : decode cL_sound 606 = .ok (.invokestatic 129, 3) := by decide +kernel
theorem dL_sound_609 : decode cL_sound 609 = .ok (.iload 9, 2) := by decide +kernel
theorem dL_sound_611 : decode cL_sound 611 = .ok (.if_icmp .ne 7, 3) := by decide +kernel
theorem dL_sound_614 : decode cL_sound 614 = .ok (.iconst 1, 1) := by decide +kernel
theorem dL_sound_615 : decode cL_sound 615 = .ok (.goto 4, 3) := by decide +kernel
theorem dL_sound_618 : decode cL_sound 618 = .ok (.iconst 0, 1) := by decide +kernel
theorem dL_sound_619 : decode cL_sound 619 = .ok (.istore 6, 2) := by decide +kernel
theorem dL_sound_621 : decode cL_sound 621 = .ok (.iinc 7 1, 3) := by decide +kernel
theorem dL_sound_624 : decode cL_sound 624 = .ok (.goto (-602), 3) := by decide +kernel
theorem dL_sound_627 : decode cL_sound 627 = .ok (.aload_n 0, 1) := by decide +kernel
theorem dL_sound_628 : decode cL_sound 628 = .ok (.iconst 0, 1) := by decide +kernel
theorem dL_sound_629 : decode cL_sound 629 = .ok (.invokestatic 177, 3) := by decide +kernel
theorem dL_sound_632 : decode cL_sound 632 = .ok (.istore 7, 2) := by decide +kernel
theorem dL_sound_634 : decode cL_sound 634 = .ok (.iload 6, 2) := by decide +kernel
theorem dL_sound_636 : decode cL_sound 636 = .ok (.ifCond .eq 118, 3) := by decide +kernel
theorem dL_sound_639 : decode cL_sound 639 = .ok (.aload_n 0, 1) := by decide +kernel
theorem dL_sound_640 : decode cL_sound 640 = .ok (.iconst 1, 1) := by decide +kernel
theorem dL_sound_641 : decode cL_sound 641 = .ok (.invokestatic 126, 3) := by decide +kernel
theorem dL_sound_644 : decode cL_sound 644 = .ok (.iload_n 2, 1) := by decide +kernel
theorem dL_sound_645 : decode cL_sound 645 = .ok (.if_icmp .ne 109, 3) := by decide +kernel
theorem dL_sound_648 : decode cL_sound 648 = .ok (.aload_n 0, 1) := by decide +kernel
theorem dL_sound_649 : decode cL_sound 649 = .ok (.iconst 3, 1) := by decide +kernel
theorem dL_sound_650 : decode cL_sound 650 = .ok (.invokestatic 126, 3) := by decide +kernel
theorem dL_sound_653 : decode cL_sound 653 = .ok (.iload 5, 2) := by decide +kernel
theorem dL_sound_655 : decode cL_sound 655 = .ok (.if_icmp .ne 99, 3) := by decide +kernel
theorem dL_sound_658 : decode cL_sound 658 = .ok (.aload_n 0, 1) := by decide +kernel
theorem dL_sound_659 : decode cL_sound 659 = .ok (.iconst 4, 1) := by decide +kernel
theorem dL_sound_660 : decode cL_sound 660 = .ok (.invokestatic 126, 3) := by decide +kernel
theorem dL_sound_663 : decode cL_sound 663 = .ok (.iload_n 3, 1) := by decide +kernel
theorem dL_sound_664 : decode cL_sound 664 = .ok (.if_icmp .ne 90, 3) := by decide +kernel
theorem dL_sound_667 : decode cL_sound 667 = .ok (.aload_n 0, 1) := by decide +kernel
theorem dL_sound_668 : decode cL_sound 668 = .ok (.bipush 6, 2) := by decide +kernel
theorem dL_sound_670 : decode cL_sound 670 = .ok (.invokestatic 126, 3) := by decide +kernel
theorem dL_sound_673 : decode cL_sound 673 = .ok (.iload 4, 2) := by decide +kernel
theorem dL_sound_675 : decode cL_sound 675 = .ok (.if_icmp .ne 79, 3) := by decide +kernel
theorem dL_sound_678 : decode cL_sound 678 = .ok (.iload 7, 2) := by decide +kernel
theorem dL_sound_680 : decode cL_sound 680 = .ok (.iload_n 2, 1) := by decide +kernel
theorem dL_sound_681 : decode cL_sound 681 = .ok (.if_icmp .lt 73, 3) := by decide +kernel
theorem dL_sound_684 : decode cL_sound 684 = .ok (.iconst 2, 1) := by decide +kernel
theorem dL_sound_685 : decode cL_sound 685 = .ok (.iload 7, 2) := by decide +kernel
theorem dL_sound_687 : decode cL_sound 687 = .ok (.imul, 1) := by decide +kernel
theorem dL_sound_688 : decode cL_sound 688 = .ok (.iload_n 1, 1) := by decide +kernel
theorem dL_sound_689 : decode cL_sound 689 = .ok (.if_icmp .gt 65, 3) := by decide +kernel
theorem dL_sound_692 : decode cL_sound 692 = .ok (.iload 7, 2) := by decide +kernel
theorem dL_sound_694 : decode cL_sound 694 = .ok (.iload 4, 2) := by decide +kernel
theorem dL_sound_696 : decode cL_sound 696 = .ok (.if_icmp .gt 58, 3) := by decide +kernel
theorem dL_sound_699 : decode cL_sound 699 = .ok (.iload 7, 2) := by decide +kernel
theorem dL_sound_701 : decode cL_sound 701 = .ok (.iload_n 2, 1) := by decide +kernel
theorem dL_sound_702 : decode cL_sound 702 = .ok (.if_icmp .ne 13, 3) := by decide +kernel
theorem dL_sound_705 : decode cL_sound 705 = .ok (.aload_n 0, 1) := by decide +kernel
theorem dL_sound_706 : decode cL_sound 706 = .ok (.iconst 1, 1) := by decide +kernel
theorem dL_sound_707 : decode cL_sound 707 = .ok (.invokestatic 177, 3) := by decide +kernel
theorem dL_sound_710 : decode cL_sound 710 = .ok (.iload 5, 2) := by decide +kernel
theorem dL_sound_712 : decode cL_sound 712 = .ok (.if_icmp .lt 42, 3) := by decide +kernel
theorem dL_sound_715 : decode cL_sound 715 = .ok (.iload 4, 2) := by decide +kernel
theorem dL_sound_717 : decode cL_sound 717 = .ok (.ifCond .ne 7, 3) := by decide +kernel
theorem dL_sound_720 : decode cL_sound 720 = .ok (.iconst 1, 1) := by decide +kernel
theorem dL_sound_721 : decode cL_sound 721 = .ok (.goto 4, 3) := by decide +kernel
theorem dL_sound_724 : decode cL_sound 724 = .ok (.iconst 0, 1) := by decide +kernel
theorem dL_sound_725 : decode cL_sound 725 = .ok (.iload 7, 2) := by decide +kernel
theorem dL_sound_727 : decode cL_sound 727 = .ok (.ifCond .ne 7, 3) := by decide +kernel
theorem dL_sound_730 : decode cL_sound 730 = .ok (.iconst 1, 1) := by decide +kernel
theorem dL_sound_731 : decode cL_sound 731 = .ok (.goto 4, 3) := by decide +kernel
theorem dL_sound_734 : decode cL_sound 734 = .ok (.iconst 0, 1) := by decide +kernel
theorem dL_sound_735 : decode cL_sound 735 = .ok (.if_icmp .ne 19, 3) := by decide +kernel
theorem dL_sound_738 : decode cL_sound 738 = .ok (.aload_n 0, 1) := by decide +kernel
theorem dL_sound_739 : decode cL_sound 739 = .ok (.iload_n 3, 1) := by decide +kernel
theorem dL_sound_740 : decode cL_sound 740 = .ok (.iconst 0, 1) := by decide +kernel
theorem dL_sound_741 : decode cL_sound 741 = .ok (.invokestatic 170, 3) := by decide +kernel
theorem dL_sound_744 : decode cL_sound 744 = .ok (.sipush (-9999), 3) := by decide +kernel
theorem dL_sound_747 : decode cL_sound 747 = .ok (.if_icmp .ne 7, 3) := by decide +kernel
theorem dL_sound_750 : decode cL_sound 750 = .ok (.iconst 1, 1) := by decide +kernel
theorem dL_sound_751 : decode cL_sound 751 = .ok (.goto 4, 3) := by decide +kernel
theorem dL_sound_754 : decode cL_sound 754 = .ok (.iconst 0, 1) := by decide +kernel
theorem dL_sound_755 : decode cL_sound 755 = .ok (.ireturn, 1) := by decide +kernel
set_option maxRecDepth 20000 in
theorem ggL_weeks_L_tryAbout : GoodIn wsL_weeks wsL_tryAbout := goodIn_ca (goodIn_r _ [5, 6, 7, 8, 9, 10, 11, 12, 13, 14, 15, 16, 17, 18, 19, 20, 21, 22, 23, 24, 25, 26, 27, 28, 29, 30, 31, 32, 33, 34, 35, 36, 37, 38, 39, 40, 41, 42, 43, 44, 45, 46, 47, 48, 49, 50, 51, 52, 53, 54, 55, 56, 57, 58, 59, 60, 61, 62, 63, 64, 65, 66, 67, 68, 69, 70, 71, 72, 73, 74, 75, 76, 77, 78, 79, 80, 81, 82, 83, 84, 85, 219, 220, 221, 222, 223, 224, 225, 226, 227, 228, 229, 230, 231, 232, 233, 234, 235] (by decide +kernel) (by decide +kernel)) (goodIn_sub (fun _ h => List.mem_cons_of_mem _ (List.mem_append_left _ (List.mem_append_right _ h))) (by decide +kernel))
set_option maxRecDepth 20000 in
theorem gL_weeks_L_tryAbout : GoodIn wsL_weeks (va_wsS RL 126 yL_tryAbout wsL_tryAbout) := goodIn_app (goodIn_of _ (by decide +kernel)) ggL_weeks_L_tryAbout
set_option maxRecDepth 20000 in
theorem ggL_weeks_L_tryMember : GoodIn wsL_weeks wsL_tryMember := goodIn_ca (goodIn_ca (goodIn_r _ [88, 89, 6, 90, 7, 91, 92, 93, 11, 94, 15, 95, 96, 97, 98, 99, 100, 101, 31, 32, 21, 33, 23, 102, 103, 104, 13, 14, 105, 106, 107, 108, 28, 53, 52, 109, 47, 46, 29, 110, 111, 112, 113, 114, 82, 83, 84, 85, 66, 67, 68, 69, 48, 49, 50, 51, 219, 220, 221, 222, 223, 224, 225, 226, 227, 228, 229, 230, 231, 232, 233, 234, 235] (by decide +kernel) (by decide +kernel)) (goodIn_sub (fun _ h => List.mem_cons_of_mem _ (List.mem_append_right _ h)) (by decide +kernel))) (goodIn_sub (fun _ h => List.mem_cons_of_mem _ (List.mem_append_left _ (List.mem_append_right _ h))) (by decide +kernel))
set_option maxRecDepth 20000 in
theorem gL_weeks_L_tryMember : GoodIn wsL_weeks (va_wsS RL 129 yL_tryMember wsL_tryMember) := goodIn_app (goodIn_of _ (by decide +kernel)) ggL_weeks_L_tryMember
set_option maxRecDepth 20000 in
theorem ggL_weeks_L_lead : GoodIn wsL_weeks wsL_lead := goodIn_ca (goodIn_ca (goodIn_r _ [117, 86, 87, 4, 88, 89, 6, 90, 7, 91, 92, 93, 11, 94, 15, 95, 96, 97, 98, 99, 100, 101, 31, 32, 21, 33, 23, 102, 103, 104, 13, 14, 105, 106, 107, 108, 28, 53, 52, 109, 47, 46, 29, 110, 111, 112, 113, 114, 82, 83, 84, 85, 66, 67, 68, 69, 48, 49, 50, 51, 219, 220, 221, 222, 223, 224, 225, 226, 227, 228, 229, 230, 231, 232, 233, 234, 235] (by decide +kernel) (by decide +kernel)) (goodIn_sub (fun _ h => List.mem_cons_of_mem _ (List.mem_append_right _ h)) (by decide +kernel))) (goodIn_sub (fun _ h => List.mem_cons_of_mem _ (List.mem_append_left _ (List.mem_append_right _ h))) (by decide +kernel))
set_option maxRecDepth 20000 in
theorem gL_weeks_L_lead : GoodIn wsL_weeks (va_wsS RL 200 yL_lead wsL_lead) := goodIn_app (goodIn_of _ (by decide +kernel)) ggL_weeks_L_lead
set_option maxRecDepth 20000 in
theorem ggL_weeks_L_tryAhead : GoodIn wsL_weeks wsL_tryAhead := goodIn_ca (goodIn_ca (goodIn_r _ [120, 89, 6, 90, 7, 121, 122, 123, 11, 124, 125, 15, 95, 96, 97, 98, 99, 100, 101, 31, 32, 21, 33, 23, 102, 103, 104, 13, 14, 126, 127, 128, 129, 28, 130, 131, 132, 133, 134, 135, 136, 137, 138, 139, 140, 141, 142, 143, 144, 145, 146, 147, 148, 149, 150, 110, 24, 25, 26, 27, 29, 30, 151, 152, 153, 154, 155, 156, 157, 158, 159, 160, 161, 162, 163, 164, 165, 166, 167, 168, 169, 170, 171, 172, 173, 174, 48, 49, 50, 51, 52, 53, 175, 176, 177, 178, 179, 180, 181, 182, 66, 67, 68, 69, 183, 184, 185, 186, 105, 106, 107, 108, 109, 47, 46, 111, 112, 113, 114, 82, 83, 84, 85, 219, 220, 221, 222, 223, 224, 225, 226, 227, 228, 229, 230, 231, 232, 233, 234, 235] (by decide +kernel) (by decide +kernel)) (goodIn_sub (fun _ h => List.mem_cons_of_mem _ (List.mem_append_right _ h)) (by decide +kernel))) (goodIn_sub (fun _ h => List.mem_cons_of_mem _ (List.mem_append_left _ (List.mem_append_right _ h))) (by decide +kernel))
set_option maxRecDepth 20000 in
theorem gL_weeks_L_tryAhead : GoodIn wsL_weeks (va_wsS RL 180 yL_tryAhead wsL_tryAhead) := goodIn_app (goodIn_of _ (by decide +kernel)) ggL_weeks_L_tryAhead
set_option maxRecDepth 20000 in
theorem ggL_weeks_L_tryWeek : GoodIn wsL_weeks wsL_tryWeek := goodIn_ca (goodIn_r _ [189, 6, 7, 190, 191, 192, 11, 193, 194, 15, 102, 103, 104, 13, 14, 195, 196, 197, 198, 199, 200, 201, 202, 203, 127, 128, 21, 129, 23, 28, 130, 131, 132, 133, 134, 135, 136, 137, 138, 139, 140, 141, 142, 143, 144, 145, 146, 147, 148, 149, 150, 110, 24, 25, 26, 27, 29, 30, 31, 32, 33, 151, 152, 153, 154, 155, 156, 157, 158, 159, 160, 161, 162, 163, 164, 165, 166, 167, 168, 169, 170, 171, 172, 173, 174, 48, 49, 50, 51, 52, 53, 175, 176, 177, 178, 179, 180, 181, 182, 66, 67, 68, 69, 183, 184, 185, 186, 18, 19, 20, 22, 219, 220, 221, 222, 223, 224, 225, 236, 237, 238, 226, 227, 228, 229, 230, 231, 232, 233, 234, 235] (by decide +kernel) (by decide +kernel)) (goodIn_sub (fun _ h => List.mem_cons_of_mem _ (List.mem_append_left _ (List.mem_append_right _ h))) (by decide +kernel))
set_option maxRecDepth 20000 in
theorem gL_weeks_L_tryWeek : GoodIn wsL_weeks (va_wsS RL 167 yL_tryWeek wsL_tryWeek) := goodIn_app (goodIn_of _ (by decide +kernel)) ggL_weeks_L_tryWeek
set_option maxRecDepth 20000 in
theorem ggL_weeks_L_tryBoth : GoodIn wsL_weeks wsL_tryBoth := goodIn_ca (goodIn_ca (goodIn_r _ [206, 89, 6, 90, 7, 207, 208, 209, 11, 210, 13, 14, 15, 211, 212, 213, 214, 95, 96, 97, 98, 99, 100, 101, 31, 32, 21, 33, 23, 215, 43, 44, 45, 28, 46, 47, 48, 49, 50, 51, 52, 53, 54, 55, 56, 57, 216, 39, 40, 41, 42, 217, 67, 68, 69, 218, 63, 64, 65, 29, 66, 70, 71, 72, 73, 30, 219, 220, 221, 222, 223, 224, 225, 226, 227, 228, 229, 230, 231, 232, 233, 234, 235] (by decide +kernel) (by decide +kernel)) (goodIn_sub (fun _ h => List.mem_cons_of_mem _ (List.mem_append_left _ (List.mem_append_right _ h))) (by decide +kernel))) (goodIn_sub (fun _ h => List.mem_cons_of_mem _ (List.mem_append_right _ h)) (by decide +kernel))
set_option maxRecDepth 20000 in
theorem gL_weeks_L_tryBoth : GoodIn wsL_weeks (va_wsS RL 139 yL_tryBoth wsL_tryBoth) := goodIn_app (goodIn_of _ (by decide +kernel)) ggL_weeks_L_tryBoth
