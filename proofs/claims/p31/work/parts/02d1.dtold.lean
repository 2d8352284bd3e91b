theorem dL_told_0 : decode cL_told 0 = .ok (.iconst 3, 1) := by decide +kernel
theorem dL_told_1 : decode cL_told 1 = .ok (.aload_n 2, 1) := by decide +kernel
theorem dL_told_2 : decode cL_told 2 = .ok (.iload_n 3, 1) := by decide +kernel
theorem dL_told_3 : decode cL_told 3 = .ok (.invokestatic 106, 3) := by decide +kernel
theorem dL_told_6 : decode cL_told 6 = .ok (.bipush 7, 2) := by decide +kernel
theorem dL_told_8 : decode cL_told 8 = .ok (.irem, 1) := by decide +kernel
theorem dL_told_9 : decode cL_told 9 = .ok (.iadd, 1) := by decide +kernel
theorem dL_told_10 : decode cL_told 10 = .ok (.istore 4, 2) := by decide +kernel
theorem dL_told_12 : decode cL_told 12 = .ok (.aload_n 0, 1) := by decide +kernel
theorem dL_told_13 : decode cL_told 13 = .ok (.invokevirtual 110, 3) := by decide +kernel
theorem dL_told_16 : decode cL_told 16 = .ok (.aload_n 1, 1) := by decide +kernel
theorem dL_told_17 : decode cL_told 17 = .ok (.invokevirtual 110, 3) := by decide +kernel
theorem dL_told_20 : decode cL_told 20 = .ok (.if_icmp .ne 17, 3) := by decide +kernel
theorem dL_told_23 : decode cL_told 23 = .ok (.aload_n 0, 1) := by decide +kernel
theorem dL_told_24 : decode cL_told 24 = .ok (.aload_n 1, 1) := by decide +kernel
theorem dL_told_25 : decode cL_told 25 = .ok (.bipush 76, 2) := by decide +kernel
theorem dL_told_27 : decode cL_told 27 = .ok (.invokestatic 113, 3) := by decide +kernel
theorem dL_told_30 : decode cL_told 30 = .ok (.ifCond .eq 7, 3) := by decide +kernel
theorem dL_told_33 : decode cL_told 33 = .ok (.iconst 1, 1) := by decide +kernel
theorem dL_told_34 : decode cL_told 34 = .ok (.goto 4, 3) := by decide +kernel
theorem dL_told_37 : decode cL_told 37 = .ok (.iconst 0, 1) := by decide +kernel
theorem dL_told_38 : decode cL_told 38 = .ok (.istore 5, 2) := by decide +kernel
theorem dL_told_40 : decode cL_told 40 = .ok (.iconst 0, 1) := by decide +kernel
theorem dL_told_41 : decode cL_told 41 = .ok (.istore 6, 2) := by decide +kernel
theorem dL_told_43 : decode cL_told 43 = .ok (.iload 6, 2) := by decide +kernel
theorem dL_told_45 : decode cL_told 45 = .ok (.iload 4, 2) := by decide +kernel
theorem dL_told_47 : decode cL_told 47 = .ok (.if_icmp .ge 221, 3) := by decide +kernel
theorem dL_told_50 : decode cL_told 50 = .ok (.iload 5, 2) := by decide +kernel
theorem dL_told_52 : decode cL_told 52 = .ok (.ifCond .eq 216, 3) := by decide +kernel
theorem dL_told_55 : decode cL_told 55 = .ok (.aload_n 2, 1) := by decide +kernel
theorem dL_told_56 : decode cL_told 56 = .ok (.iload_n 3, 1) := by decide +kernel
theorem dL_told_57 : decode cL_told 57 = .ok (.iconst 1, 1) := by decide +kernel
theorem dL_told_58 : decode cL_told 58 = .ok (.iadd, 1) := by decide +kernel
theorem dL_told_59 : decode cL_told 59 = .ok (.iload 6, 2) := by decide +kernel
theorem dL_told_61 : decode cL_told 61 = .ok (.iadd, 1) := by decide +kernel
theorem dL_told_62 : decode cL_told 62 = .ok (.invokestatic 106, 3) := by decide +kernel
theorem dL_told_65 : decode cL_told 65 = .ok (.istore 7, 2) := by decide +kernel
theorem dL_told_67 : decode cL_told 67 = .ok (.iload 7, 2) := by decide +kernel
theorem dL_told_69 : decode cL_told 69 = .ok (.iconst 4, 1) := by decide +kernel
theorem dL_told_70 : decode cL_told 70 = .ok (.irem, 1) := by decide +kernel
theorem dL_told_71 : decode cL_told 71 = .ok (.istore 8, 2) := by decide +kernel
theorem dL_told_73 : decode cL_told 73 = .ok (.aload_n 0, 1) := by decide +kernel
theorem dL_told_74 : decode cL_told 74 = .ok (.invokevirtual 117, 3) := by decide +kernel
theorem dL_told_77 : decode cL_told 77 = .ok (.sipush (-9999), 3) := by decide +kernel
theorem dL_told_80 : decode cL_told 80 = .ok (.if_icmp .ne 44, 3) := by decide +kernel
theorem dL_told_83 : decode cL_told 83 = .ok (.aload_n 0, 1) := by decide +kernel
theorem dL_told_84 : decode cL_told 84 = .ok (.aload_n 1, 1) := by decide +kernel
theorem dL_told_85 : decode cL_told 85 = .ok (.bipush 109, 2) := by decide +kernel
theorem dL_told_87 : decode cL_told 87 = .ok (.invokestatic 113, 3) := by decide +kernel
theorem dL_told_90 : decode cL_told 90 = .ok (.ifCond .eq 34, 3) := by decide +kernel
theorem dL_told_93 : decode cL_told 93 = .ok (.aload_n 0, 1) := by decide +kernel
theorem dL_told_94 : decode cL_told 94 = .ok (.invokevirtual 117, 3) := by decide +kernel
theorem dL_told_97 : decode cL_told 97 = .ok (.iconst 2, 1) := by decide +kernel
theorem dL_told_98 : decode cL_told 98 = .ok (.bipush 8, 2) := by decide +kernel
theorem dL_told_100 : decode cL_told 100 = .ok (.iload 6, 2) := by decide +kernel
theorem dL_told_102 : decode cL_told 102 = .ok (.imul, 1) := by decide +kernel
theorem dL_told_103 : decode cL_told 103 = .ok (.iadd, 1) := by decide +kernel
theorem dL_told_104 : decode cL_told 104 = .ok (.if_icmp .ne 20, 3) := by decide +kernel
theorem dL_told_107 : decode cL_told 107 = .ok (.aload_n 0, 1) := by decide +kernel
theorem dL_told_108 : decode cL_told 108 = .ok (.aload_n 1, 1) := by decide +kernel
theorem dL_told_109 : decode cL_told 109 = .ok (.bipush 48, 2) := by decide +kernel
theorem dL_told_111 : decode cL_told 111 = .ok (.iload 8, 2) := by decide +kernel
theorem dL_told_113 : decode cL_told 113 = .ok (.iadd, 1) := by decide +kernel
theorem dL_told_114 : decode cL_told 114 = .ok (.invokestatic 113, 3) := by decide +kernel
theorem dL_told_117 : decode cL_told 117 = .ok (.ifCond .eq 7, 3) := by decide +kernel
theorem dL_told_120 : decode cL_told 120 = .ok (.iconst 1, 1) := by decide +kernel
theorem dL_told_121 : decode cL_told 121 = .ok (.goto 4, 3) := by decide +kernel
theorem dL_told_124 : decode cL_told 124 = .ok (.iconst 0, 1) := by decide +kernel
theorem dL_told_125 : decode cL_told 125 = .ok (.istore 5, 2) := by decide +kernel
theorem dL_told_127 : decode cL_told 127 = .ok (.iconst 0, 1) := by decide +kernel
theorem dL_told_128 : decode cL_told 128 = .ok (.istore 9, 2) := by decide +kernel
theorem dL_told_130 : decode cL_told 130 = .ok (.iload 9, 2) := by decide +kernel
theorem dL_told_132 : decode cL_told 132 = .ok (.iconst 4, 1) := by decide +kernel
theorem dL_told_133 : decode cL_told 133 = .ok (.if_icmp .ge 54, 3) := by decide +kernel
theorem dL_told_136 : decode cL_told 136 = .ok (.iload 5, 2) := by decide +kernel
theorem dL_told_138 : decode cL_told 138 = .ok (.ifCond .eq 49, 3) := by decide +kernel
theorem dL_told_141 : decode cL_told 141 = .ok (.aload_n 0, 1) := by decide +kernel
theorem dL_told_142 : decode cL_told 142 = .ok (.aload_n 1, 1) := by decide +kernel
theorem dL_told_143 : decode cL_told 143 = .ok (.bipush 48, 2) := by decide +kernel
theorem dL_told_145 : decode cL_told 145 = .ok (.iload 9, 2) := by decide +kernel
theorem dL_told_147 : decode cL_told 147 = .ok (.iload 8, 2) := by decide +kernel
theorem dL_told_149 : decode cL_told 149 = .ok (.if_icmp .ne 13, 3) := by decide +kernel
theorem dL_told_152 : decode cL_told 152 = .ok (.iload 7, 2) := by decide +kernel
theorem dL_told_154 : decode cL_told 154 = .ok (.bipush 8, 2) := by decide +kernel
theorem dL_told_156 : decode cL_told 156 = .ok (.idiv, 1) := by decide +kernel
theorem dL_told_157 : decode cL_told 157 = .ok (.iconst 4, 1) := by decide +kernel
theorem dL_told_158 : decode cL_told 158 = .ok (.irem, 1) := by decide +kernel
theorem dL_told_159 : decode cL_told 159 = .ok (.goto 16, 3) := by decide +kernel
theorem dL_told_162 : decode cL_told 162 = .ok (.iload 7, 2) := by decide +kernel
theorem dL_told_164 : decode cL_told 164 = .ok (.bipush 32, 2) := by decide +kernel
theorem dL_told_166 : decode cL_told 166 = .ok (.iconst 3, 1) := by decide +kernel
theorem dL_told_167 : decode cL_told 167 = .ok (.iload 9, 2) := by decide +kernel
theorem dL_told_169 : decode cL_told 169 = .ok (.imul, 1) := by decide +kernel
theorem dL_told_170 : decode cL_told 170 = .ok (.ishl, 1) := by decide +kernel
theorem dL_told_171 : decode cL_told 171 = .ok (.idiv, 1) := by decide +kernel
theorem dL_told_172 : decode cL_told 172 = .ok (.bipush 10, 2) := by decide +kernel
theorem dL_told_174 : decode cL_told 174 = .ok (.irem, 1) := by decide +kernel
theorem dL_told_175 : decode cL_told 175 = .ok (.iadd, 1) := by decide +kernel
theorem dL_told_176 : decode cL_told 176 = .ok (.invokestatic 113, 3) := by decide +kernel
theorem dL_told_179 : decode cL_told 179 = .ok (.istore 5, 2) := by decide +kernel
theorem dL_told_181 : decode cL_told 181 = .ok (.iinc 9 1, 3) := by decide +kernel
theorem dL_told_184 : decode cL_told 184 = .ok (.goto (-54), 3) := by decide +kernel
theorem dL_told_187 : decode cL_told 187 = .ok (.iload 5, 2) := by decide +kernel
theorem dL_told_189 : decode cL_told 189 = .ok (.ifCond .eq 70, 3) := by decide +kernel
theorem dL_told_192 : decode cL_told 192 = .ok (.aload_n 0, 1) := by decide +kernel
theorem dL_told_193 : decode cL_told 193 = .ok (.invokevirtual 117, 3) := by decide +kernel
theorem dL_told_196 : decode cL_told 196 = .ok (.bipush 7, 2) := by decide +kernel
theorem dL_told_198 : decode cL_told 198 = .ok (.bipush 8, 2) := by decide +kernel
theorem dL_told_200 : decode cL_told 200 = .ok (.iload 6, 2) := by decide +kernel
theorem dL_told_202 : decode cL_told 202 = .ok (.imul, 1) := by decide +kernel
theorem dL_told_203 : decode cL_told 203 = .ok (.iadd, 1) := by decide +kernel
theorem dL_told_204 : decode cL_told 204 = .ok (.if_icmp .ne 55, 3) := by decide +kernel
theorem dL_told_207 : decode cL_told 207 = .ok (.aload_n 0, 1) := by decide +kernel
theorem dL_told_208 : decode cL_told 208 = .ok (.aload_n 1, 1) := by decide +kernel
theorem dL_told_209 : decode cL_told 209 = .ok (.bipush 48, 2) := by decide +kernel
theorem dL_told_211 : decode cL_told 211 = .ok (.iload 7, 2) := by decide +kernel
theorem dL_told_213 : decode cL_told 213 = .ok (.ldc 120, 2) := by decide +kernel
theorem dL_told_215 : decode cL_told 215 = .ok (.idiv, 1) := by decide +kernel
theorem dL_told_216 : decode cL_told 216 = .ok (.bipush 10, 2) := by decide +kernel
theorem dL_told_218 : decode cL_told 218 = .ok (.irem, 1) := by decide +kernel
theorem dL_told_219 : decode cL_told 219 = .ok (.iadd, 1) := by decide +kernel
theorem dL_told_220 : decode cL_told 220 = .ok (.invokestatic 113, 3) := by decide +kernel
theorem dL_told_223 : decode cL_told 223 = .ok (.ifCond .eq 36, 3) := by decide +kernel
theorem dL_told_226 : decode cL_told 226 = .ok (.aload_n 0, 1) := by decide +kernel
theorem dL_told_227 : decode cL_told 227 = .ok (.aload_n 1, 1) := by decide +kernel
theorem dL_told_228 : decode cL_told 228 = .ok (.bipush 48, 2) := by decide +kernel
theorem dL_told_230 : decode cL_told 230 = .ok (.iload 7, 2) := by decide +kernel
theorem dL_told_232 : decode cL_told 232 = .ok (.ldc 121, 2) := by decide +kernel
theorem dL_told_234 : decode cL_told 234 = .ok (.idiv, 1) := by decide +kernel
theorem dL_told_235 : decode cL_told 235 = .ok (.bipush 10, 2) := by decide +kernel
theorem dL_told_237 : decode cL_told 237 = .ok (.irem, 1) := by decide +kernel
theorem dL_told_238 : decode cL_told 238 = .ok (.iadd, 1) := by decide +kernel
theorem dL_told_239 : decode cL_told 239 = .ok (.invokestatic 113, 3) := by decide +kernel
theorem dL_told_242 : decode cL_told 242 = .ok (.ifCond .eq 17, 3) := by decide +kernel
theorem dL_told_245 : decode cL_told 245 = .ok (.aload_n 0, 1) := by decide +kernel
theorem dL_told_246 : decode cL_told 246 = .ok (.invokevirtual 117, 3) := by decide +kernel
theorem dL_told_249 : decode cL_told 249 = .ok (.sipush (-9999), 3) := by decide +kernel
theorem dL_told_252 : decode cL_told 252 = .ok (.if_icmp .ne 7, 3) := by decide +kernel
theorem dL_told_255 : decode cL_told 255 = .ok (.iconst 1, 1) := by decide +kernel
theorem dL_told_256 : decode cL_told 256 = .ok (.goto 4, 3) := by decide +kernel
theorem dL_told_259 : decode cL_told 259 = .ok (.iconst 0, 1) := by decide +kernel
theorem dL_told_260 : decode cL_told 260 = .ok (.istore 5, 2) := by decide +kernel
theorem dL_told_262 : decode cL_told 262 = .ok (.iinc 6 1, 3) := by decide +kernel
theorem dL_told_265 : decode cL_told 265 = .ok (.goto (-222), 3) := by decide +kernel
theorem dL_told_268 : decode cL_told 268 = .ok (.iload 5, 2) := by decide +kernel
theorem dL_told_270 : decode cL_told 270 = .ok (.ifCond .eq 116, 3) := by decide +kernel
theorem dL_told_273 : decode cL_told 273 = .ok (.aload_n 0, 1) := by decide +kernel
theorem dL_told_274 : decode cL_told 274 = .ok (.invokestatic 122, 3) := by decide +kernel
theorem dL_told_277 : decode cL_told 277 = .ok (.iload 4, 2) := by decide +kernel
theorem dL_told_279 : decode cL_told 279 = .ok (.if_icmp .ne 107, 3) := by decide +kernel
theorem dL_told_282 : decode cL_told 282 = .ok (.aload_n 1, 1) := by decide +kernel
theorem dL_told_283 : decode cL_told 283 = .ok (.invokestatic 122, 3) := by decide +kernel
theorem dL_told_286 : decode cL_told 286 = .ok (.iload 4, 2) := by decide +kernel
theorem dL_told_288 : decode cL_told 288 = .ok (.if_icmp .ne 98, 3) := by decide +kernel
theorem dL_told_291 : decode cL_told 291 = .ok (.aload_n 0, 1) := by decide +kernel
theorem dL_told_292 : decode cL_told 292 = .ok (.iconst 0, 1) := by decide +kernel
theorem dL_told_293 : decode cL_told 293 = .ok (.invokestatic 126, 3) := by decide +kernel
theorem dL_told_296 : decode cL_told 296 = .ok (.iload 4, 2) := by decide +kernel
theorem dL_told_298 : decode cL_told 298 = .ok (.if_icmp .ne 88, 3) := by decide +kernel
theorem dL_told_301 : decode cL_told 301 = .ok (.aload_n 0, 1) := by decide +kernel
theorem dL_told_302 : decode cL_told 302 = .ok (.iconst 1, 1) := by decide +kernel
theorem dL_told_303 : decode cL_told 303 = .ok (.invokestatic 126, 3) := by decide +kernel
theorem dL_told_306 : decode cL_told 306 = .ok (.ifCond .ne 80, 3) := by decide +kernel
theorem dL_told_309 : decode cL_told 309 = .ok (.aload_n 0, 1) := by decide +kernel
theorem dL_told_310 : decode cL_told 310 = .ok (.iconst 2, 1) := by decide +kernel
theorem dL_told_311 : decode cL_told 311 = .ok (.invokestatic 126, 3) := by decide +kernel
theorem dL_told_314 : decode cL_told 314 = .ok (.ifCond .ne 72, 3) := by decide +kernel
theorem dL_told_317 : decode cL_told 317 = .ok (.aload_n 0, 1) := by decide +kernel
theorem dL_told_318 : decode cL_told 318 = .ok (.iconst 0, 1) := by decide +kernel
theorem dL_told_319 : decode cL_told 319 = .ok (.bipush 8, 2) := by decide +kernel
theorem dL_told_321 : decode cL_told 321 = .ok (.invokestatic 129, 3) := by decide +kernel
theorem dL_told_324 : decode cL_told 324 = .ok (.sipush (-9999), 3) := by decide +kernel
theorem dL_told_327 : decode cL_told 327 = .ok (.if_icmp .ne 59, 3) := by decide +kernel
theorem dL_told_330 : decode cL_told 330 = .ok (.aload_n 0, 1) := by decide +kernel
theorem dL_told_331 : decode cL_told 331 = .ok (.invokestatic 133, 3) := by decide +kernel
theorem dL_told_334 : decode cL_told 334 = .ok (.ldc 18, 2) := by decide +kernel
theorem dL_told_336 : decode cL_told 336 = .ok (.if_icmp .ne 50, 3) := by decide +kernel
theorem dL_told_339 : decode cL_told 339 = .ok (.aload_n 1, 1) := by decide +kernel
theorem dL_told_340 : decode cL_told 340 = .ok (.iconst 1, 1) := by decide +kernel
theorem dL_told_341 : decode cL_told 341 = .ok (.invokestatic 136, 3) := by decide +kernel
theorem dL_told_344 : decode cL_told 344 = .ok (.ldc 18, 2) := by decide +kernel
theorem dL_told_346 : decode cL_told 346 = .ok (.if_icmp .ne 40, 3) := by decide +kernel
theorem dL_told_349 : decode cL_told 349 = .ok (.aload_n 0, 1) := by decide +kernel
theorem dL_told_350 : decode cL_told 350 = .ok (.aload_n 1, 1) := by decide +kernel
theorem dL_told_351 : decode cL_told 351 = .ok (.bipush 120, 2) := by decide +kernel
theorem dL_told_353 : decode cL_told 353 = .ok (.invokestatic 113, 3) := by decide +kernel
theorem dL_told_356 : decode cL_told 356 = .ok (.ifCond .eq 30, 3) := by decide +kernel
theorem dL_told_359 : decode cL_told 359 = .ok (.aload_n 0, 1) := by decide +kernel
theorem dL_told_360 : decode cL_told 360 = .ok (.invokevirtual 117, 3) := by decide +kernel
theorem dL_told_363 : decode cL_told 363 = .ok (.iconst 1, 1) := by decide +kernel
theorem dL_told_364 : decode cL_told 364 = .ok (.bipush 8, 2) := by decide +kernel
theorem dL_told_366 : decode cL_told 366 = .ok (.iload 4, 2) := by decide +kernel
theorem dL_told_368 : decode cL_told 368 = .ok (.imul, 1) := by decide +kernel
theorem dL_told_369 : decode cL_told 369 = .ok (.iadd, 1) := by decide +kernel
theorem dL_told_370 : decode cL_told 370 = .ok (.if_icmp .ne 16, 3) := by decide +kernel
theorem dL_told_373 : decode cL_told 373 = .ok (.aload_n 0, 1) := by decide +kernel
theorem dL_told_374 : decode cL_told 374 = .ok (.invokestatic 122, 3) := by decide +kernel
theorem dL_told_377 : decode cL_told 377 = .ok (.ldc 18, 2) := by decide +kernel
theorem dL_told_379 : decode cL_told 379 = .ok (.if_icmp .ne 7, 3) := by decide +kernel
theorem dL_told_382 : decode cL_told 382 = .ok (.iconst 1, 1) := by decide +kernel
theorem dL_told_383 : decode cL_told 383 = .ok (.goto 4, 3) := by decide +kernel
theorem dL_told_386 : decode cL_told 386 = .ok (.iconst 0, 1) := by decide +kernel
theorem dL_told_387 : decode cL_told 387 = .ok (.ireturn, 1) := by decide +kernel
set_option maxRecDepth 20000 in
theorem ggL_alike_L_tryAbout : GoodIn wsL_alike wsL_tryAbout := goodIn_ca (goodIn_r _ [4, 5, 6, 7, 8, 9, 10, 11, 12, 13, 14, 15, 16, 17, 18, 19, 20, 21, 22, 23, 24, 25, 26, 27, 28, 29, 30, 31, 32, 33, 34, 35, 36, 37, 38, 39, 40, 41, 42, 43, 44, 45, 46, 47, 48, 49, 50, 51, 52, 53, 54, 55, 56, 57, 58, 59, 60, 61, 62, 63, 64, 65, 66, 67, 68, 69, 70, 71, 72, 73, 74, 75, 76, 77, 78, 79, 80, 81, 82, 83, 84, 114, 115, 116, 117, 118, 119, 120, 121, 122, 123, 124, 125, 126, 127, 128, 129, 130] (by decide +kernel) (by decide +kernel)) (goodIn_sub (fun _ h => List.mem_cons_of_mem _ (List.mem_append_left _ (List.mem_append_right _ h))) (by decide +kernel))
set_option maxRecDepth 20000 in
theorem gL_alike_L_tryAbout : GoodIn wsL_alike (va_wsS RL 126 yL_tryAbout wsL_tryAbout) := goodIn_app (goodIn_of _ (by decide +kernel)) ggL_alike_L_tryAbout
set_option maxRecDepth 20000 in
theorem ggL_alike_L_tryMember : GoodIn wsL_alike wsL_tryMember := goodIn_ca (goodIn_ca (goodIn_r _ [87, 88, 5, 89, 6, 90, 91, 92, 10, 93, 14, 94, 95, 96, 97, 98, 99, 100, 30, 31, 20, 32, 22, 101, 102, 103, 12, 13, 104, 105, 106, 107, 27, 52, 51, 108, 46, 45, 28, 109, 110, 111, 112, 113, 81, 82, 83, 84, 65, 66, 67, 68, 47, 48, 49, 50, 114, 115, 116, 117, 118, 119, 120, 121, 122, 123, 124, 125, 126, 127, 128, 129, 130] (by decide +kernel) (by decide +kernel)) (goodIn_sub (fun _ h => List.mem_cons_of_mem _ (List.mem_append_right _ h)) (by decide +kernel))) (goodIn_sub (fun _ h => List.mem_cons_of_mem _ (List.mem_append_left _ (List.mem_append_right _ h))) (by decide +kernel))
set_option maxRecDepth 20000 in
theorem gL_alike_L_tryMember : GoodIn wsL_alike (va_wsS RL 129 yL_tryMember wsL_tryMember) := goodIn_app (goodIn_of _ (by decide +kernel)) ggL_alike_L_tryMember
theorem dL_alike_0 : decode cL_alike 0 = .ok (.iconst 1, 1) := by decide +kernel
theorem dL_alike_1 : decode cL_alike 1 = .ok (.istore_n 2, 1) := by decide +kernel
theorem dL_alike_2 : decode cL_alike 2 = .ok (.iconst 0, 1) := by decide +kernel
theorem dL_alike_3 : decode cL_alike 3 = .ok (.istore_n 3, 1) := by decide +kernel
theorem dL_alike_4 : decode cL_alike 4 = .ok (.iload_n 3, 1) := by decide +kernel
theorem dL_alike_5 : decode cL_alike 5 = .ok (.bipush 7, 2) := by decide +kernel
theorem dL_alike_7 : decode cL_alike 7 = .ok (.if_icmp .ge 32, 3) := by decide +kernel
theorem dL_alike_10 : decode cL_alike 10 = .ok (.iload_n 2, 1) := by decide +kernel
theorem dL_alike_11 : decode cL_alike 11 = .ok (.ifCond .eq 20, 3) := by decide +kernel
theorem dL_alike_14 : decode cL_alike 14 = .ok (.aload_n 0, 1) := by decide +kernel
theorem dL_alike_15 : decode cL_alike 15 = .ok (.iload_n 3, 1) := by decide +kernel
theorem dL_alike_16 : decode cL_alike 16 = .ok (.invokestatic 126, 3) := by decide +kernel
theorem dL_alike_19 : decode cL_alike 19 = .ok (.aload_n 1, 1) := by decide +kernel
theorem dL_alike_20 : decode cL_alike 20 = .ok (.iload_n 3, 1) := by decide +kernel
theorem dL_alike_21 : decode cL_alike 21 = .ok (.invokestatic 126, 3) := by decide +kernel
theorem dL_alike_24 : decode cL_alike 24 = .ok (.if_icmp .ne 7, 3) := by decide +kernel
theorem dL_alike_27 : decode cL_alike 27 = .ok (.iconst 1, 1) := by decide +kernel
theorem dL_alike_28 : decode cL_alike 28 = .ok (.goto 4, 3) := by decide +kernel
theorem dL_alike_31 : decode cL_alike 31 = .ok (.iconst 0, 1) := by decide +kernel
theorem dL_alike_32 : decode cL_alike 32 = .ok (.istore_n 2, 1) := by decide +kernel
theorem dL_alike_33 : decode cL_alike 33 = .ok (.iinc 3 1, 3) := by decide +kernel
theorem dL_alike_36 : decode cL_alike 36 = .ok (.goto (-32), 3) := by decide +kernel
theorem dL_alike_39 : decode cL_alike 39 = .ok (.iconst 0, 1) := by decide +kernel
theorem dL_alike_40 : decode cL_alike 40 = .ok (.istore_n 3, 1) := by decide +kernel
theorem dL_alike_41 : decode cL_alike 41 = .ok (.iload_n 3, 1) := by decide +kernel
theorem dL_alike_42 : decode cL_alike 42 = .ok (.aload_n 0, 1) := by decide +kernel
theorem dL_alike_43 : decode cL_alike 43 = .ok (.iconst 0, 1) := by decide +kernel
theorem dL_alike_44 : decode cL_alike 44 = .ok (.invokestatic 126, 3) := by decide +kernel
theorem dL_alike_47 : decode cL_alike 47 = .ok (.if_icmp .ge 56, 3) := by decide +kernel
theorem dL_alike_50 : decode cL_alike 50 = .ok (.iload_n 2, 1) := by decide +kernel
theorem dL_alike_51 : decode cL_alike 51 = .ok (.ifCond .eq 52, 3) := by decide +kernel
theorem dL_alike_54 : decode cL_alike 54 = .ok (.iconst 0, 1) := by decide +kernel
theorem dL_alike_55 : decode cL_alike 55 = .ok (.istore 4, 2) := by decide +kernel
theorem dL_alike_57 : decode cL_alike 57 = .ok (.iload 4, 2) := by decide +kernel
theorem dL_alike_59 : decode cL_alike 59 = .ok (.bipush 11, 2) := by decide +kernel
theorem dL_alike_61 : decode cL_alike 61 = .ok (.if_icmp .ge 36, 3) := by decide +kernel
theorem dL_alike_64 : decode cL_alike 64 = .ok (.iload_n 2, 1) := by decide +kernel
theorem dL_alike_65 : decode cL_alike 65 = .ok (.ifCond .eq 24, 3) := by decide +kernel
theorem dL_alike_68 : decode cL_alike 68 = .ok (.aload_n 0, 1) := by decide +kernel
theorem dL_alike_69 : decode cL_alike 69 = .ok (.iload_n 3, 1) := by decide +kernel
theorem dL_alike_70 : decode cL_alike 70 = .ok (.iload 4, 2) := by decide +kernel
theorem dL_alike_72 : decode cL_alike 72 = .ok (.invokestatic 129, 3) := by decide +kernel
theorem dL_alike_75 : decode cL_alike 75 = .ok (.aload_n 1, 1) := by decide +kernel
theorem dL_alike_76 : decode cL_alike 76 = .ok (.iload_n 3, 1) := by decide +kernel
theorem dL_alike_77 : decode cL_alike 77 = .ok (.iload 4, 2) := by decide +kernel
theorem dL_alike_79 : decode cL_alike 79 = .ok (.invokestatic 129, 3) := by decide +kernel
theorem dL_alike_82 : decode cL_alike 82 = .ok (.if_icmp .ne 7, 3) := by decide +kernel
theorem dL_alike_85 : decode cL_alike 85 = .ok (.iconst 1, 1) := by decide +kernel
theorem dL_alike_86 : decode cL_alike 86 = .ok (.goto 4, 3) := by decide +kernel
theorem dL_alike_89 : decode cL_alike 89 = .ok (.iconst 0, 1) := by decide +kernel
theorem dL_alike_90 : decode cL_alike 90 = .ok (.istore_n 2, 1) := by decide +kernel
theorem dL_alike_91 : decode cL_alike 91 = .ok (.iinc 4 1, 3) := by decide +kernel
theorem dL_alike_94 : decode cL_alike 94 = .ok (.goto (-37), 3) := by decide +kernel
theorem dL_alike_97 : decode cL_alike 97 = .ok (.iinc 3 1, 3) := by decide +kernel
theorem dL_alike_100 : decode cL_alike 100 = .ok (.goto (-59), 3) := by decide +kernel
theorem dL_alike_103 : decode cL_alike 103 = .ok (.iload_n 2, 1) := by decide +kernel
theorem dL_alike_104 : decode cL_alike 104 = .ok (.ireturn, 1) := by decide +kernel
set_option maxRecDepth 20000 in
theorem ggL_refuses_L_tryAbout : GoodIn wsL_refuses wsL_tryAbout := goodIn_ca (goodIn_r _ [8, 9, 1, 10, 11, 12, 13, 14, 15, 16, 17, 18, 19, 20, 21, 22, 23, 24, 25, 26, 27, 28, 29, 30, 31, 32, 33, 34, 35, 36, 37, 38, 39, 40, 41, 42, 43, 44, 45, 46, 47, 48, 49, 50, 51, 52, 53, 54, 55, 56, 57, 58, 59, 60, 61, 62, 63, 64, 65, 66, 67, 68, 69, 70, 71, 72, 73, 74, 75, 76, 77, 78, 79, 80, 81, 82, 83, 84, 85, 86, 87, 466, 467, 468, 469, 470, 471, 472, 473, 474, 475, 476, 477, 478, 479, 480, 481, 482] (by decide +kernel) (by decide +kernel)) (goodIn_sub (fun _ h => List.mem_cons_of_mem _ (List.mem_append_left _ (List.mem_append_left _ (List.mem_append_right _ h)))) (by decide +kernel))
set_option maxRecDepth 20000 in
theorem gL_refuses_L_tryAbout : GoodIn wsL_refuses (va_wsS RL 126 yL_tryAbout wsL_tryAbout) := goodIn_app (goodIn_of _ (by decide +kernel)) ggL_refuses_L_tryAbout
set_option maxRecDepth 20000 in
theorem ggL_refuses_L_tryMember : GoodIn wsL_refuses wsL_tryMember := goodIn_ca (goodIn_ca (goodIn_r _ [90, 91, 9, 2, 1, 92, 93, 94, 13, 95, 17, 96, 97, 98, 99, 100, 101, 102, 33, 34, 23, 35, 25, 103, 104, 105, 15, 16, 106, 107, 108, 109, 30, 55, 54, 110, 49, 48, 31, 111, 112, 113, 114, 115, 84, 85, 86, 87, 68, 69, 70, 71, 50, 51, 52, 53, 466, 467, 468, 469, 470, 471, 472, 473, 474, 475, 476, 477, 478, 479, 480, 481, 482] (by decide +kernel) (by decide +kernel)) (goodIn_sub (fun _ h => List.mem_cons_of_mem _ (List.mem_append_left _ (List.mem_append_right _ h))) (by decide +kernel))) (goodIn_sub (fun _ h => List.mem_cons_of_mem _ (List.mem_append_left _ (List.mem_append_left _ (List.mem_append_right _ h)))) (by decide +kernel))
set_option maxRecDepth 20000 in
theorem gL_refuses_L_tryMember : GoodIn wsL_refuses (va_wsS RL 129 yL_tryMember wsL_tryMember) := goodIn_app (goodIn_of _ (by decide +kernel)) ggL_refuses_L_tryMember
set_option maxRecDepth 20000 in
theorem ggL_refuses_L_tryBoth : GoodIn wsL_refuses wsL_tryBoth := goodIn_ca (goodIn_ca (goodIn_r _ [118, 91, 9, 2, 1, 119, 120, 121, 13, 122, 15, 16, 17, 123, 124, 125, 126, 96, 97, 98, 99, 100, 101, 102, 33, 34, 23, 35, 25, 127, 45, 46, 47, 30, 48, 49, 50, 51, 52, 53, 54, 55, 56, 57, 58, 59, 128, 41, 42, 43, 44, 129, 69, 70, 71, 130, 65, 66, 67, 31, 68, 72, 73, 74, 75, 32, 466, 467, 468, 469, 470, 471, 472, 473, 474, 475, 476, 477, 478, 479, 480, 481, 482] (by decide +kernel) (by decide +kernel)) (goodIn_sub (fun _ h => List.mem_cons_of_mem _ (List.mem_append_left _ (List.mem_append_left _ (List.mem_append_right _ h)))) (by decide +kernel))) (goodIn_sub (fun _ h => List.mem_cons_of_mem _ (List.mem_append_left _ (List.mem_append_right _ h))) (by decide +kernel))
set_option maxRecDepth 20000 in
theorem gL_refuses_L_tryBoth : GoodIn wsL_refuses (va_wsS RL 139 yL_tryBoth wsL_tryBoth) := goodIn_app (goodIn_of _ (by decide +kernel)) ggL_refuses_L_tryBoth
set_option maxRecDepth 20000 in
theorem ggL_refuses_L_tryJoin : GoodIn wsL_refuses wsL_tryJoin := goodIn_ca (goodIn_ca (goodIn_r _ [133, 9, 134, 1, 3, 135, 136, 137, 13, 138, 139, 140, 17, 18, 141, 142, 143, 144, 103, 104, 105, 15, 16, 145, 146, 147, 148, 149, 150, 151, 152, 153, 154, 155, 23, 156, 25, 30, 157, 158, 159, 160, 161, 162, 163, 164, 165, 166, 167, 168, 169, 170, 171, 172, 173, 174, 175, 176, 177, 178, 179, 180, 181, 466, 467, 468, 469, 470, 471, 472, 473, 474, 475, 483, 484, 485, 476, 477, 478, 479, 480, 481, 482] (by decide +kernel) (by decide +kernel)) (goodIn_sub (fun _ h => List.mem_cons_of_mem _ (List.mem_append_right _ h)) (by decide +kernel))) (goodIn_sub (fun _ h => List.mem_cons_of_mem _ (List.mem_append_left _ (List.mem_append_left _ (List.mem_append_right _ h)))) (by decide +kernel))
set_option maxRecDepth 20000 in
theorem gL_refuses_L_tryJoin : GoodIn wsL_refuses (va_wsS RL 143 yL_tryJoin wsL_tryJoin) := goodIn_app (goodIn_of _ (by decide +kernel)) ggL_refuses_L_tryJoin
set_option maxRecDepth 20000 in
theorem ggL_refuses_L_tryLeave : GoodIn wsL_refuses wsL_tryLeave := goodIn_ca (goodIn_r _ [184, 91, 2, 185, 186, 187, 13, 188, 141, 17, 189, 190, 96, 97, 98, 99, 100, 101, 102, 33, 34, 23, 35, 25, 145, 146, 147, 148, 149, 150, 151, 152, 153, 154, 155, 156, 30, 157, 158, 159, 160, 161, 162, 163, 164, 165, 166, 167, 168, 169, 170, 171, 172, 173, 191, 192, 193, 194, 31, 195, 196, 197, 198, 32, 466, 467, 468, 469, 470, 471, 472, 473, 474, 475, 476, 477, 478, 479, 480, 481, 482, 483, 484, 485] (by decide +kernel) (by decide +kernel)) (goodIn_sub (fun _ h => List.mem_cons_of_mem _ (List.mem_append_left _ (List.mem_append_right _ h))) (by decide +kernel))
set_option maxRecDepth 20000 in
theorem gL_refuses_L_tryLeave : GoodIn wsL_refuses (va_wsS RL 146 yL_tryLeave wsL_tryLeave) := goodIn_app (goodIn_of _ (by decide +kernel)) ggL_refuses_L_tryLeave
set_option maxRecDepth 20000 in
theorem ggL_refuses_L_tryWant : GoodIn wsL_refuses wsL_tryWant := goodIn_ca (goodIn_ca (goodIn_r _ [201, 91, 9, 2, 1, 202, 203, 204, 13, 205, 141, 17, 189, 206, 96, 97, 98, 99, 100, 101, 102, 33, 34, 23, 35, 25, 142, 143, 144, 103, 104, 105, 15, 16, 145, 146, 147, 148, 149, 150, 151, 152, 153, 154, 155, 156, 30, 157, 158, 159, 160, 161, 162, 163, 164, 165, 166, 167, 168, 169, 170, 171, 172, 173, 207, 208, 209, 210, 54, 110, 211, 212, 213, 214, 31, 32, 68, 69, 70, 71, 50, 51, 52, 53, 55, 195, 196, 197, 198, 466, 467, 468, 469, 470, 471, 472, 473, 474, 475, 476, 477, 478, 479, 480, 481, 482, 483, 484, 485] (by decide +kernel) (by decide +kernel)) (goodIn_sub (fun _ h => List.mem_cons_of_mem _ (List.mem_append_left _ (List.mem_append_right _ h))) (by decide +kernel))) (goodIn_sub (fun _ h => List.mem_cons_of_mem _ (List.mem_append_left _ (List.mem_append_left _ (List.mem_append_right _ h)))) (by decide +kernel))
set_option maxRecDepth 20000 in
theorem gL_refuses_L_tryWant : GoodIn wsL_refuses (va_wsS RL 149 yL_tryWant wsL_tryWant) := goodIn_app (goodIn_of _ (by decide +kernel)) ggL_refuses_L_tryWant
set_option maxRecDepth 20000 in
theorem ggL_refuses_L_tryTest : GoodIn wsL_refuses wsL_tryTest := goodIn_ca (goodIn_ca (goodIn_r _ [217, 91, 9, 2, 1, 218, 219, 220, 13, 221, 141, 17, 189, 222, 96, 97, 98, 99, 100, 101, 102, 33, 34, 23, 35, 25, 142, 143, 144, 103, 104, 105, 15, 16, 145, 146, 147, 148, 149, 150, 151, 152, 153, 154, 155, 156, 30, 157, 158, 159, 160, 161, 162, 163, 164, 165, 166, 167, 168, 169, 170, 171, 172, 173, 223, 224, 225, 226, 55, 54, 110, 211, 212, 213, 214, 31, 32, 68, 69, 70, 71, 50, 51, 52, 53, 195, 196, 197, 198, 466, 467, 468, 469, 470, 471, 472, 473, 474, 475, 476, 477, 478, 479, 480, 481, 482, 483, 484, 485] (by decide +kernel) (by decide +kernel)) (goodIn_sub (fun _ h => List.mem_cons_of_mem _ (List.mem_append_left _ (List.mem_append_right _ h))) (by decide +kernel))) (goodIn_sub (fun _ h => List.mem_cons_of_mem _ (List.mem_append_left _ (List.mem_append_left _ (List.mem_append_right _ h)))) (by decide +kernel))
set_option maxRecDepth 20000 in
theorem gL_refuses_L_tryTest : GoodIn wsL_refuses (va_wsS RL 152 yL_tryTest wsL_tryTest) := goodIn_app (goodIn_of _ (by decide +kernel)) ggL_refuses_L_tryTest
set_option maxRecDepth 20000 in
theorem ggL_refuses_L_tryPair : GoodIn wsL_refuses wsL_tryPair := goodIn_ca (goodIn_ca (goodIn_ca (goodIn_r _ [229, 91, 9, 134, 2, 1, 3, 230, 231, 232, 13, 233, 139, 140, 17, 141, 123, 124, 125, 126, 15, 16, 96, 97, 98, 99, 100, 101, 102, 33, 34, 23, 35, 25, 234, 235, 236, 237, 112, 113, 114, 115, 30, 31, 68, 69, 70, 71, 50, 51, 52, 53, 54, 55, 145, 146, 147, 148, 149, 150, 151, 152, 153, 154, 155, 156, 157, 158, 159, 160, 161, 162, 163, 164, 165, 166, 167, 168, 169, 170, 171, 172, 173, 238, 239, 240, 241, 111, 128, 41, 42, 43, 44, 45, 46, 47, 48, 49, 56, 57, 58, 59, 466, 467, 468, 469, 470, 471, 472, 473, 474, 475, 476, 477, 478, 479, 480, 481, 482, 483, 484, 485] (by decide +kernel) (by decide +kernel)) (goodIn_sub (fun _ h => List.mem_cons_of_mem _ (List.mem_append_right _ h)) (by decide +kernel))) (goodIn_sub (fun _ h => List.mem_cons_of_mem _ (List.mem_append_left _ (List.mem_append_left _ (List.mem_append_right _ h)))) (by decide +kernel))) (goodIn_sub (fun _ h => List.mem_cons_of_mem _ (List.mem_append_left _ (List.mem_append_right _ h))) (by decide +kernel))
set_option maxRecDepth 20000 in
theorem gL_refuses_L_tryPair : GoodIn wsL_refuses (va_wsS RL 155 yL_tryPair wsL_tryPair) := goodIn_app (goodIn_of _ (by decide +kernel)) ggL_refuses_L_tryPair
set_option maxRecDepth 20000 in
theorem ggL_refuses_L_tryPart : GoodIn wsL_refuses wsL_tryPart := goodIn_ca (goodIn_ca (goodIn_r _ [244, 91, 134, 2, 3, 245, 246, 247, 13, 248, 141, 17, 189, 249, 96, 97, 98, 99, 100, 101, 102, 33, 34, 23, 35, 25, 250, 251, 252, 253, 139, 140, 254, 113, 114, 115, 30, 31, 145, 146, 147, 148, 149, 150, 151, 152, 153, 154, 155, 156, 157, 158, 159, 160, 161, 162, 163, 164, 165, 166, 167, 168, 169, 170, 171, 172, 173, 255, 196, 197, 198, 32, 466, 467, 468, 469, 470, 471, 472, 473, 474, 475, 476, 477, 478, 479, 480, 481, 482, 483, 484, 485] (by decide +kernel) (by decide +kernel)) (goodIn_sub (fun _ h => List.mem_cons_of_mem _ (List.mem_append_left _ (List.mem_append_right _ h))) (by decide +kernel))) (goodIn_sub (fun _ h => List.mem_cons_of_mem _ (List.mem_append_right _ h)) (by decide +kernel))
set_option maxRecDepth 20000 in
theorem gL_refuses_L_tryPart : GoodIn wsL_refuses (va_wsS RL 158 yL_tryPart wsL_tryPart) := goodIn_app (goodIn_of _ (by decide +kernel)) ggL_refuses_L_tryPart
set_option maxRecDepth 20000 in
theorem ggL_refuses_L_tryPartsAfter : GoodIn wsL_refuses wsL_tryPartsAfter := goodIn_ca (goodIn_ca (goodIn_ca (goodIn_r _ [258, 91, 9, 134, 2, 1, 3, 259, 260, 261, 13, 262, 263, 17, 96, 97, 98, 99, 100, 101, 102, 33, 34, 23, 35, 25, 103, 104, 105, 15, 16, 250, 251, 252, 253, 139, 140, 254, 113, 114, 115, 30, 31, 264, 154, 155, 156, 157, 158, 159, 160, 161, 162, 163, 164, 165, 166, 167, 168, 169, 170, 171, 172, 173, 265, 266, 267, 268, 111, 26, 27, 28, 29, 32, 269, 270, 271, 272, 273, 274, 275, 276, 277, 278, 279, 280, 281, 282, 283, 284, 285, 286, 287, 288, 289, 290, 291, 292, 50, 51, 52, 53, 54, 55, 293, 294, 295, 296, 297, 298, 299, 300, 68, 69, 70, 71, 195, 196, 197, 198, 466, 467, 468, 469, 470, 471, 472, 473, 474, 475, 476, 477, 478, 479, 480, 481, 482] (by decide +kernel) (by decide +kernel)) (goodIn_sub (fun _ h => List.mem_cons_of_mem _ (List.mem_append_left _ (List.mem_append_right _ h))) (by decide +kernel))) (goodIn_sub (fun _ h => List.mem_cons_of_mem _ (List.mem_append_left _ (List.mem_append_left _ (List.mem_append_right _ h)))) (by decide +kernel))) (goodIn_sub (fun _ h => List.mem_cons_of_mem _ (List.mem_append_right _ h)) (by decide +kernel))
set_option maxRecDepth 20000 in
theorem gL_refuses_L_tryPartsAfter : GoodIn wsL_refuses (va_wsS RL 161 yL_tryPartsAfter wsL_tryPartsAfter) := goodIn_app (goodIn_of _ (by decide +kernel)) ggL_refuses_L_tryPartsAfter
set_option maxRecDepth 20000 in
theorem ggL_refuses_L_trySettle : GoodIn wsL_refuses wsL_trySettle := goodIn_ca (goodIn_r _ [303, 9, 1, 304, 305, 306, 13, 307, 141, 17, 103, 104, 105, 15, 16, 145, 146, 147, 148, 149, 150, 151, 152, 153, 154, 155, 23, 156, 25, 30, 157, 158, 159, 160, 161, 162, 163, 164, 165, 166, 167, 168, 169, 170, 171, 172, 173, 308, 309, 310, 311, 312, 313, 314, 315, 64, 65, 66, 67, 31, 68, 69, 70, 71, 50, 51, 52, 53, 54, 55, 72, 73, 74, 75, 32, 33, 34, 35, 44, 45, 46, 47, 48, 49, 56, 57, 58, 59, 195, 196, 197, 198, 316, 239, 240, 241, 111, 466, 467, 468, 469, 470, 471, 472, 483, 484, 485, 473, 474, 475, 476, 477, 478, 479, 480, 481, 482] (by decide +kernel) (by decide +kernel)) (goodIn_sub (fun _ h => List.mem_cons_of_mem _ (List.mem_append_left _ (List.mem_append_left _ (List.mem_append_right _ h)))) (by decide +kernel))
set_option maxRecDepth 20000 in
theorem gL_refuses_L_trySettle : GoodIn wsL_refuses (va_wsS RL 164 yL_trySettle wsL_trySettle) := goodIn_app (goodIn_of _ (by decide +kernel)) ggL_refuses_L_trySettle
set_option maxRecDepth 20000 in
theorem ggL_refuses_L_tryWeek : GoodIn wsL_refuses wsL_tryWeek := goodIn_ca (goodIn_r _ [319, 9, 1, 320, 321, 322, 13, 323, 141, 17, 103, 104, 105, 15, 16, 145, 146, 147, 148, 149, 150, 151, 152, 153, 154, 155, 23, 156, 25, 30, 157, 158, 159, 160, 161, 162, 163, 164, 165, 166, 167, 168, 169, 170, 171, 172, 173, 265, 266, 267, 268, 111, 26, 27, 28, 29, 31, 32, 33, 34, 35, 269, 270, 271, 272, 273, 274, 275, 276, 277, 278, 279, 280, 281, 282, 283, 284, 285, 286, 287, 288, 289, 290, 291, 292, 50, 51, 52, 53, 54, 55, 293, 294, 295, 296, 297, 298, 299, 300, 68, 69, 70, 71, 195, 196, 197, 198, 20, 21, 22, 24, 466, 467, 468, 469, 470, 471, 472, 483, 484, 485, 473, 474, 475, 476, 477, 478, 479, 480, 481, 482] (by decide +kernel) (by decide +kernel)) (goodIn_sub (fun _ h => List.mem_cons_of_mem _ (List.mem_append_left _ (List.mem_append_left _ (List.mem_append_right _ h)))) (by decide +kernel))
set_option maxRecDepth 20000 in
theorem gL_refuses_L_tryWeek : GoodIn wsL_refuses (va_wsS RL 167 yL_tryWeek wsL_tryWeek) := goodIn_app (goodIn_of _ (by decide +kernel)) ggL_refuses_L_tryWeek
set_option maxRecDepth 20000 in
theorem ggL_refuses_L_tryBlocking : GoodIn wsL_refuses wsL_tryBlocking := goodIn_ca (goodIn_r _ [326, 9, 1, 327, 328, 329, 13, 330, 15, 16, 17, 18, 130, 65, 66, 23, 67, 30, 31, 68, 69, 70, 71, 50, 51, 52, 53, 54, 55, 72, 73, 74, 75, 32, 33, 34, 35, 25, 44, 45, 46, 47, 48, 49, 56, 57, 58, 59, 466, 467, 468, 469, 470, 471, 472, 473, 474, 475, 476, 477, 478, 479, 480, 481, 482] (by decide +kernel) (by decide +kernel)) (goodIn_sub (fun _ h => List.mem_cons_of_mem _ (List.mem_append_left _ (List.mem_append_left _ (List.mem_append_right _ h)))) (by decide +kernel))
set_option maxRecDepth 20000 in
theorem gL_refuses_L_tryBlocking : GoodIn wsL_refuses (va_wsS RL 170 yL_tryBlocking wsL_tryBlocking) := goodIn_app (goodIn_of _ (by decide +kernel)) ggL_refuses_L_tryBlocking
set_option maxRecDepth 20000 in
theorem ggL_refuses_L_tryBestPartner : GoodIn wsL_refuses wsL_tryBestPartner := goodIn_ca (goodIn_r _ [333, 91, 2, 334, 335, 336, 13, 337, 17, 18, 96, 97, 98, 99, 100, 101, 102, 33, 34, 23, 35, 25, 129, 69, 70, 71, 50, 51, 52, 53, 30, 54, 55, 254, 113, 114, 115, 31, 127, 45, 46, 47, 48, 49, 56, 57, 58, 59, 466, 467, 468, 469, 470, 471, 472, 473, 474, 475, 476, 477, 478, 479, 480, 481, 482] (by decide +kernel) (by decide +kernel)) (goodIn_sub (fun _ h => List.mem_cons_of_mem _ (List.mem_append_left _ (List.mem_append_right _ h))) (by decide +kernel))
set_option maxRecDepth 20000 in
theorem gL_refuses_L_tryBestPartner : GoodIn wsL_refuses (va_wsS RL 174 yL_tryBestPartner wsL_tryBestPartner) := goodIn_app (goodIn_of _ (by decide +kernel)) ggL_refuses_L_tryBestPartner
set_option maxRecDepth 20000 in
theorem ggL_refuses_L_tryBest : GoodIn wsL_refuses wsL_tryBest := goodIn_ca (goodIn_r _ [340, 9, 1, 341, 342, 343, 13, 344, 345, 17, 103, 104, 105, 15, 16, 346, 347, 348, 349, 350, 351, 352, 353, 354, 355, 356, 357, 358, 286, 283, 287, 359, 69, 70, 23, 71, 50, 51, 52, 53, 30, 54, 55, 360, 41, 42, 43, 44, 45, 46, 47, 48, 49, 56, 57, 58, 59, 361, 362, 363, 364, 365, 366, 367, 368, 369, 370, 371, 372, 373, 374, 375, 466, 467, 468, 469, 470, 471, 472, 486, 473, 474, 475, 476, 477, 478, 479, 480, 481, 482] (by decide +kernel) (by decide +kernel)) (goodIn_sub (fun _ h => List.mem_cons_of_mem _ (List.mem_append_left _ (List.mem_append_left _ (List.mem_append_right _ h)))) (by decide +kernel))
set_option maxRecDepth 20000 in
theorem gL_refuses_L_tryBest : GoodIn wsL_refuses (va_wsS RL 177 yL_tryBest wsL_tryBest) := goodIn_app (goodIn_of _ (by decide +kernel)) ggL_refuses_L_tryBest
set_option maxRecDepth 20000 in
theorem ggL_refuses_L_tryAhead : GoodIn wsL_refuses wsL_tryAhead := goodIn_ca (goodIn_ca (goodIn_r _ [378, 91, 9, 2, 1, 379, 380, 381, 13, 382, 263, 17, 96, 97, 98, 99, 100, 101, 102, 33, 34, 23, 35, 25, 103, 104, 105, 15, 16, 264, 154, 155, 156, 30, 157, 158, 159, 160, 161, 162, 163, 164, 165, 166, 167, 168, 169, 170, 171, 172, 173, 265, 266, 267, 268, 111, 26, 27, 28, 29, 31, 32, 269, 270, 271, 272, 273, 274, 275, 276, 277, 278, 279, 280, 281, 282, 283, 284, 285, 286, 287, 288, 289, 290, 291, 292, 50, 51, 52, 53, 54, 55, 293, 294, 295, 296, 297, 298, 299, 300, 68, 69, 70, 71, 195, 196, 197, 198, 106, 107, 108, 109, 110, 49, 48, 112, 113, 114, 115, 84, 85, 86, 87, 466, 467, 468, 469, 470, 471, 472, 473, 474, 475, 476, 477, 478, 479, 480, 481, 482] (by decide +kernel) (by decide +kernel)) (goodIn_sub (fun _ h => List.mem_cons_of_mem _ (List.mem_append_left _ (List.mem_append_right _ h))) (by decide +kernel))) (goodIn_sub (fun _ h => List.mem_cons_of_mem _ (List.mem_append_left _ (List.mem_append_left _ (List.mem_append_right _ h)))) (by decide +kernel))
set_option maxRecDepth 20000 in
theorem gL_refuses_L_tryAhead : GoodIn wsL_refuses (va_wsS RL 180 yL_tryAhead wsL_tryAhead) := goodIn_app (goodIn_of _ (by decide +kernel)) ggL_refuses_L_tryAhead
set_option maxRecDepth 20000 in
theorem ggL_refuses_L_tryLevelAfter : GoodIn wsL_refuses wsL_tryLevelAfter := goodIn_ca (goodIn_ca (goodIn_r _ [385, 91, 9, 2, 1, 386, 387, 388, 13, 389, 263, 17, 189, 96, 97, 98, 99, 100, 101, 102, 33, 34, 23, 35, 25, 103, 104, 105, 15, 16, 264, 154, 155, 156, 30, 157, 158, 159, 160, 161, 162, 163, 164, 165, 166, 167, 168, 169, 170, 171, 172, 173, 390, 391, 392, 393, 394, 395, 396, 397, 398, 399, 400, 401, 402, 235, 236, 237, 112, 113, 114, 115, 31, 68, 69, 70, 71, 50, 51, 52, 53, 54, 55, 40, 41, 42, 43, 44, 45, 46, 47, 48, 49, 56, 57, 58, 59, 32, 316, 239, 240, 241, 111, 265, 266, 267, 268, 26, 27, 28, 29, 269, 270, 271, 272, 273, 274, 275, 276, 277, 278, 279, 280, 281, 282, 283, 284, 285, 286, 287, 288, 289, 290, 291, 292, 293, 294, 295, 296, 297, 298, 299, 300, 195, 196, 197, 198, 466, 467, 468, 469, 470, 471, 472, 473, 474, 475, 476, 477, 478, 479, 480, 481, 482] (by decide +kernel) (by decide +kernel)) (goodIn_sub (fun _ h => List.mem_cons_of_mem _ (List.mem_append_left _ (List.mem_append_right _ h))) (by decide +kernel))) (goodIn_sub (fun _ h => List.mem_cons_of_mem _ (List.mem_append_left _ (List.mem_append_left _ (List.mem_append_right _ h)))) (by decide +kernel))
set_option maxRecDepth 20000 in
theorem gL_refuses_L_tryLevelAfter : GoodIn wsL_refuses (va_wsS RL 184 yL_tryLevelAfter wsL_tryLevelAfter) := goodIn_app (goodIn_of _ (by decide +kernel)) ggL_refuses_L_tryLevelAfter
set_option maxRecDepth 20000 in
theorem ggL_refuses_L_tryScript : GoodIn wsL_refuses wsL_tryScript := goodIn_ca (goodIn_r _ [405, 9, 1, 406, 407, 408, 13, 409, 15, 16, 263, 17, 410, 103, 104, 105, 411, 412, 413, 264, 154, 155, 23, 156, 25, 30, 157, 158, 159, 160, 161, 162, 163, 164, 165, 166, 167, 168, 169, 170, 171, 172, 173, 414, 415, 416, 417, 189, 249, 222, 102, 33, 34, 35, 234, 235, 236, 237, 112, 113, 114, 115, 31, 68, 69, 70, 71, 50, 51, 52, 53, 54, 55, 238, 239, 240, 241, 111, 254, 255, 196, 197, 198, 32, 394, 395, 396, 397, 398, 399, 400, 401, 402, 40, 41, 42, 43, 44, 45, 46, 47, 48, 49, 56, 57, 58, 59, 316, 308, 309, 310, 311, 312, 313, 314, 315, 64, 65, 66, 67, 72, 73, 74, 75, 195, 265, 266, 267, 268, 26, 27, 28, 29, 269, 270, 271, 272, 273, 274, 275, 276, 277, 278, 279, 280, 281, 282, 283, 284, 285, 286, 287, 288, 289, 290, 291, 292, 293, 294, 295, 296, 297, 298, 299, 300, 223, 224, 225, 226, 110, 211, 212, 213, 214, 20, 21, 22, 24, 466, 467, 468, 469, 470, 471, 472, 473, 474, 475, 476, 477, 478, 479, 480, 481, 482] (by decide +kernel) (by decide +kernel)) (goodIn_sub (fun _ h => List.mem_cons_of_mem _ (List.mem_append_left _ (List.mem_append_left _ (List.mem_append_right _ h)))) (by decide +kernel))
set_option maxRecDepth 20000 in
theorem gL_refuses_L_tryScript : GoodIn wsL_refuses (va_wsS RL 187 yL_tryScript wsL_tryScript) := goodIn_app (goodIn_of _ (by decide +kernel)) ggL_refuses_L_tryScript
set_option maxRecDepth 20000 in
theorem ggL_refuses_L_trySimulate : GoodIn wsL_refuses wsL_trySimulate := goodIn_ca (goodIn_r _ [420, 9, 1, 421, 422, 423, 13, 424, 263, 17, 425, 426, 103, 104, 105, 15, 16, 264, 154, 155, 23, 156, 25, 30, 157, 158, 159, 160, 161, 162, 163, 164, 165, 166, 167, 168, 169, 170, 171, 172, 173, 394, 395, 396, 397, 398, 399, 400, 401, 402, 235, 236, 237, 112, 113, 114, 115, 31, 68, 69, 70, 71, 50, 51, 52, 53, 54, 55, 40, 41, 42, 43, 44, 45, 46, 47, 48, 49, 56, 57, 58, 59, 32, 33, 34, 35, 316, 239, 240, 241, 111, 265, 266, 267, 268, 26, 27, 28, 29, 269, 270, 271, 272, 273, 274, 275, 276, 277, 278, 279, 280, 281, 282, 283, 284, 285, 286, 287, 288, 289, 290, 291, 292, 293, 294, 295, 296, 297, 298, 299, 300, 195, 196, 197, 198, 76, 77, 78, 79, 466, 467, 468, 469, 470, 471, 472, 473, 474, 475, 476, 477, 478, 479, 480, 481, 482] (by decide +kernel) (by decide +kernel)) (goodIn_sub (fun _ h => List.mem_cons_of_mem _ (List.mem_append_left _ (List.mem_append_left _ (List.mem_append_right _ h)))) (by decide +kernel))
set_option maxRecDepth 20000 in
theorem gL_refuses_L_trySimulate : GoodIn wsL_refuses (va_wsS RL 193 yL_trySimulate wsL_trySimulate) := goodIn_app (goodIn_of _ (by decide +kernel)) ggL_refuses_L_trySimulate
set_option maxRecDepth 20000 in
theorem ggL_refuses_L_trySave : GoodIn wsL_refuses wsL_trySave := goodIn_ca (goodIn_r _ [429, 91, 2, 430, 431, 432, 13, 433, 434, 17, 435, 19, 436, 437, 438, 100, 101, 264, 154, 155, 23, 156, 25, 30, 157, 158, 159, 160, 161, 162, 163, 164, 165, 166, 167, 168, 169, 170, 171, 172, 173, 466, 467, 468, 469, 470, 471, 472, 473, 474, 475, 476, 477, 478, 479, 480, 481, 482] (by decide +kernel) (by decide +kernel)) (goodIn_sub (fun _ h => List.mem_cons_of_mem _ (List.mem_append_left _ (List.mem_append_right _ h))) (by decide +kernel))
set_option maxRecDepth 20000 in
theorem gL_refuses_L_trySave : GoodIn wsL_refuses (va_wsS RL 197 yL_trySave wsL_trySave) := goodIn_app (goodIn_of _ (by decide +kernel)) ggL_refuses_L_trySave
set_option maxRecDepth 20000 in
theorem ggL_refuses_L_tryRestore : GoodIn wsL_refuses wsL_tryRestore := goodIn_ca (goodIn_ca (goodIn_r _ [441, 91, 134, 2, 3, 442, 443, 444, 13, 445, 139, 140, 435, 17, 434, 141, 19, 436, 437, 438, 100, 101, 264, 154, 155, 23, 156, 25, 30, 157, 158, 159, 160, 161, 162, 163, 164, 165, 166, 167, 168, 169, 170, 171, 172, 173, 446, 447, 448, 148, 449, 150, 466, 467, 468, 469, 470, 471, 472, 473, 474, 475, 476, 477, 478, 479, 480, 481, 482, 483, 484, 485] (by decide +kernel) (by decide +kernel)) (goodIn_sub (fun _ h => List.mem_cons_of_mem _ (List.mem_append_right _ h)) (by decide +kernel))) (goodIn_sub (fun _ h => List.mem_cons_of_mem _ (List.mem_append_left _ (List.mem_append_right _ h))) (by decide +kernel))
set_option maxRecDepth 20000 in
theorem gL_refuses_L_tryRestore : GoodIn wsL_refuses (va_wsS RL 136 yL_tryRestore wsL_tryRestore) := goodIn_app (goodIn_of _ (by decide +kernel)) ggL_refuses_L_tryRestore
set_option maxRecDepth 20000 in
theorem ggL_refuses_L_tryAppend : GoodIn wsL_refuses wsL_tryAppend := goodIn_ca (goodIn_ca (goodIn_r _ [452, 9, 134, 1, 3, 453, 454, 455, 13, 456, 139, 140, 457, 458, 103, 104, 105, 15, 16, 459, 460, 461, 462, 463, 464, 465, 466, 467, 468, 469, 470, 471, 472, 487, 488] (by decide +kernel) (by decide +kernel)) (goodIn_sub (fun _ h => List.mem_cons_of_mem _ (List.mem_append_right _ h)) (by decide +kernel))) (goodIn_sub (fun _ h => List.mem_cons_of_mem _ (List.mem_append_left _ (List.mem_append_left _ (List.mem_append_right _ h)))) (by decide +kernel))
set_option maxRecDepth 20000 in
theorem gL_refuses_L_tryAppend : GoodIn wsL_refuses (va_wsS RL 100 yL_tryAppend wsL_tryAppend) := goodIn_app (goodIn_of _ (by decide +kernel)) ggL_refuses_L_tryAppend
