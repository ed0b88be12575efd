theorem dL_law_0 : decode cL_law 0 = .ok (.new 20, 3) := by decide +kernel
theorem dL_law_3 : decode cL_law 3 = .ok (.dup, 1) := by decide +kernel
theorem dL_law_4 : decode cL_law 4 = .ok (.invokespecial 25, 3) := by decide +kernel
theorem dL_law_7 : decode cL_law 7 = .ok (.astore_n 1, 1) := by decide +kernel
theorem dL_law_8 : decode cL_law 8 = .ok (.iconst 0, 1) := by decide +kernel
theorem dL_law_9 : decode cL_law 9 = .ok (.istore_n 2, 1) := by decide +kernel
theorem dL_law_10 : decode cL_law 10 = .ok (.iload_n 2, 1) := by decide +kernel
theorem dL_law_11 : decode cL_law 11 = .ok (.iconst 5, 1) := by decide +kernel
theorem dL_law_12 : decode cL_law 12 = .ok (.if_icmp .ge 24, 3) := by decide +kernel
theorem dL_law_15 : decode cL_law 15 = .ok (.aload_n 1, 1) := by decide +kernel
theorem dL_law_16 : decode cL_law 16 = .ok (.iload_n 2, 1) := by decide +kernel
theorem dL_law_17 : decode cL_law 17 = .ok (.aload_n 0, 1) := by decide +kernel
theorem dL_law_18 : decode cL_law 18 = .ok (.iload_n 2, 1) := by decide +kernel
theorem dL_law_19 : decode cL_law 19 = .ok (.invokestatic 26, 3) := by decide +kernel
theorem dL_law_22 : decode cL_law 22 = .ok (.invokestatic 30, 3) := by decide +kernel
theorem dL_law_25 : decode cL_law 25 = .ok (.ifCond .ne 5, 3) := by decide +kernel
theorem dL_law_28 : decode cL_law 28 = .ok (.iconst 0, 1) := by decide +kernel
theorem dL_law_29 : decode cL_law 29 = .ok (.ireturn, 1) := by decide +kernel
theorem dL_law_30 : decode cL_law 30 = .ok (.iinc 2 1, 3) := by decide +kernel
theorem dL_law_33 : decode cL_law 33 = .ok (.goto (-23), 3) := by decide +kernel
theorem dL_law_36 : decode cL_law 36 = .ok (.iconst 0, 1) := by decide +kernel
theorem dL_law_37 : decode cL_law 37 = .ok (.istore_n 2, 1) := by decide +kernel
theorem dL_law_38 : decode cL_law 38 = .ok (.iload_n 2, 1) := by decide +kernel
theorem dL_law_39 : decode cL_law 39 = .ok (.bipush 12, 2) := by decide +kernel
theorem dL_law_41 : decode cL_law 41 = .ok (.if_icmp .ge 606, 3) := by decide +kernel
theorem dL_law_44 : decode cL_law 44 = .ok (.aload_n 0, 1) := by decide +kernel
theorem dL_law_45 : decode cL_law 45 = .ok (.iload_n 2, 1) := by decide +kernel
theorem dL_law_46 : decode cL_law 46 = .ok (.invokestatic 9, 3) := by decide +kernel
theorem dL_law_49 : decode cL_law 49 = .ok (.istore_n 3, 1) := by decide +kernel
theorem dL_law_50 : decode cL_law 50 = .ok (.iload_n 3, 1) := by decide +kernel
theorem dL_law_51 : decode cL_law 51 = .ok (.iconst 2, 1) := by decide +kernel
theorem dL_law_52 : decode cL_law 52 = .ok (.ishr, 1) := by decide +kernel
theorem dL_law_53 : decode cL_law 53 = .ok (.iconst 5, 1) := by decide +kernel
theorem dL_law_54 : decode cL_law 54 = .ok (.invokestatic 15, 3) := by decide +kernel
theorem dL_law_57 : decode cL_law 57 = .ok (.istore 4, 2) := by decide +kernel
theorem dL_law_59 : decode cL_law 59 = .ok (.iload_n 3, 1) := by decide +kernel
theorem dL_law_60 : decode cL_law 60 = .ok (.iconst 4, 1) := by decide +kernel
theorem dL_law_61 : decode cL_law 61 = .ok (.ishr, 1) := by decide +kernel
theorem dL_law_62 : decode cL_law 62 = .ok (.iconst 5, 1) := by decide +kernel
theorem dL_law_63 : decode cL_law 63 = .ok (.invokestatic 15, 3) := by decide +kernel
theorem dL_law_66 : decode cL_law 66 = .ok (.istore 5, 2) := by decide +kernel
theorem dL_law_68 : decode cL_law 68 = .ok (.aload_n 1, 1) := by decide +kernel
theorem dL_law_69 : decode cL_law 69 = .ok (.invokevirtual 33, 3) := by decide +kernel
theorem dL_law_72 : decode cL_law 72 = .ok (.lstore 6, 2) := by decide +kernel
theorem dL_law_74 : decode cL_law 74 = .ok (.aload_n 1, 1) := by decide +kernel
theorem dL_law_75 : decode cL_law 75 = .ok (.iload_n 3, 1) := by decide +kernel
theorem dL_law_76 : decode cL_law 76 = .ok (.iconst 3, 1) := by decide +kernel
theorem dL_law_77 : decode cL_law 77 = .ok (.invokestatic 15, 3) := by decide +kernel
theorem dL_law_80 : decode cL_law 80 = .ok (.iconst 1, 1) := by decide +kernel
theorem dL_law_81 : decode cL_law 81 = .ok (.iload_n 3, 1) := by decide +kernel
theorem dL_law_82 : decode cL_law 82 = .ok (.iconst 2, 1) := by decide +kernel
theorem dL_law_83 : decode cL_law 83 = .ok (.ishr, 1) := by decide +kernel
theorem dL_law_84 : decode cL_law 84 = .ok (.iconst 3, 1) := by decide +kernel
theorem dL_law_85 : decode cL_law 85 = .ok (.invokestatic 15, 3) := by decide +kernel
theorem dL_law_88 : decode cL_law 88 = .ok (.iadd, 1) := by decide +kernel
theorem dL_law_89 : decode cL_law 89 = .ok (.invokevirtual 37, 3) := by decide +kernel
theorem dL_law_92 : decode cL_law 92 = .ok (.istore 8, 2) := by decide +kernel
theorem dL_law_94 : decode cL_law 94 = .ok (.aload_n 1, 1) := by decide +kernel
theorem dL_law_95 : decode cL_law 95 = .ok (.invokevirtual 40, 3) := by decide +kernel
theorem dL_law_98 : decode cL_law 98 = .ok (.istore 9, 2) := by decide +kernel
theorem dL_law_100 : decode cL_law 100 = .ok (.aload_n 1, 1) := by decide +kernel
theorem dL_law_101 : decode cL_law 101 = .ok (.iload 4, 2) := by decide +kernel
theorem dL_law_103 : decode cL_law 103 = .ok (.iload 5, 2) := by decide +kernel
theorem dL_law_105 : decode cL_law 105 = .ok (.invokevirtual 44, 3) := by decide +kernel
theorem dL_law_108 : decode cL_law 108 = .ok (.istore 10, 2) := by decide +kernel
theorem dL_law_110 : decode cL_law 110 = .ok (.aload_n 1, 1) := by decide +kernel
theorem dL_law_111 : decode cL_law 111 = .ok (.iload 4, 2) := by decide +kernel
theorem dL_law_113 : decode cL_law 113 = .ok (.iload 5, 2) := by decide +kernel
theorem dL_law_115 : decode cL_law 115 = .ok (.invokevirtual 48, 3) := by decide +kernel
theorem dL_law_118 : decode cL_law 118 = .ok (.istore 11, 2) := by decide +kernel
theorem dL_law_120 : decode cL_law 120 = .ok (.aload_n 1, 1) := by decide +kernel
theorem dL_law_121 : decode cL_law 121 = .ok (.invokevirtual 33, 3) := by decide +kernel
theorem dL_law_124 : decode cL_law 124 = .ok (.lload 6, 2) := by decide +kernel
theorem dL_law_126 : decode cL_law 126 = .ok (.lcmp, 1) := by decide +kernel
theorem dL_law_127 : decode cL_law 127 = .ok (.ifCond .ne 60, 3) := by decide +kernel
theorem dL_law_130 : decode cL_law 130 = .ok (.iload 10, 2) := by decide +kernel
theorem dL_law_132 : decode cL_law 132 = .ok (.ifCond .eq 42, 3) := by decide +kernel
theorem dL_law_135 : decode cL_law 135 = .ok (.aload_n 1, 1) := by decide +kernel
theorem dL_law_136 : decode cL_law 136 = .ok (.iload 4, 2) := by decide +kernel
theorem dL_law_138 : decode cL_law 138 = .ok (.iconst 1, 1) := by decide +kernel
theorem dL_law_139 : decode cL_law 139 = .ok (.invokevirtual 51, 3) := by decide +kernel
theorem dL_law_142 : decode cL_law 142 = .ok (.aload_n 1, 1) := by decide +kernel
theorem dL_law_143 : decode cL_law 143 = .ok (.iload 5, 2) := by decide +kernel
theorem dL_law_145 : decode cL_law 145 = .ok (.iconst 1, 1) := by decide +kernel
theorem dL_law_146 : decode cL_law 146 = .ok (.invokevirtual 51, 3) := by decide +kernel
theorem dL_law_149 : decode cL_law 149 = .ok (.if_icmp .ne 38, 3) := by decide +kernel
theorem dL_law_152 : decode cL_law 152 = .ok (.iload 11, 2) := by decide +kernel
theorem dL_law_154 : decode cL_law 154 = .ok (.ifCond .ne 33, 3) := by decide +kernel
theorem dL_law_157 : decode cL_law 157 = .ok (.aload_n 1, 1) := by decide +kernel
theorem dL_law_158 : decode cL_law 158 = .ok (.iload 4, 2) := by decide +kernel
theorem dL_law_160 : decode cL_law 160 = .ok (.iconst 2, 1) := by decide +kernel
theorem dL_law_161 : decode cL_law 161 = .ok (.invokevirtual 54, 3) := by decide +kernel
theorem dL_law_164 : decode cL_law 164 = .ok (.aload_n 1, 1) := by decide +kernel
theorem dL_law_165 : decode cL_law 165 = .ok (.iload 5, 2) := by decide +kernel
theorem dL_law_167 : decode cL_law 167 = .ok (.iconst 2, 1) := by decide +kernel
theorem dL_law_168 : decode cL_law 168 = .ok (.invokevirtual 54, 3) := by decide +kernel
theorem dL_law_171 : decode cL_law 171 = .ok (.if_icmp .ne 16, 3) := by decide +kernel
theorem dL_law_174 : decode cL_law 174 = .ok (.aload_n 1, 1) := by decide +kernel
theorem dL_law_175 : decode cL_law 175 = .ok (.iload 5, 2) := by decide +kernel
theorem dL_law_177 : decode cL_law 177 = .ok (.iload 4, 2) := by decide +kernel
theorem dL_law_179 : decode cL_law 179 = .ok (.invokevirtual 48, 3) := by decide +kernel
theorem dL_law_182 : decode cL_law 182 = .ok (.iload 11, 2) := by decide +kernel
theorem dL_law_184 : decode cL_law 184 = .ok (.if_icmp .eq 5, 3) := by decide +kernel
theorem dL_law_187 : decode cL_law 187 = .ok (.iconst 0, 1) := by decide +kernel
theorem dL_law_188 : decode cL_law 188 = .ok (.ireturn, 1) := by decide +kernel
theorem dL_law_189 : decode cL_law 189 = .ok (.iload_n 3, 1) := by decide +kernel
theorem dL_law_190 : decode cL_law 190 = .ok (.bipush 7, 2) := by decide +kernel
theorem dL_law_192 : decode cL_law 192 = .ok (.ishr, 1) := by decide +kernel
theorem dL_law_193 : decode cL_law 193 = .ok (.iconst 4, 1) := by decide +kernel
theorem dL_law_194 : decode cL_law 194 = .ok (.invokestatic 15, 3) := by decide +kernel
theorem dL_law_197 : decode cL_law 197 = .ok (.tableswitch 253 0 2 #[27, 66, 87], 27) := by decide +kernel
theorem dL_law_224 : decode cL_law 224 = .ok (.aload_n 1, 1) := by decide +kernel
theorem dL_law_225 : decode cL_law 225 = .ok (.iload 4, 2) := by decide +kernel
theorem dL_law_227 : decode cL_law 227 = .ok (.iconst 0, 1) := by decide +kernel
theorem dL_law_228 : decode cL_law 228 = .ok (.invokevirtual 51, 3) := by decide +kernel
theorem dL_law_231 : decode cL_law 231 = .ok (.ifCond .ne 6, 3) := by decide +kernel
theorem dL_law_234 : decode cL_law 234 = .ok (.goto 250, 3) := by decide +kernel
theorem dL_law_237 : decode cL_law 237 = .ok (.aload_n 1, 1) := by decide +kernel
theorem dL_law_238 : decode cL_law 238 = .ok (.iload 4, 2) := by decide +kernel
theorem dL_law_240 : decode cL_law 240 = .ok (.iconst 1, 1) := by decide +kernel
theorem dL_law_241 : decode cL_law 241 = .ok (.iload_n 3, 1) := by decide +kernel
theorem dL_law_242 : decode cL_law 242 = .ok (.iconst 3, 1) := by decide +kernel
theorem dL_law_243 : decode cL_law 243 = .ok (.ishr, 1) := by decide +kernel
theorem dL_law_244 : decode cL_law 244 = .ok (.bipush 9, 2) := by decide +kernel
theorem dL_law_246 : decode cL_law 246 = .ok (.invokestatic 15, 3) := by decide +kernel
theorem dL_law_249 : decode cL_law 249 = .ok (.iadd, 1) := by decide +kernel
theorem dL_law_250 : decode cL_law 250 = .ok (.invokevirtual 57, 3) := by decide +kernel
theorem dL_law_253 : decode cL_law 253 = .ok (.aload_n 1, 1) := by decide +kernel
theorem dL_law_254 : decode cL_law 254 = .ok (.iconst 1, 1) := by decide +kernel
theorem dL_law_255 : decode cL_law 255 = .ok (.invokevirtual 60, 3) := by decide +kernel
theorem dL_law_258 : decode cL_law 258 = .ok (.if_icmp .eq 226, 3) := by decide +kernel
theorem dL_law_261 : decode cL_law 261 = .ok (.iconst 0, 1) := by decide +kernel
theorem dL_law_262 : decode cL_law 262 = .ok (.ireturn, 1) := by decide +kernel
theorem dL_law_263 : decode cL_law 263 = .ok (.aload_n 1, 1) := by decide +kernel
theorem dL_law_264 : decode cL_law 264 = .ok (.iload 9, 2) := by decide +kernel
theorem dL_law_266 : decode cL_law 266 = .ok (.iconst 3, 1) := by decide +kernel
theorem dL_law_267 : decode cL_law 267 = .ok (.idiv, 1) := by decide +kernel
theorem dL_law_268 : decode cL_law 268 = .ok (.iload 9, 2) := by decide +kernel
theorem dL_law_270 : decode cL_law 270 = .ok (.iconst 3, 1) := by decide +kernel
theorem dL_law_271 : decode cL_law 271 = .ok (.irem, 1) := by decide +kernel
theorem dL_law_272 : decode cL_law 272 = .ok (.iconst 1, 1) := by decide +kernel
theorem dL_law_273 : decode cL_law 273 = .ok (.iadd, 1) := by decide +kernel
theorem dL_law_274 : decode cL_law 274 = .ok (.invokevirtual 64, 3) := by decide +kernel
theorem dL_law_277 : decode cL_law 277 = .ok (.iload 8, 2) := by decide +kernel
theorem dL_law_279 : decode cL_law 279 = .ok (.if_icmp .ge 205, 3) := by decide +kernel
theorem dL_law_282 : decode cL_law 282 = .ok (.iconst 0, 1) := by decide +kernel
theorem dL_law_283 : decode cL_law 283 = .ok (.ireturn, 1) := by decide +kernel
theorem dL_law_284 : decode cL_law 284 = .ok (.aload_n 1, 1) := by decide +kernel
theorem dL_law_285 : decode cL_law 285 = .ok (.invokevirtual 67, 3) := by decide +kernel
theorem dL_law_288 : decode cL_law 288 = .ok (.pop, 1) := by decide +kernel
theorem dL_law_289 : decode cL_law 289 = .ok (.iload_n 3, 1) := by decide +kernel
theorem dL_law_290 : decode cL_law 290 = .ok (.iconst 3, 1) := by decide +kernel
theorem dL_law_291 : decode cL_law 291 = .ok (.ishr, 1) := by decide +kernel
theorem dL_law_292 : decode cL_law 292 = .ok (.iconst 4, 1) := by decide +kernel
theorem dL_law_293 : decode cL_law 293 = .ok (.invokestatic 15, 3) := by decide +kernel
theorem dL_law_296 : decode cL_law 296 = .ok (.istore 12, 2) := by decide +kernel
theorem dL_law_298 : decode cL_law 298 = .ok (.iconst 0, 1) := by decide +kernel
theorem dL_law_299 : decode cL_law 299 = .ok (.istore 13, 2) := by decide +kernel
theorem dL_law_301 : decode cL_law 301 = .ok (.iload 13, 2) := by decide +kernel
theorem dL_law_303 : decode cL_law 303 = .ok (.iload 12, 2) := by decide +kernel
theorem dL_law_305 : decode cL_law 305 = .ok (.if_icmp .ge 36, 3) := by decide +kernel
theorem dL_law_308 : decode cL_law 308 = .ok (.aload_n 1, 1) := by decide +kernel
theorem dL_law_309 : decode cL_law 309 = .ok (.iload_n 3, 1) := by decide +kernel
theorem dL_law_310 : decode cL_law 310 = .ok (.iconst 2, 1) := by decide +kernel
theorem dL_law_311 : decode cL_law 311 = .ok (.iload 13, 2) := by decide +kernel
theorem dL_law_313 : decode cL_law 313 = .ok (.imul, 1) := by decide +kernel
theorem dL_law_314 : decode cL_law 314 = .ok (.ishr, 1) := by decide +kernel
theorem dL_law_315 : decode cL_law 315 = .ok (.iconst 3, 1) := by decide +kernel
theorem dL_law_316 : decode cL_law 316 = .ok (.invokestatic 15, 3) := by decide +kernel
theorem dL_law_319 : decode cL_law 319 = .ok (.iconst 1, 1) := by decide +kernel
theorem dL_law_320 : decode cL_law 320 = .ok (.iload_n 3, 1) := by decide +kernel
theorem dL_law_321 : decode cL_law 321 = .ok (.iconst 3, 1) := by decide +kernel
theorem dL_law_322 : decode cL_law 322 = .ok (.iload 13, 2) := by decide +kernel
theorem dL_law_324 : decode cL_law 324 = .ok (.imul, 1) := by decide +kernel
theorem dL_law_325 : decode cL_law 325 = .ok (.ishr, 1) := by decide +kernel
theorem dL_law_326 : decode cL_law 326 = .ok (.iconst 3, 1) := by decide +kernel
theorem dL_law_327 : decode cL_law 327 = .ok (.invokestatic 15, 3) := by decide +kernel
theorem dL_law_330 : decode cL_law 330 = .ok (.iadd, 1) := by decide +kernel
theorem dL_law_331 : decode cL_law 331 = .ok (.invokevirtual 64, 3) := by decide +kernel
theorem dL_law_334 : decode cL_law 334 = .ok (.pop, 1) := by decide +kernel
theorem dL_law_335 : decode cL_law 335 = .ok (.iinc 13 1, 3) := by decide +kernel
theorem dL_law_338 : decode cL_law 338 = .ok (.goto (-37), 3) := by decide +kernel
theorem dL_law_341 : decode cL_law 341 = .ok (.aload_n 1, 1) := by decide +kernel
theorem dL_law_342 : decode cL_law 342 = .ok (.iconst 3, 1) := by decide +kernel
theorem dL_law_343 : decode cL_law 343 = .ok (.invokevirtual 70, 3) := by decide +kernel
theorem dL_law_346 : decode cL_law 346 = .ok (.istore 13, 2) := by decide +kernel
theorem dL_law_348 : decode cL_law 348 = .ok (.iload 13, 2) := by decide +kernel
theorem dL_law_350 : decode cL_law 350 = .ok (.ifCond .lt 10, 3) := by decide +kernel
theorem dL_law_353 : decode cL_law 353 = .ok (.iload 13, 2) := by decide +kernel
theorem dL_law_355 : decode cL_law 355 = .ok (.iload 12, 2) := by decide +kernel
theorem dL_law_357 : decode cL_law 357 = .ok (.if_icmp .le 5, 3) := by decide +kernel
theorem dL_law_360 : decode cL_law 360 = .ok (.iconst 0, 1) := by decide +kernel
theorem dL_law_361 : decode cL_law 361 = .ok (.ireturn, 1) := by decide +kernel
theorem dL_law_362 : decode cL_law 362 = .ok (.iload 13, 2) := by decide +kernel
theorem dL_law_364 : decode cL_law 364 = .ok (.istore 14, 2) := by decide +kernel
theorem dL_law_366 : decode cL_law 366 = .ok (.iload 14, 2) := by decide +kernel
theorem dL_law_368 : decode cL_law 368 = .ok (.ifCond .le 61, 3) := by decide +kernel
theorem dL_law_371 : decode cL_law 371 = .ok (.aload_n 1, 1) := by decide +kernel
theorem dL_law_372 : decode cL_law 372 = .ok (.iload 14, 2) := by decide +kernel
theorem dL_law_374 : decode cL_law 374 = .ok (.invokevirtual 73, 3) := by decide +kernel
theorem dL_law_377 : decode cL_law 377 = .ok (.istore 15, 2) := by decide +kernel
theorem dL_law_379 : decode cL_law 379 = .ok (.aload_n 1, 1) := by decide +kernel
theorem dL_law_380 : decode cL_law 380 = .ok (.iconst 3, 1) := by decide +kernel
theorem dL_law_381 : decode cL_law 381 = .ok (.invokevirtual 70, 3) := by decide +kernel
theorem dL_law_384 : decode cL_law 384 = .ok (.iload 14, 2) := by decide +kernel
theorem dL_law_386 : decode cL_law 386 = .ok (.if_icmp .ne 20, 3) := by decide +kernel
theorem dL_law_389 : decode cL_law 389 = .ok (.iload 15, 2) := by decide +kernel
theorem dL_law_391 : decode cL_law 391 = .ok (.ifCond .lt 15, 3) := by decide +kernel
theorem dL_law_394 : decode cL_law 394 = .ok (.aload_n 1, 1) := by decide +kernel
theorem dL_law_395 : decode cL_law 395 = .ok (.iload 14, 2) := by decide +kernel
theorem dL_law_397 : decode cL_law 397 = .ok (.iconst 1, 1) := by decide +kernel
theorem dL_law_398 : decode cL_law 398 = .ok (.isub, 1) := by decide +kernel
theorem dL_law_399 : decode cL_law 399 = .ok (.invokevirtual 73, 3) := by decide +kernel
theorem dL_law_402 : decode cL_law 402 = .ok (.iconst (-1), 1) := by decide +kernel
theorem dL_law_403 : decode cL_law 403 = .ok (.if_icmp .eq 5, 3) := by decide +kernel
theorem dL_law_406 : decode cL_law 406 = .ok (.iconst 0, 1) := by decide +kernel
theorem dL_law_407 : decode cL_law 407 = .ok (.ireturn, 1) := by decide +kernel
theorem dL_law_408 : decode cL_law 408 = .ok (.aload_n 1, 1) := by decide +kernel
theorem dL_law_409 : decode cL_law 409 = .ok (.iload 15, 2) := by decide +kernel
theorem dL_law_411 : decode cL_law 411 = .ok (.iconst 3, 1) := by decide +kernel
theorem dL_law_412 : decode cL_law 412 = .ok (.idiv, 1) := by decide +kernel
theorem dL_law_413 : decode cL_law 413 = .ok (.iload 15, 2) := by decide +kernel
theorem dL_law_415 : decode cL_law 415 = .ok (.iconst 3, 1) := by decide +kernel
theorem dL_law_416 : decode cL_law 416 = .ok (.irem, 1) := by decide +kernel
theorem dL_law_417 : decode cL_law 417 = .ok (.iconst 1, 1) := by decide +kernel
theorem dL_law_418 : decode cL_law 418 = .ok (.iadd, 1) := by decide +kernel
theorem dL_law_419 : decode cL_law 419 = .ok (.invokevirtual 64, 3) := by decide +kernel
theorem dL_law_422 : decode cL_law 422 = .ok (.pop, 1) := by decide +kernel
theorem dL_law_423 : decode cL_law 423 = .ok (.iinc 14 (-1), 3) := by decide +kernel
theorem dL_law_426 : decode cL_law 426 = .ok (.goto (-60), 3) := by decide +kernel
theorem dL_law_429 : decode cL_law 429 = .ok (.aload_n 1, 1) := by decide +kernel
theorem dL_law_430 : decode cL_law 430 = .ok (.iconst 1, 1) := by decide +kernel
theorem dL_law_431 : decode cL_law 431 = .ok (.invokevirtual 60, 3) := by decide +kernel
theorem dL_law_434 : decode cL_law 434 = .ok (.bipush 8, 2) := by decide +kernel
theorem dL_law_436 : decode cL_law 436 = .ok (.if_icmp .ne 12, 3) := by decide +kernel
theorem dL_law_439 : decode cL_law 439 = .ok (.aload_n 1, 1) := by decide +kernel
theorem dL_law_440 : decode cL_law 440 = .ok (.iconst 5, 1) := by decide +kernel
theorem dL_law_441 : decode cL_law 441 = .ok (.invokevirtual 60, 3) := by decide +kernel
theorem dL_law_444 : decode cL_law 444 = .ok (.iconst 1, 1) := by decide +kernel
theorem dL_law_445 : decode cL_law 445 = .ok (.if_icmp .eq 39, 3) := by decide +kernel
theorem dL_law_448 : decode cL_law 448 = .ok (.iconst 0, 1) := by decide +kernel
theorem dL_law_449 : decode cL_law 449 = .ok (.ireturn, 1) := by decide +kernel
theorem dL_law_450 : decode cL_law 450 = .ok (.aload_n 1, 1) := by decide +kernel
theorem dL_law_451 : decode cL_law 451 = .ok (.iload 4, 2) := by decide +kernel
theorem dL_law_453 : decode cL_law 453 = .ok (.invokevirtual 76, 3) := by decide +kernel
theorem dL_law_456 : decode cL_law 456 = .ok (.aload_n 1, 1) := by decide +kernel
theorem dL_law_457 : decode cL_law 457 = .ok (.iload 4, 2) := by decide +kernel
theorem dL_law_459 : decode cL_law 459 = .ok (.iconst 0, 1) := by decide +kernel
theorem dL_law_460 : decode cL_law 460 = .ok (.invokevirtual 51, 3) := by decide +kernel
theorem dL_law_463 : decode cL_law 463 = .ok (.if_icmp .ne 19, 3) := by decide +kernel
theorem dL_law_466 : decode cL_law 466 = .ok (.aload_n 1, 1) := by decide +kernel
theorem dL_law_467 : decode cL_law 467 = .ok (.iload 5, 2) := by decide +kernel
theorem dL_law_469 : decode cL_law 469 = .ok (.invokevirtual 79, 3) := by decide +kernel
theorem dL_law_472 : decode cL_law 472 = .ok (.aload_n 1, 1) := by decide +kernel
theorem dL_law_473 : decode cL_law 473 = .ok (.iload 5, 2) := by decide +kernel
theorem dL_law_475 : decode cL_law 475 = .ok (.iconst 0, 1) := by decide +kernel
theorem dL_law_476 : decode cL_law 476 = .ok (.invokevirtual 51, 3) := by decide +kernel
theorem dL_law_479 : decode cL_law 479 = .ok (.if_icmp .eq 5, 3) := by decide +kernel
theorem dL_law_482 : decode cL_law 482 = .ok (.iconst 0, 1) := by decide +kernel
theorem dL_law_483 : decode cL_law 483 = .ok (.ireturn, 1) := by decide +kernel
theorem dL_law_484 : decode cL_law 484 = .ok (.iconst 0, 1) := by decide +kernel
theorem dL_law_485 : decode cL_law 485 = .ok (.istore 12, 2) := by decide +kernel
theorem dL_law_487 : decode cL_law 487 = .ok (.iconst 0, 1) := by decide +kernel
theorem dL_law_488 : decode cL_law 488 = .ok (.istore 13, 2) := by decide +kernel
theorem dL_law_490 : decode cL_law 490 = .ok (.iconst 0, 1) := by decide +kernel
theorem dL_law_491 : decode cL_law 491 = .ok (.istore 14, 2) := by decide +kernel
theorem dL_law_493 : decode cL_law 493 = .ok (.iconst 0, 1) := by decide +kernel
theorem dL_law_494 : decode cL_law 494 = .ok (.istore 15, 2) := by decide +kernel
theorem dL_law_496 : decode cL_law 496 = .ok (.iload 15, 2) := by decide +kernel
theorem dL_law_498 : decode cL_law 498 = .ok (.bipush 8, 2) := by decide +kernel
theorem dL_law_500 : decode cL_law 500 = .ok (.if_icmp .ge 65, 3) := by decide +kernel
theorem dL_law_503 : decode cL_law 503 = .ok (.iload 12, 2) := by decide +kernel
theorem dL_law_505 : decode cL_law 505 = .ok (.iconst 1, 1) := by decide +kernel
theorem dL_law_506 : decode cL_law 506 = .ok (.aload_n 1, 1) := by decide +kernel
theorem dL_law_507 : decode cL_law 507 = .ok (.iload 15, 2) := by decide +kernel
theorem dL_law_509 : decode cL_law 509 = .ok (.iconst 0, 1) := by decide +kernel
theorem dL_law_510 : decode cL_law 510 = .ok (.invokevirtual 82, 3) := by decide +kernel
theorem dL_law_513 : decode cL_law 513 = .ok (.ishl, 1) := by decide +kernel
theorem dL_law_514 : decode cL_law 514 = .ok (.ior, 1) := by decide +kernel
theorem dL_law_515 : decode cL_law 515 = .ok (.istore 12, 2) := by decide +kernel
theorem dL_law_517 : decode cL_law 517 = .ok (.iload 13, 2) := by decide +kernel
theorem dL_law_519 : decode cL_law 519 = .ok (.aload_n 1, 1) := by decide +kernel
theorem dL_law_520 : decode cL_law 520 = .ok (.iload 15, 2) := by decide +kernel
theorem dL_law_522 : decode cL_law 522 = .ok (.iconst 1, 1) := by decide +kernel
theorem dL_law_523 : decode cL_law 523 = .ok (.invokevirtual 82, 3) := by decide +kernel
theorem dL_law_526 : decode cL_law 526 = .ok (.iadd, 1) := by decide +kernel
theorem dL_law_527 : decode cL_law 527 = .ok (.istore 13, 2) := by decide +kernel
theorem dL_law_529 : decode cL_law 529 = .ok (.iload 14, 2) := by decide +kernel
theorem dL_law_531 : decode cL_law 531 = .ok (.aload_n 1, 1) := by decide +kernel
theorem dL_law_532 : decode cL_law 532 = .ok (.iload 15, 2) := by decide +kernel
theorem dL_law_534 : decode cL_law 534 = .ok (.iconst 2, 1) := by decide +kernel
theorem dL_law_535 : decode cL_law 535 = .ok (.invokevirtual 82, 3) := by decide +kernel
theorem dL_law_538 : decode cL_law 538 = .ok (.iadd, 1) := by decide +kernel
theorem dL_law_539 : decode cL_law 539 = .ok (.istore 14, 2) := by decide +kernel
theorem dL_law_541 : decode cL_law 541 = .ok (.aload_n 1, 1) := by decide +kernel
theorem dL_law_542 : decode cL_law 542 = .ok (.aload_n 1, 1) := by decide +kernel
theorem dL_law_543 : decode cL_law 543 = .ok (.iload 15, 2) := by decide +kernel
theorem dL_law_545 : decode cL_law 545 = .ok (.iconst 0, 1) := by decide +kernel
theorem dL_law_546 : decode cL_law 546 = .ok (.invokevirtual 82, 3) := by decide +kernel
theorem dL_law_549 : decode cL_law 549 = .ok (.invokevirtual 85, 3) := by decide +kernel
theorem dL_law_552 : decode cL_law 552 = .ok (.iload 15, 2) := by decide +kernel
theorem dL_law_554 : decode cL_law 554 = .ok (.if_icmp .eq 5, 3) := by decide +kernel
theorem dL_law_557 : decode cL_law 557 = .ok (.iconst 0, 1) := by decide +kernel
theorem dL_law_558 : decode cL_law 558 = .ok (.ireturn, 1) := by decide +kernel
theorem dL_law_559 : decode cL_law 559 = .ok (.iinc 15 1, 3) := by decide +kernel
theorem dL_law_562 : decode cL_law 562 = .ok (.goto (-66), 3) := by decide +kernel
theorem dL_law_565 : decode cL_law 565 = .ok (.iload 12, 2) := by decide +kernel
theorem dL_law_567 : decode cL_law 567 = .ok (.sipush 255, 3) := by decide +kernel
theorem dL_law_570 : decode cL_law 570 = .ok (.if_icmp .ne 69, 3) := by decide +kernel
theorem dL_law_573 : decode cL_law 573 = .ok (.iload 13, 2) := by decide +kernel
theorem dL_law_575 : decode cL_law 575 = .ok (.iconst 3, 1) := by decide +kernel
theorem dL_law_576 : decode cL_law 576 = .ok (.irem, 1) := by decide +kernel
theorem dL_law_577 : decode cL_law 577 = .ok (.ifCond .ne 62, 3) := by decide +kernel
theorem dL_law_580 : decode cL_law 580 = .ok (.iload 14, 2) := by decide +kernel
theorem dL_law_582 : decode cL_law 582 = .ok (.aload_n 1, 1) := by decide +kernel
theorem dL_law_583 : decode cL_law 583 = .ok (.iconst 1, 1) := by decide +kernel
theorem dL_law_584 : decode cL_law 584 = .ok (.invokevirtual 60, 3) := by decide +kernel
theorem dL_law_587 : decode cL_law 587 = .ok (.if_icmp .ne 52, 3) := by decide +kernel
theorem dL_law_590 : decode cL_law 590 = .ok (.aload_n 1, 1) := by decide +kernel
theorem dL_law_591 : decode cL_law 591 = .ok (.iconst 2, 1) := by decide +kernel
theorem dL_law_592 : decode cL_law 592 = .ok (.invokevirtual 60, 3) := by decide +kernel
theorem dL_law_595 : decode cL_law 595 = .ok (.iload 14, 2) := by decide +kernel
theorem dL_law_597 : decode cL_law 597 = .ok (.if_icmp .lt 42, 3) := by decide +kernel
theorem dL_law_600 : decode cL_law 600 = .ok (.aload_n 1, 1) := by decide +kernel
theorem dL_law_601 : decode cL_law 601 = .ok (.iconst 3, 1) := by decide +kernel
theorem dL_law_602 : decode cL_law 602 = .ok (.invokevirtual 60, 3) := by decide +kernel
theorem dL_law_605 : decode cL_law 605 = .ok (.iload 14, 2) := by decide +kernel
theorem dL_law_607 : decode cL_law 607 = .ok (.if_icmp .lt 32, 3) := by decide +kernel
theorem dL_law_610 : decode cL_law 610 = .ok (.aload_n 1, 1) := by decide +kernel
theorem dL_law_611 : decode cL_law 611 = .ok (.iconst 5, 1) := by decide +kernel
theorem dL_law_612 : decode cL_law 612 = .ok (.invokevirtual 60, 3) := by decide +kernel
theorem dL_law_615 : decode cL_law 615 = .ok (.iconst 1, 1) := by decide +kernel
theorem dL_law_616 : decode cL_law 616 = .ok (.if_icmp .ne 7, 3) := by decide +kernel
theorem dL_law_619 : decode cL_law 619 = .ok (.iconst 1, 1) := by decide +kernel
theorem dL_law_620 : decode cL_law 620 = .ok (.goto 4, 3) := by decide +kernel
theorem dL_law_623 : decode cL_law 623 = .ok (.iconst 0, 1) := by decide +kernel
theorem dL_law_624 : decode cL_law 624 = .ok (.iload 14, 2) := by decide +kernel
theorem dL_law_626 : decode cL_law 626 = .ok (.bipush 8, 2) := by decide +kernel
theorem dL_law_628 : decode cL_law 628 = .ok (.if_icmp .ne 7, 3) := by decide +kernel
theorem dL_law_631 : decode cL_law 631 = .ok (.iconst 1, 1) := by decide +kernel
theorem dL_law_632 : decode cL_law 632 = .ok (.goto 4, 3) := by decide +kernel
theorem dL_law_635 : decode cL_law 635 = .ok (.iconst 0, 1) := by decide +kernel
theorem dL_law_636 : decode cL_law 636 = .ok (.if_icmp .eq 5, 3) := by decide +kernel
theorem dL_law_639 : decode cL_law 639 = .ok (.iconst 0, 1) := by decide +kernel
theorem dL_law_640 : decode cL_law 640 = .ok (.ireturn, 1) := by decide +kernel
theorem dL_law_641 : decode cL_law 641 = .ok (.iinc 2 1, 3) := by decide +kernel
theorem dL_law_644 : decode cL_law 644 = .ok (.goto (-606), 3) := by decide +kernel
theorem dL_law_647 : decode cL_law 647 = .ok (.iconst 1, 1) := by decide +kernel
theorem dL_law_648 : decode cL_law 648 = .ok (.ireturn, 1) := by decide +kernel
