theorem dL_law_0 : decode cL_law 0 = .ok (.new 9, 3) := by decide +kernel
theorem dL_law_3 : decode cL_law 3 = .ok (.dup, 1) := by decide +kernel
theorem dL_law_4 : decode cL_law 4 = .ok (.invokespecial 74, 3) := by decide +kernel
theorem dL_law_7 : decode cL_law 7 = .ok (.astore_n 1, 1) := by decide +kernel
theorem dL_law_8 : decode cL_law 8 = .ok (.new 9, 3) := by decide +kernel
theorem dL_law_11 : decode cL_law 11 = .ok (.dup, 1) := by decide +kernel
theorem dL_law_12 : decode cL_law 12 = .ok (.invokespecial 74, 3) := by decide +kernel
theorem dL_law_15 : decode cL_law 15 = .ok (.astore_n 2, 1) := by decide +kernel
theorem dL_law_16 : decode cL_law 16 = .ok (.iconst 1, 1) := by decide +kernel
theorem dL_law_17 : decode cL_law 17 = .ok (.istore_n 3, 1) := by decide +kernel
theorem dL_law_18 : decode cL_law 18 = .ok (.iconst 0, 1) := by decide +kernel
theorem dL_law_19 : decode cL_law 19 = .ok (.istore 4, 2) := by decide +kernel
theorem dL_law_21 : decode cL_law 21 = .ok (.iload 4, 2) := by decide +kernel
theorem dL_law_23 : decode cL_law 23 = .ok (.bipush 20, 2) := by decide +kernel
theorem dL_law_25 : decode cL_law 25 = .ok (.if_icmp .ge 642, 3) := by decide +kernel
theorem dL_law_28 : decode cL_law 28 = .ok (.iload_n 3, 1) := by decide +kernel
theorem dL_law_29 : decode cL_law 29 = .ok (.ifCond .eq 638, 3) := by decide +kernel
theorem dL_law_32 : decode cL_law 32 = .ok (.iload 4, 2) := by decide +kernel
theorem dL_law_34 : decode cL_law 34 = .ok (.iconst 4, 1) := by decide +kernel
theorem dL_law_35 : decode cL_law 35 = .ok (.irem, 1) := by decide +kernel
theorem dL_law_36 : decode cL_law 36 = .ok (.istore 5, 2) := by decide +kernel
theorem dL_law_38 : decode cL_law 38 = .ok (.aload_n 1, 1) := by decide +kernel
theorem dL_law_39 : decode cL_law 39 = .ok (.bipush 9, 2) := by decide +kernel
theorem dL_law_41 : decode cL_law 41 = .ok (.iload 5, 2) := by decide +kernel
theorem dL_law_43 : decode cL_law 43 = .ok (.iconst 0, 1) := by decide +kernel
theorem dL_law_44 : decode cL_law 44 = .ok (.invokestatic 75, 3) := by decide +kernel
theorem dL_law_47 : decode cL_law 47 = .ok (.istore 6, 2) := by decide +kernel
theorem dL_law_49 : decode cL_law 49 = .ok (.iconst 0, 1) := by decide +kernel
theorem dL_law_50 : decode cL_law 50 = .ok (.istore 7, 2) := by decide +kernel
theorem dL_law_52 : decode cL_law 52 = .ok (.iconst 0, 1) := by decide +kernel
theorem dL_law_53 : decode cL_law 53 = .ok (.istore 8, 2) := by decide +kernel
theorem dL_law_55 : decode cL_law 55 = .ok (.iconst 0, 1) := by decide +kernel
theorem dL_law_56 : decode cL_law 56 = .ok (.istore 9, 2) := by decide +kernel
theorem dL_law_58 : decode cL_law 58 = .ok (.aload_n 0, 1) := by decide +kernel
theorem dL_law_59 : decode cL_law 59 = .ok (.iload 4, 2) := by decide +kernel
theorem dL_law_61 : decode cL_law 61 = .ok (.invokestatic 81, 3) := by decide +kernel
theorem dL_law_64 : decode cL_law 64 = .ok (.istore 10, 2) := by decide +kernel
theorem dL_law_66 : decode cL_law 66 = .ok (.iload 7, 2) := by decide +kernel
theorem dL_law_68 : decode cL_law 68 = .ok (.iconst 2, 1) := by decide +kernel
theorem dL_law_69 : decode cL_law 69 = .ok (.if_icmp .ne 14, 3) := by decide +kernel
theorem dL_law_72 : decode cL_law 72 = .ok (.iload 8, 2) := by decide +kernel
theorem dL_law_74 : decode cL_law 74 = .ok (.ifCond .gt 9, 3) := by decide +kernel
theorem dL_law_77 : decode cL_law 77 = .ok (.iload 9, 2) := by decide +kernel
theorem dL_law_79 : decode cL_law 79 = .ok (.iconst 4, 1) := by decide +kernel
theorem dL_law_80 : decode cL_law 80 = .ok (.if_icmp .ge 182, 3) := by decide +kernel
theorem dL_law_83 : decode cL_law 83 = .ok (.iload 10, 2) := by decide +kernel
theorem dL_law_85 : decode cL_law 85 = .ok (.bipush 31, 2) := by decide +kernel
theorem dL_law_87 : decode cL_law 87 = .ok (.imul, 1) := by decide +kernel
theorem dL_law_88 : decode cL_law 88 = .ok (.bipush 7, 2) := by decide +kernel
theorem dL_law_90 : decode cL_law 90 = .ok (.iload 4, 2) := by decide +kernel
theorem dL_law_92 : decode cL_law 92 = .ok (.imul, 1) := by decide +kernel
theorem dL_law_93 : decode cL_law 93 = .ok (.iadd, 1) := by decide +kernel
theorem dL_law_94 : decode cL_law 94 = .ok (.iload 9, 2) := by decide +kernel
theorem dL_law_96 : decode cL_law 96 = .ok (.iadd, 1) := by decide +kernel
theorem dL_law_97 : decode cL_law 97 = .ok (.ldc 7, 2) := by decide +kernel
theorem dL_law_99 : decode cL_law 99 = .ok (.iand, 1) := by decide +kernel
theorem dL_law_100 : decode cL_law 100 = .ok (.istore 10, 2) := by decide +kernel
theorem dL_law_102 : decode cL_law 102 = .ok (.iload 9, 2) := by decide +kernel
theorem dL_law_104 : decode cL_law 104 = .ok (.bipush 9, 2) := by decide +kernel
theorem dL_law_106 : decode cL_law 106 = .ok (.if_icmp .le 19, 3) := by decide +kernel
theorem dL_law_109 : decode cL_law 109 = .ok (.iload 7, 2) := by decide +kernel
theorem dL_law_111 : decode cL_law 111 = .ok (.iconst 2, 1) := by decide +kernel
theorem dL_law_112 : decode cL_law 112 = .ok (.if_icmp .ne 13, 3) := by decide +kernel
theorem dL_law_115 : decode cL_law 115 = .ok (.iload 8, 2) := by decide +kernel
theorem dL_law_117 : decode cL_law 117 = .ok (.ifCond .le 8, 3) := by decide +kernel
theorem dL_law_120 : decode cL_law 120 = .ok (.bipush 41, 2) := by decide +kernel
theorem dL_law_122 : decode cL_law 122 = .ok (.goto 33, 3) := by decide +kernel
theorem dL_law_125 : decode cL_law 125 = .ok (.iload 9, 2) := by decide +kernel
theorem dL_law_127 : decode cL_law 127 = .ok (.bipush 9, 2) := by decide +kernel
theorem dL_law_129 : decode cL_law 129 = .ok (.if_icmp .le 14, 3) := by decide +kernel
theorem dL_law_132 : decode cL_law 132 = .ok (.iload 7, 2) := by decide +kernel
theorem dL_law_134 : decode cL_law 134 = .ok (.iconst 2, 1) := by decide +kernel
theorem dL_law_135 : decode cL_law 135 = .ok (.if_icmp .ge 8, 3) := by decide +kernel
theorem dL_law_138 : decode cL_law 138 = .ok (.bipush 99, 2) := by decide +kernel
theorem dL_law_140 : decode cL_law 140 = .ok (.goto 15, 3) := by decide +kernel
theorem dL_law_143 : decode cL_law 143 = .ok (.iload 7, 2) := by decide +kernel
theorem dL_law_145 : decode cL_law 145 = .ok (.iload 8, 2) := by decide +kernel
theorem dL_law_147 : decode cL_law 147 = .ok (.iload 10, 2) := by decide +kernel
theorem dL_law_149 : decode cL_law 149 = .ok (.bipush 8, 2) := by decide +kernel
theorem dL_law_151 : decode cL_law 151 = .ok (.idiv, 1) := by decide +kernel
theorem dL_law_152 : decode cL_law 152 = .ok (.invokestatic 85, 3) := by decide +kernel
theorem dL_law_155 : decode cL_law 155 = .ok (.istore 11, 2) := by decide +kernel
theorem dL_law_157 : decode cL_law 157 = .ok (.iload_n 3, 1) := by decide +kernel
theorem dL_law_158 : decode cL_law 158 = .ok (.ifCond .eq 22, 3) := by decide +kernel
theorem dL_law_161 : decode cL_law 161 = .ok (.aload_n 1, 1) := by decide +kernel
theorem dL_law_162 : decode cL_law 162 = .ok (.iconst 1, 1) := by decide +kernel
theorem dL_law_163 : decode cL_law 163 = .ok (.iload 11, 2) := by decide +kernel
theorem dL_law_165 : decode cL_law 165 = .ok (.iconst 0, 1) := by decide +kernel
theorem dL_law_166 : decode cL_law 166 = .ok (.invokestatic 75, 3) := by decide +kernel
theorem dL_law_169 : decode cL_law 169 = .ok (.iload 9, 2) := by decide +kernel
theorem dL_law_171 : decode cL_law 171 = .ok (.iconst 1, 1) := by decide +kernel
theorem dL_law_172 : decode cL_law 172 = .ok (.iadd, 1) := by decide +kernel
theorem dL_law_173 : decode cL_law 173 = .ok (.if_icmp .ne 7, 3) := by decide +kernel
theorem dL_law_176 : decode cL_law 176 = .ok (.iconst 1, 1) := by decide +kernel
theorem dL_law_177 : decode cL_law 177 = .ok (.goto 4, 3) := by decide +kernel
theorem dL_law_180 : decode cL_law 180 = .ok (.iconst 0, 1) := by decide +kernel
theorem dL_law_181 : decode cL_law 181 = .ok (.istore_n 3, 1) := by decide +kernel
theorem dL_law_182 : decode cL_law 182 = .ok (.iinc 9 1, 3) := by decide +kernel
theorem dL_law_185 : decode cL_law 185 = .ok (.iload 8, 2) := by decide +kernel
theorem dL_law_187 : decode cL_law 187 = .ok (.iload 11, 2) := by decide +kernel
theorem dL_law_189 : decode cL_law 189 = .ok (.bipush 40, 2) := by decide +kernel
theorem dL_law_191 : decode cL_law 191 = .ok (.if_icmp .ne 7, 3) := by decide +kernel
theorem dL_law_194 : decode cL_law 194 = .ok (.iconst 1, 1) := by decide +kernel
theorem dL_law_195 : decode cL_law 195 = .ok (.goto 15, 3) := by decide +kernel
theorem dL_law_198 : decode cL_law 198 = .ok (.iload 11, 2) := by decide +kernel
theorem dL_law_200 : decode cL_law 200 = .ok (.bipush 41, 2) := by decide +kernel
theorem dL_law_202 : decode cL_law 202 = .ok (.if_icmp .ne 7, 3) := by decide +kernel
theorem dL_law_205 : decode cL_law 205 = .ok (.iconst (-1), 1) := by decide +kernel
theorem dL_law_206 : decode cL_law 206 = .ok (.goto 4, 3) := by decide +kernel
theorem dL_law_209 : decode cL_law 209 = .ok (.iconst 0, 1) := by decide +kernel
theorem dL_law_210 : decode cL_law 210 = .ok (.iadd, 1) := by decide +kernel
theorem dL_law_211 : decode cL_law 211 = .ok (.istore 8, 2) := by decide +kernel
theorem dL_law_213 : decode cL_law 213 = .ok (.iload 11, 2) := by decide +kernel
theorem dL_law_215 : decode cL_law 215 = .ok (.bipush 49, 2) := by decide +kernel
theorem dL_law_217 : decode cL_law 217 = .ok (.if_icmp .lt 14, 3) := by decide +kernel
theorem dL_law_220 : decode cL_law 220 = .ok (.iload 11, 2) := by decide +kernel
theorem dL_law_222 : decode cL_law 222 = .ok (.bipush 57, 2) := by decide +kernel
theorem dL_law_224 : decode cL_law 224 = .ok (.if_icmp .gt 7, 3) := by decide +kernel
theorem dL_law_227 : decode cL_law 227 = .ok (.iconst 1, 1) := by decide +kernel
theorem dL_law_228 : decode cL_law 228 = .ok (.goto 29, 3) := by decide +kernel
theorem dL_law_231 : decode cL_law 231 = .ok (.iload 11, 2) := by decide +kernel
theorem dL_law_233 : decode cL_law 233 = .ok (.bipush 40, 2) := by decide +kernel
theorem dL_law_235 : decode cL_law 235 = .ok (.if_icmp .eq 17, 3) := by decide +kernel
theorem dL_law_238 : decode cL_law 238 = .ok (.iload 11, 2) := by decide +kernel
theorem dL_law_240 : decode cL_law 240 = .ok (.bipush 43, 2) := by decide +kernel
theorem dL_law_242 : decode cL_law 242 = .ok (.if_icmp .eq 10, 3) := by decide +kernel
theorem dL_law_245 : decode cL_law 245 = .ok (.iload 11, 2) := by decide +kernel
theorem dL_law_247 : decode cL_law 247 = .ok (.bipush 124, 2) := by decide +kernel
theorem dL_law_249 : decode cL_law 249 = .ok (.if_icmp .ne 7, 3) := by decide +kernel
theorem dL_law_252 : decode cL_law 252 = .ok (.iconst 0, 1) := by decide +kernel
theorem dL_law_253 : decode cL_law 253 = .ok (.goto 4, 3) := by decide +kernel
theorem dL_law_256 : decode cL_law 256 = .ok (.iconst 2, 1) := by decide +kernel
theorem dL_law_257 : decode cL_law 257 = .ok (.istore 7, 2) := by decide +kernel
theorem dL_law_259 : decode cL_law 259 = .ok (.goto (-193), 3) := by decide +kernel
theorem dL_law_262 : decode cL_law 262 = .ok (.aload_n 0, 1) := by decide +kernel
theorem dL_law_263 : decode cL_law 263 = .ok (.iload 4, 2) := by decide +kernel
theorem dL_law_265 : decode cL_law 265 = .ok (.invokestatic 81, 3) := by decide +kernel
theorem dL_law_268 : decode cL_law 268 = .ok (.bipush 6, 2) := by decide +kernel
theorem dL_law_270 : decode cL_law 270 = .ok (.irem, 1) := by decide +kernel
theorem dL_law_271 : decode cL_law 271 = .ok (.ifCond .ne 7, 3) := by decide +kernel
theorem dL_law_274 : decode cL_law 274 = .ok (.iconst 1, 1) := by decide +kernel
theorem dL_law_275 : decode cL_law 275 = .ok (.goto 4, 3) := by decide +kernel
theorem dL_law_278 : decode cL_law 278 = .ok (.iconst 0, 1) := by decide +kernel
theorem dL_law_279 : decode cL_law 279 = .ok (.istore 11, 2) := by decide +kernel
theorem dL_law_281 : decode cL_law 281 = .ok (.iload 11, 2) := by decide +kernel
theorem dL_law_283 : decode cL_law 283 = .ok (.ifCond .eq 31, 3) := by decide +kernel
theorem dL_law_286 : decode cL_law 286 = .ok (.iload_n 3, 1) := by decide +kernel
theorem dL_law_287 : decode cL_law 287 = .ok (.ifCond .eq 22, 3) := by decide +kernel
theorem dL_law_290 : decode cL_law 290 = .ok (.aload_n 1, 1) := by decide +kernel
theorem dL_law_291 : decode cL_law 291 = .ok (.iconst 1, 1) := by decide +kernel
theorem dL_law_292 : decode cL_law 292 = .ok (.bipush 122, 2) := by decide +kernel
theorem dL_law_294 : decode cL_law 294 = .ok (.iconst 0, 1) := by decide +kernel
theorem dL_law_295 : decode cL_law 295 = .ok (.invokestatic 75, 3) := by decide +kernel
theorem dL_law_298 : decode cL_law 298 = .ok (.iload 9, 2) := by decide +kernel
theorem dL_law_300 : decode cL_law 300 = .ok (.iconst 1, 1) := by decide +kernel
theorem dL_law_301 : decode cL_law 301 = .ok (.iadd, 1) := by decide +kernel
theorem dL_law_302 : decode cL_law 302 = .ok (.if_icmp .ne 7, 3) := by decide +kernel
theorem dL_law_305 : decode cL_law 305 = .ok (.iconst 1, 1) := by decide +kernel
theorem dL_law_306 : decode cL_law 306 = .ok (.goto 4, 3) := by decide +kernel
theorem dL_law_309 : decode cL_law 309 = .ok (.iconst 0, 1) := by decide +kernel
theorem dL_law_310 : decode cL_law 310 = .ok (.istore_n 3, 1) := by decide +kernel
theorem dL_law_311 : decode cL_law 311 = .ok (.goto 60, 3) := by decide +kernel
theorem dL_law_314 : decode cL_law 314 = .ok (.aload_n 0, 1) := by decide +kernel
theorem dL_law_315 : decode cL_law 315 = .ok (.iload 4, 2) := by decide +kernel
theorem dL_law_317 : decode cL_law 317 = .ok (.invokestatic 81, 3) := by decide +kernel
theorem dL_law_320 : decode cL_law 320 = .ok (.iconst 3, 1) := by decide +kernel
theorem dL_law_321 : decode cL_law 321 = .ok (.irem, 1) := by decide +kernel
theorem dL_law_322 : decode cL_law 322 = .ok (.ifCond .ne 49, 3) := by decide +kernel
theorem dL_law_325 : decode cL_law 325 = .ok (.iload_n 3, 1) := by decide +kernel
theorem dL_law_326 : decode cL_law 326 = .ok (.ifCond .eq 43, 3) := by decide +kernel
theorem dL_law_329 : decode cL_law 329 = .ok (.aload_n 1, 1) := by decide +kernel
theorem dL_law_330 : decode cL_law 330 = .ok (.iconst 1, 1) := by decide +kernel
theorem dL_law_331 : decode cL_law 331 = .ok (.bipush 60, 2) := by decide +kernel
theorem dL_law_333 : decode cL_law 333 = .ok (.iconst 0, 1) := by decide +kernel
theorem dL_law_334 : decode cL_law 334 = .ok (.invokestatic 75, 3) := by decide +kernel
theorem dL_law_337 : decode cL_law 337 = .ok (.iload 9, 2) := by decide +kernel
theorem dL_law_339 : decode cL_law 339 = .ok (.iconst 1, 1) := by decide +kernel
theorem dL_law_340 : decode cL_law 340 = .ok (.iadd, 1) := by decide +kernel
theorem dL_law_341 : decode cL_law 341 = .ok (.if_icmp .ne 28, 3) := by decide +kernel
theorem dL_law_344 : decode cL_law 344 = .ok (.aload_n 1, 1) := by decide +kernel
theorem dL_law_345 : decode cL_law 345 = .ok (.iconst 1, 1) := by decide +kernel
theorem dL_law_346 : decode cL_law 346 = .ok (.bipush 48, 2) := by decide +kernel
theorem dL_law_348 : decode cL_law 348 = .ok (.iload 10, 2) := by decide +kernel
theorem dL_law_350 : decode cL_law 350 = .ok (.bipush 10, 2) := by decide +kernel
theorem dL_law_352 : decode cL_law 352 = .ok (.irem, 1) := by decide +kernel
theorem dL_law_353 : decode cL_law 353 = .ok (.iadd, 1) := by decide +kernel
theorem dL_law_354 : decode cL_law 354 = .ok (.iconst 0, 1) := by decide +kernel
theorem dL_law_355 : decode cL_law 355 = .ok (.invokestatic 75, 3) := by decide +kernel
theorem dL_law_358 : decode cL_law 358 = .ok (.iload 9, 2) := by decide +kernel
theorem dL_law_360 : decode cL_law 360 = .ok (.iconst 2, 1) := by decide +kernel
theorem dL_law_361 : decode cL_law 361 = .ok (.iadd, 1) := by decide +kernel
theorem dL_law_362 : decode cL_law 362 = .ok (.if_icmp .ne 7, 3) := by decide +kernel
theorem dL_law_365 : decode cL_law 365 = .ok (.iconst 1, 1) := by decide +kernel
theorem dL_law_366 : decode cL_law 366 = .ok (.goto 4, 3) := by decide +kernel
theorem dL_law_369 : decode cL_law 369 = .ok (.iconst 0, 1) := by decide +kernel
theorem dL_law_370 : decode cL_law 370 = .ok (.istore_n 3, 1) := by decide +kernel
theorem dL_law_371 : decode cL_law 371 = .ok (.aload_n 1, 1) := by decide +kernel
theorem dL_law_372 : decode cL_law 372 = .ok (.iconst 2, 1) := by decide +kernel
theorem dL_law_373 : decode cL_law 373 = .ok (.iload 5, 2) := by decide +kernel
theorem dL_law_375 : decode cL_law 375 = .ok (.iconst 0, 1) := by decide +kernel
theorem dL_law_376 : decode cL_law 376 = .ok (.invokestatic 75, 3) := by decide +kernel
theorem dL_law_379 : decode cL_law 379 = .ok (.istore 12, 2) := by decide +kernel
theorem dL_law_381 : decode cL_law 381 = .ok (.iload_n 3, 1) := by decide +kernel
theorem dL_law_382 : decode cL_law 382 = .ok (.ifCond .eq 26, 3) := by decide +kernel
theorem dL_law_385 : decode cL_law 385 = .ok (.iload 12, 2) := by decide +kernel
theorem dL_law_387 : decode cL_law 387 = .ok (.iload 11, 2) := by decide +kernel
theorem dL_law_389 : decode cL_law 389 = .ok (.ifCond .eq 10, 3) := by decide +kernel
theorem dL_law_392 : decode cL_law 392 = .ok (.iconst (-1), 1) := by decide +kernel
theorem dL_law_393 : decode cL_law 393 = .ok (.iload 9, 2) := by decide +kernel
theorem dL_law_395 : decode cL_law 395 = .ok (.isub, 1) := by decide +kernel
theorem dL_law_396 : decode cL_law 396 = .ok (.goto 5, 3) := by decide +kernel
theorem dL_law_399 : decode cL_law 399 = .ok (.iload 6, 2) := by decide +kernel
theorem dL_law_401 : decode cL_law 401 = .ok (.if_icmp .ne 7, 3) := by decide +kernel
theorem dL_law_404 : decode cL_law 404 = .ok (.iconst 1, 1) := by decide +kernel
theorem dL_law_405 : decode cL_law 405 = .ok (.goto 4, 3) := by decide +kernel
theorem dL_law_408 : decode cL_law 408 = .ok (.iconst 0, 1) := by decide +kernel
theorem dL_law_409 : decode cL_law 409 = .ok (.istore_n 3, 1) := by decide +kernel
theorem dL_law_410 : decode cL_law 410 = .ok (.iload 12, 2) := by decide +kernel
theorem dL_law_412 : decode cL_law 412 = .ok (.ifCond .lt 218, 3) := by decide +kernel
theorem dL_law_415 : decode cL_law 415 = .ok (.iconst 0, 1) := by decide +kernel
theorem dL_law_416 : decode cL_law 416 = .ok (.istore 13, 2) := by decide +kernel
theorem dL_law_418 : decode cL_law 418 = .ok (.iload_n 3, 1) := by decide +kernel
theorem dL_law_419 : decode cL_law 419 = .ok (.ifCond .eq 51, 3) := by decide +kernel
theorem dL_law_422 : decode cL_law 422 = .ok (.aload_n 1, 1) := by decide +kernel
theorem dL_law_423 : decode cL_law 423 = .ok (.iload 5, 2) := by decide +kernel
theorem dL_law_425 : decode cL_law 425 = .ok (.iload 12, 2) := by decide +kernel
theorem dL_law_427 : decode cL_law 427 = .ok (.iload 13, 2) := by decide +kernel
theorem dL_law_429 : decode cL_law 429 = .ok (.invokestatic 88, 3) := by decide +kernel
theorem dL_law_432 : decode cL_law 432 = .ok (.ifCond .le 38, 3) := by decide +kernel
theorem dL_law_435 : decode cL_law 435 = .ok (.aload_n 2, 1) := by decide +kernel
theorem dL_law_436 : decode cL_law 436 = .ok (.iconst 1, 1) := by decide +kernel
theorem dL_law_437 : decode cL_law 437 = .ok (.aload_n 1, 1) := by decide +kernel
theorem dL_law_438 : decode cL_law 438 = .ok (.iload 5, 2) := by decide +kernel
theorem dL_law_440 : decode cL_law 440 = .ok (.iload 12, 2) := by decide +kernel
theorem dL_law_442 : decode cL_law 442 = .ok (.iload 13, 2) := by decide +kernel
theorem dL_law_444 : decode cL_law 444 = .ok (.invokestatic 88, 3) := by decide +kernel
theorem dL_law_447 : decode cL_law 447 = .ok (.iconst 0, 1) := by decide +kernel
theorem dL_law_448 : decode cL_law 448 = .ok (.invokestatic 75, 3) := by decide +kernel
theorem dL_law_451 : decode cL_law 451 = .ok (.iload 13, 2) := by decide +kernel
theorem dL_law_453 : decode cL_law 453 = .ok (.iconst 1, 1) := by decide +kernel
theorem dL_law_454 : decode cL_law 454 = .ok (.iadd, 1) := by decide +kernel
theorem dL_law_455 : decode cL_law 455 = .ok (.if_icmp .ne 7, 3) := by decide +kernel
theorem dL_law_458 : decode cL_law 458 = .ok (.iconst 1, 1) := by decide +kernel
theorem dL_law_459 : decode cL_law 459 = .ok (.goto 4, 3) := by decide +kernel
theorem dL_law_462 : decode cL_law 462 = .ok (.iconst 0, 1) := by decide +kernel
theorem dL_law_463 : decode cL_law 463 = .ok (.istore_n 3, 1) := by decide +kernel
theorem dL_law_464 : decode cL_law 464 = .ok (.iinc 13 1, 3) := by decide +kernel
theorem dL_law_467 : decode cL_law 467 = .ok (.goto (-49), 3) := by decide +kernel
theorem dL_law_470 : decode cL_law 470 = .ok (.iload_n 3, 1) := by decide +kernel
theorem dL_law_471 : decode cL_law 471 = .ok (.ifCond .eq 20, 3) := by decide +kernel
theorem dL_law_474 : decode cL_law 474 = .ok (.aload_n 2, 1) := by decide +kernel
theorem dL_law_475 : decode cL_law 475 = .ok (.iconst 2, 1) := by decide +kernel
theorem dL_law_476 : decode cL_law 476 = .ok (.iload 5, 2) := by decide +kernel
theorem dL_law_478 : decode cL_law 478 = .ok (.iconst 0, 1) := by decide +kernel
theorem dL_law_479 : decode cL_law 479 = .ok (.invokestatic 75, 3) := by decide +kernel
theorem dL_law_482 : decode cL_law 482 = .ok (.iload 12, 2) := by decide +kernel
theorem dL_law_484 : decode cL_law 484 = .ok (.if_icmp .ne 7, 3) := by decide +kernel
theorem dL_law_487 : decode cL_law 487 = .ok (.iconst 1, 1) := by decide +kernel
theorem dL_law_488 : decode cL_law 488 = .ok (.goto 4, 3) := by decide +kernel
theorem dL_law_491 : decode cL_law 491 = .ok (.iconst 0, 1) := by decide +kernel
theorem dL_law_492 : decode cL_law 492 = .ok (.istore_n 3, 1) := by decide +kernel
theorem dL_law_493 : decode cL_law 493 = .ok (.iconst 0, 1) := by decide +kernel
theorem dL_law_494 : decode cL_law 494 = .ok (.istore 14, 2) := by decide +kernel
theorem dL_law_496 : decode cL_law 496 = .ok (.iload 14, 2) := by decide +kernel
theorem dL_law_498 : decode cL_law 498 = .ok (.iload 13, 2) := by decide +kernel
theorem dL_law_500 : decode cL_law 500 = .ok (.if_icmp .gt 42, 3) := by decide +kernel
theorem dL_law_503 : decode cL_law 503 = .ok (.iload_n 3, 1) := by decide +kernel
theorem dL_law_504 : decode cL_law 504 = .ok (.ifCond .eq 38, 3) := by decide +kernel
theorem dL_law_507 : decode cL_law 507 = .ok (.aload_n 2, 1) := by decide +kernel
theorem dL_law_508 : decode cL_law 508 = .ok (.iload 5, 2) := by decide +kernel
theorem dL_law_510 : decode cL_law 510 = .ok (.iload 12, 2) := by decide +kernel
theorem dL_law_512 : decode cL_law 512 = .ok (.iload 14, 2) := by decide +kernel
theorem dL_law_514 : decode cL_law 514 = .ok (.invokestatic 88, 3) := by decide +kernel
theorem dL_law_517 : decode cL_law 517 = .ok (.aload_n 1, 1) := by decide +kernel
theorem dL_law_518 : decode cL_law 518 = .ok (.iload 5, 2) := by decide +kernel
theorem dL_law_520 : decode cL_law 520 = .ok (.iload 12, 2) := by decide +kernel
theorem dL_law_522 : decode cL_law 522 = .ok (.iload 14, 2) := by decide +kernel
theorem dL_law_524 : decode cL_law 524 = .ok (.invokestatic 88, 3) := by decide +kernel
theorem dL_law_527 : decode cL_law 527 = .ok (.if_icmp .ne 7, 3) := by decide +kernel
theorem dL_law_530 : decode cL_law 530 = .ok (.iconst 1, 1) := by decide +kernel
theorem dL_law_531 : decode cL_law 531 = .ok (.goto 4, 3) := by decide +kernel
theorem dL_law_534 : decode cL_law 534 = .ok (.iconst 0, 1) := by decide +kernel
theorem dL_law_535 : decode cL_law 535 = .ok (.istore_n 3, 1) := by decide +kernel
theorem dL_law_536 : decode cL_law 536 = .ok (.iinc 14 1, 3) := by decide +kernel
theorem dL_law_539 : decode cL_law 539 = .ok (.goto (-43), 3) := by decide +kernel
theorem dL_law_542 : decode cL_law 542 = .ok (.iconst 0, 1) := by decide +kernel
theorem dL_law_543 : decode cL_law 543 = .ok (.istore 14, 2) := by decide +kernel
theorem dL_law_545 : decode cL_law 545 = .ok (.iload 14, 2) := by decide +kernel
theorem dL_law_547 : decode cL_law 547 = .ok (.bipush 24, 2) := by decide +kernel
theorem dL_law_549 : decode cL_law 549 = .ok (.if_icmp .ge 81, 3) := by decide +kernel
theorem dL_law_552 : decode cL_law 552 = .ok (.iload_n 3, 1) := by decide +kernel
theorem dL_law_553 : decode cL_law 553 = .ok (.ifCond .eq 77, 3) := by decide +kernel
theorem dL_law_556 : decode cL_law 556 = .ok (.aload_n 0, 1) := by decide +kernel
theorem dL_law_557 : decode cL_law 557 = .ok (.iload 4, 2) := by decide +kernel
theorem dL_law_559 : decode cL_law 559 = .ok (.iload 14, 2) := by decide +kernel
theorem dL_law_561 : decode cL_law 561 = .ok (.iadd, 1) := by decide +kernel
theorem dL_law_562 : decode cL_law 562 = .ok (.invokestatic 81, 3) := by decide +kernel
theorem dL_law_565 : decode cL_law 565 = .ok (.bipush 64, 2) := by decide +kernel
theorem dL_law_567 : decode cL_law 567 = .ok (.idiv, 1) := by decide +kernel
theorem dL_law_568 : decode cL_law 568 = .ok (.bipush 41, 2) := by decide +kernel
theorem dL_law_570 : decode cL_law 570 = .ok (.iload 14, 2) := by decide +kernel
theorem dL_law_572 : decode cL_law 572 = .ok (.imul, 1) := by decide +kernel
theorem dL_law_573 : decode cL_law 573 = .ok (.iadd, 1) := by decide +kernel
theorem dL_law_574 : decode cL_law 574 = .ok (.sipush 256, 3) := by decide +kernel
theorem dL_law_577 : decode cL_law 577 = .ok (.irem, 1) := by decide +kernel
theorem dL_law_578 : decode cL_law 578 = .ok (.istore 15, 2) := by decide +kernel
theorem dL_law_580 : decode cL_law 580 = .ok (.aload_n 2, 1) := by decide +kernel
theorem dL_law_581 : decode cL_law 581 = .ok (.iload 5, 2) := by decide +kernel
theorem dL_law_583 : decode cL_law 583 = .ok (.iload 12, 2) := by decide +kernel
theorem dL_law_585 : decode cL_law 585 = .ok (.iload 15, 2) := by decide +kernel
theorem dL_law_587 : decode cL_law 587 = .ok (.invokestatic 90, 3) := by decide +kernel
theorem dL_law_590 : decode cL_law 590 = .ok (.aload_n 1, 1) := by decide +kernel
theorem dL_law_591 : decode cL_law 591 = .ok (.iload 5, 2) := by decide +kernel
theorem dL_law_593 : decode cL_law 593 = .ok (.iload 12, 2) := by decide +kernel
theorem dL_law_595 : decode cL_law 595 = .ok (.iload 15, 2) := by decide +kernel
theorem dL_law_597 : decode cL_law 597 = .ok (.invokestatic 90, 3) := by decide +kernel
theorem dL_law_600 : decode cL_law 600 = .ok (.if_icmp .ne 22, 3) := by decide +kernel
theorem dL_law_603 : decode cL_law 603 = .ok (.aload_n 1, 1) := by decide +kernel
theorem dL_law_604 : decode cL_law 604 = .ok (.iload 5, 2) := by decide +kernel
theorem dL_law_606 : decode cL_law 606 = .ok (.iload 12, 2) := by decide +kernel
theorem dL_law_608 : decode cL_law 608 = .ok (.iload 15, 2) := by decide +kernel
theorem dL_law_610 : decode cL_law 610 = .ok (.invokestatic 90, 3) := by decide +kernel
theorem dL_law_613 : decode cL_law 613 = .ok (.bipush 99, 2) := by decide +kernel
theorem dL_law_615 : decode cL_law 615 = .ok (.if_icmp .gt 7, 3) := by decide +kernel
theorem dL_law_618 : decode cL_law 618 = .ok (.iconst 1, 1) := by decide +kernel
theorem dL_law_619 : decode cL_law 619 = .ok (.goto 4, 3) := by decide +kernel
theorem dL_law_622 : decode cL_law 622 = .ok (.iconst 0, 1) := by decide +kernel
theorem dL_law_623 : decode cL_law 623 = .ok (.istore_n 3, 1) := by decide +kernel
theorem dL_law_624 : decode cL_law 624 = .ok (.iinc 14 1, 3) := by decide +kernel
theorem dL_law_627 : decode cL_law 627 = .ok (.goto (-82), 3) := by decide +kernel
theorem dL_law_630 : decode cL_law 630 = .ok (.iload_n 3, 1) := by decide +kernel
theorem dL_law_631 : decode cL_law 631 = .ok (.ifCond .eq 28, 3) := by decide +kernel
theorem dL_law_634 : decode cL_law 634 = .ok (.aload_n 1, 1) := by decide +kernel
theorem dL_law_635 : decode cL_law 635 = .ok (.bipush 9, 2) := by decide +kernel
theorem dL_law_637 : decode cL_law 637 = .ok (.iload 5, 2) := by decide +kernel
theorem dL_law_639 : decode cL_law 639 = .ok (.iconst 0, 1) := by decide +kernel
theorem dL_law_640 : decode cL_law 640 = .ok (.invokestatic 75, 3) := by decide +kernel
theorem dL_law_643 : decode cL_law 643 = .ok (.aload_n 2, 1) := by decide +kernel
theorem dL_law_644 : decode cL_law 644 = .ok (.bipush 9, 2) := by decide +kernel
theorem dL_law_646 : decode cL_law 646 = .ok (.iload 5, 2) := by decide +kernel
theorem dL_law_648 : decode cL_law 648 = .ok (.iconst 0, 1) := by decide +kernel
theorem dL_law_649 : decode cL_law 649 = .ok (.invokestatic 75, 3) := by decide +kernel
theorem dL_law_652 : decode cL_law 652 = .ok (.if_icmp .ne 7, 3) := by decide +kernel
theorem dL_law_655 : decode cL_law 655 = .ok (.iconst 1, 1) := by decide +kernel
theorem dL_law_656 : decode cL_law 656 = .ok (.goto 4, 3) := by decide +kernel
theorem dL_law_659 : decode cL_law 659 = .ok (.iconst 0, 1) := by decide +kernel
theorem dL_law_660 : decode cL_law 660 = .ok (.istore_n 3, 1) := by decide +kernel
theorem dL_law_661 : decode cL_law 661 = .ok (.iinc 4 1, 3) := by decide +kernel
theorem dL_law_664 : decode cL_law 664 = .ok (.goto (-643), 3) := by decide +kernel
theorem dL_law_667 : decode cL_law 667 = .ok (.iload_n 3, 1) := by decide +kernel
theorem dL_law_668 : decode cL_law 668 = .ok (.ireturn, 1) := by decide +kernel
