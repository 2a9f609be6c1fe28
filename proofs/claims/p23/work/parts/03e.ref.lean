theorem dL_refuses_0 : decode cL_refuses 0 = .ok (.ldc 80, 2) := by decide +kernel
theorem dL_refuses_2 : decode cL_refuses 2 = .ok (.istore_n 3, 1) := by decide +kernel
theorem dL_refuses_3 : decode cL_refuses 3 = .ok (.aload_n 0, 1) := by decide +kernel
theorem dL_refuses_4 : decode cL_refuses 4 = .ok (.iconst 3, 1) := by decide +kernel
theorem dL_refuses_5 : decode cL_refuses 5 = .ok (.iconst 1, 1) := by decide +kernel
theorem dL_refuses_6 : decode cL_refuses 6 = .ok (.iconst 0, 1) := by decide +kernel
theorem dL_refuses_7 : decode cL_refuses 7 = .ok (.invokevirtual 60, 3) := by decide +kernel
theorem dL_refuses_10 : decode cL_refuses 10 = .ok (.istore 4, 2) := by decide +kernel
theorem dL_refuses_12 : decode cL_refuses 12 = .ok (.aload_n 0, 1) := by decide +kernel
theorem dL_refuses_13 : decode cL_refuses 13 = .ok (.sipush 500, 3) := by decide +kernel
theorem dL_refuses_16 : decode cL_refuses 16 = .ok (.iconst 1, 1) := by decide +kernel
theorem dL_refuses_17 : decode cL_refuses 17 = .ok (.invokevirtual 21, 3) := by decide +kernel
theorem dL_refuses_20 : decode cL_refuses 20 = .ok (.istore 5, 2) := by decide +kernel
theorem dL_refuses_22 : decode cL_refuses 22 = .ok (.iconst 0, 1) := by decide +kernel
theorem dL_refuses_23 : decode cL_refuses 23 = .ok (.istore 6, 2) := by decide +kernel
theorem dL_refuses_25 : decode cL_refuses 25 = .ok (.iload 6, 2) := by decide +kernel
theorem dL_refuses_27 : decode cL_refuses 27 = .ok (.iconst 4, 1) := by decide +kernel
theorem dL_refuses_28 : decode cL_refuses 28 = .ok (.if_icmp .ge 813, 3) := by decide +kernel
theorem dL_refuses_31 : decode cL_refuses 31 = .ok (.iload 6, 2) := by decide +kernel
theorem dL_refuses_33 : decode cL_refuses 33 = .ok (.ifCond .ne 7, 3) := by decide +kernel
theorem dL_refuses_36 : decode cL_refuses 36 = .ok (.iconst (-1), 1) := by decide +kernel
theorem dL_refuses_37 : decode cL_refuses 37 = .ok (.goto 17, 3) := by decide +kernel
theorem dL_refuses_40 : decode cL_refuses 40 = .ok (.iload 6, 2) := by decide +kernel
theorem dL_refuses_42 : decode cL_refuses 42 = .ok (.iconst 2, 1) := by decide +kernel
theorem dL_refuses_43 : decode cL_refuses 43 = .ok (.if_icmp .ne 7, 3) := by decide +kernel
theorem dL_refuses_46 : decode cL_refuses 46 = .ok (.iload_n 3, 1) := by decide +kernel
theorem dL_refuses_47 : decode cL_refuses 47 = .ok (.goto 7, 3) := by decide +kernel
theorem dL_refuses_50 : decode cL_refuses 50 = .ok (.iload_n 3, 1) := by decide +kernel
theorem dL_refuses_51 : decode cL_refuses 51 = .ok (.ineg, 1) := by decide +kernel
theorem dL_refuses_52 : decode cL_refuses 52 = .ok (.iconst 1, 1) := by decide +kernel
theorem dL_refuses_53 : decode cL_refuses 53 = .ok (.isub, 1) := by decide +kernel
theorem dL_refuses_54 : decode cL_refuses 54 = .ok (.istore 7, 2) := by decide +kernel
theorem dL_refuses_56 : decode cL_refuses 56 = .ok (.iload 6, 2) := by decide +kernel
theorem dL_refuses_58 : decode cL_refuses 58 = .ok (.iconst 1, 1) := by decide +kernel
theorem dL_refuses_59 : decode cL_refuses 59 = .ok (.if_icmp .ne 7, 3) := by decide +kernel
theorem dL_refuses_62 : decode cL_refuses 62 = .ok (.iload_n 1, 1) := by decide +kernel
theorem dL_refuses_63 : decode cL_refuses 63 = .ok (.goto 5, 3) := by decide +kernel
theorem dL_refuses_66 : decode cL_refuses 66 = .ok (.iload 7, 2) := by decide +kernel
theorem dL_refuses_68 : decode cL_refuses 68 = .ok (.istore 8, 2) := by decide +kernel
theorem dL_refuses_70 : decode cL_refuses 70 = .ok (.iload 6, 2) := by decide +kernel
theorem dL_refuses_72 : decode cL_refuses 72 = .ok (.iconst 1, 1) := by decide +kernel
theorem dL_refuses_73 : decode cL_refuses 73 = .ok (.if_icmp .ne 7, 3) := by decide +kernel
theorem dL_refuses_76 : decode cL_refuses 76 = .ok (.iload_n 2, 1) := by decide +kernel
theorem dL_refuses_77 : decode cL_refuses 77 = .ok (.goto 5, 3) := by decide +kernel
theorem dL_refuses_80 : decode cL_refuses 80 = .ok (.iload 7, 2) := by decide +kernel
theorem dL_refuses_82 : decode cL_refuses 82 = .ok (.istore 9, 2) := by decide +kernel
theorem dL_refuses_84 : decode cL_refuses 84 = .ok (.iload 6, 2) := by decide +kernel
theorem dL_refuses_86 : decode cL_refuses 86 = .ok (.iconst 1, 1) := by decide +kernel
theorem dL_refuses_87 : decode cL_refuses 87 = .ok (.if_icmp .ne 8, 3) := by decide +kernel
theorem dL_refuses_90 : decode cL_refuses 90 = .ok (.bipush 8, 2) := by decide +kernel
theorem dL_refuses_92 : decode cL_refuses 92 = .ok (.goto 5, 3) := by decide +kernel
theorem dL_refuses_95 : decode cL_refuses 95 = .ok (.iload 7, 2) := by decide +kernel
theorem dL_refuses_97 : decode cL_refuses 97 = .ok (.istore 10, 2) := by decide +kernel
theorem dL_refuses_99 : decode cL_refuses 99 = .ok (.iload 6, 2) := by decide +kernel
theorem dL_refuses_101 : decode cL_refuses 101 = .ok (.iconst 1, 1) := by decide +kernel
theorem dL_refuses_102 : decode cL_refuses 102 = .ok (.if_icmp .ne 7, 3) := by decide +kernel
theorem dL_refuses_105 : decode cL_refuses 105 = .ok (.iconst 4, 1) := by decide +kernel
theorem dL_refuses_106 : decode cL_refuses 106 = .ok (.goto 5, 3) := by decide +kernel
theorem dL_refuses_109 : decode cL_refuses 109 = .ok (.iload 7, 2) := by decide +kernel
theorem dL_refuses_111 : decode cL_refuses 111 = .ok (.istore 11, 2) := by decide +kernel
theorem dL_refuses_113 : decode cL_refuses 113 = .ok (.iload 6, 2) := by decide +kernel
theorem dL_refuses_115 : decode cL_refuses 115 = .ok (.ifCond .ne 7, 3) := by decide +kernel
theorem dL_refuses_118 : decode cL_refuses 118 = .ok (.iconst 0, 1) := by decide +kernel
theorem dL_refuses_119 : decode cL_refuses 119 = .ok (.goto 17, 3) := by decide +kernel
theorem dL_refuses_122 : decode cL_refuses 122 = .ok (.iload 6, 2) := by decide +kernel
theorem dL_refuses_124 : decode cL_refuses 124 = .ok (.iconst 1, 1) := by decide +kernel
theorem dL_refuses_125 : decode cL_refuses 125 = .ok (.if_icmp .ne 9, 3) := by decide +kernel
theorem dL_refuses_128 : decode cL_refuses 128 = .ok (.sipush 501, 3) := by decide +kernel
theorem dL_refuses_131 : decode cL_refuses 131 = .ok (.goto 5, 3) := by decide +kernel
theorem dL_refuses_134 : decode cL_refuses 134 = .ok (.iload 7, 2) := by decide +kernel
theorem dL_refuses_136 : decode cL_refuses 136 = .ok (.istore 12, 2) := by decide +kernel
theorem dL_refuses_138 : decode cL_refuses 138 = .ok (.aload_n 0, 1) := by decide +kernel
theorem dL_refuses_139 : decode cL_refuses 139 = .ok (.iconst 0, 1) := by decide +kernel
theorem dL_refuses_140 : decode cL_refuses 140 = .ok (.iload 6, 2) := by decide +kernel
theorem dL_refuses_142 : decode cL_refuses 142 = .ok (.iconst 1, 1) := by decide +kernel
theorem dL_refuses_143 : decode cL_refuses 143 = .ok (.if_icmp .ne 8, 3) := by decide +kernel
theorem dL_refuses_146 : decode cL_refuses 146 = .ok (.bipush 10, 2) := by decide +kernel
theorem dL_refuses_148 : decode cL_refuses 148 = .ok (.goto 5, 3) := by decide +kernel
theorem dL_refuses_151 : decode cL_refuses 151 = .ok (.iload 7, 2) := by decide +kernel
theorem dL_refuses_153 : decode cL_refuses 153 = .ok (.iconst 0, 1) := by decide +kernel
theorem dL_refuses_154 : decode cL_refuses 154 = .ok (.iconst 0, 1) := by decide +kernel
theorem dL_refuses_155 : decode cL_refuses 155 = .ok (.invokestatic 81, 3) := by decide +kernel
theorem dL_refuses_158 : decode cL_refuses 158 = .ok (.ldc 76, 2) := by decide +kernel
theorem dL_refuses_160 : decode cL_refuses 160 = .ok (.if_icmp .ne 373, 3) := by decide +kernel
theorem dL_refuses_163 : decode cL_refuses 163 = .ok (.aload_n 0, 1) := by decide +kernel
theorem dL_refuses_164 : decode cL_refuses 164 = .ok (.iconst 0, 1) := by decide +kernel
theorem dL_refuses_165 : decode cL_refuses 165 = .ok (.iconst 0, 1) := by decide +kernel
theorem dL_refuses_166 : decode cL_refuses 166 = .ok (.iload 6, 2) := by decide +kernel
theorem dL_refuses_168 : decode cL_refuses 168 = .ok (.ifCond .ne 8, 3) := by decide +kernel
theorem dL_refuses_171 : decode cL_refuses 171 = .ok (.bipush (-100), 2) := by decide +kernel
theorem dL_refuses_173 : decode cL_refuses 173 = .ok (.goto 16, 3) := by decide +kernel
theorem dL_refuses_176 : decode cL_refuses 176 = .ok (.iload 6, 2) := by decide +kernel
theorem dL_refuses_178 : decode cL_refuses 178 = .ok (.iconst 1, 1) := by decide +kernel
theorem dL_refuses_179 : decode cL_refuses 179 = .ok (.if_icmp .ne 8, 3) := by decide +kernel
theorem dL_refuses_182 : decode cL_refuses 182 = .ok (.bipush 100, 2) := by decide +kernel
theorem dL_refuses_184 : decode cL_refuses 184 = .ok (.goto 5, 3) := by decide +kernel
theorem dL_refuses_187 : decode cL_refuses 187 = .ok (.iload 7, 2) := by decide +kernel
theorem dL_refuses_189 : decode cL_refuses 189 = .ok (.iconst 0, 1) := by decide +kernel
theorem dL_refuses_190 : decode cL_refuses 190 = .ok (.invokestatic 81, 3) := by decide +kernel
theorem dL_refuses_193 : decode cL_refuses 193 = .ok (.ldc 76, 2) := by decide +kernel
theorem dL_refuses_195 : decode cL_refuses 195 = .ok (.if_icmp .ne 338, 3) := by decide +kernel
theorem dL_refuses_198 : decode cL_refuses 198 = .ok (.aload_n 0, 1) := by decide +kernel
theorem dL_refuses_199 : decode cL_refuses 199 = .ok (.iconst 1, 1) := by decide +kernel
theorem dL_refuses_200 : decode cL_refuses 200 = .ok (.iload 6, 2) := by decide +kernel
theorem dL_refuses_202 : decode cL_refuses 202 = .ok (.ifCond .ne 8, 3) := by decide +kernel
theorem dL_refuses_205 : decode cL_refuses 205 = .ok (.bipush (-10), 2) := by decide +kernel
theorem dL_refuses_207 : decode cL_refuses 207 = .ok (.goto 16, 3) := by decide +kernel
theorem dL_refuses_210 : decode cL_refuses 210 = .ok (.iload 6, 2) := by decide +kernel
theorem dL_refuses_212 : decode cL_refuses 212 = .ok (.iconst 1, 1) := by decide +kernel
theorem dL_refuses_213 : decode cL_refuses 213 = .ok (.if_icmp .ne 8, 3) := by decide +kernel
theorem dL_refuses_216 : decode cL_refuses 216 = .ok (.bipush 10, 2) := by decide +kernel
theorem dL_refuses_218 : decode cL_refuses 218 = .ok (.goto 5, 3) := by decide +kernel
theorem dL_refuses_221 : decode cL_refuses 221 = .ok (.iload 7, 2) := by decide +kernel
theorem dL_refuses_223 : decode cL_refuses 223 = .ok (.iconst 0, 1) := by decide +kernel
theorem dL_refuses_224 : decode cL_refuses 224 = .ok (.iconst 0, 1) := by decide +kernel
theorem dL_refuses_225 : decode cL_refuses 225 = .ok (.invokestatic 81, 3) := by decide +kernel
theorem dL_refuses_228 : decode cL_refuses 228 = .ok (.ldc 76, 2) := by decide +kernel
theorem dL_refuses_230 : decode cL_refuses 230 = .ok (.if_icmp .ne 303, 3) := by decide +kernel
theorem dL_refuses_233 : decode cL_refuses 233 = .ok (.aload_n 0, 1) := by decide +kernel
theorem dL_refuses_234 : decode cL_refuses 234 = .ok (.iconst 2, 1) := by decide +kernel
theorem dL_refuses_235 : decode cL_refuses 235 = .ok (.iload 12, 2) := by decide +kernel
theorem dL_refuses_237 : decode cL_refuses 237 = .ok (.iconst 0, 1) := by decide +kernel
theorem dL_refuses_238 : decode cL_refuses 238 = .ok (.iconst 0, 1) := by decide +kernel
theorem dL_refuses_239 : decode cL_refuses 239 = .ok (.invokestatic 81, 3) := by decide +kernel
theorem dL_refuses_242 : decode cL_refuses 242 = .ok (.ldc 76, 2) := by decide +kernel
theorem dL_refuses_244 : decode cL_refuses 244 = .ok (.if_icmp .ne 289, 3) := by decide +kernel
theorem dL_refuses_247 : decode cL_refuses 247 = .ok (.aload_n 0, 1) := by decide +kernel
theorem dL_refuses_248 : decode cL_refuses 248 = .ok (.iconst 2, 1) := by decide +kernel
theorem dL_refuses_249 : decode cL_refuses 249 = .ok (.iconst 1, 1) := by decide +kernel
theorem dL_refuses_250 : decode cL_refuses 250 = .ok (.iload 6, 2) := by decide +kernel
theorem dL_refuses_252 : decode cL_refuses 252 = .ok (.iconst 1, 1) := by decide +kernel
theorem dL_refuses_253 : decode cL_refuses 253 = .ok (.if_icmp .ne 8, 3) := by decide +kernel
theorem dL_refuses_256 : decode cL_refuses 256 = .ok (.bipush 11, 2) := by decide +kernel
theorem dL_refuses_258 : decode cL_refuses 258 = .ok (.goto 5, 3) := by decide +kernel
theorem dL_refuses_261 : decode cL_refuses 261 = .ok (.iload 7, 2) := by decide +kernel
theorem dL_refuses_263 : decode cL_refuses 263 = .ok (.iconst 0, 1) := by decide +kernel
theorem dL_refuses_264 : decode cL_refuses 264 = .ok (.invokestatic 81, 3) := by decide +kernel
theorem dL_refuses_267 : decode cL_refuses 267 = .ok (.ldc 76, 2) := by decide +kernel
theorem dL_refuses_269 : decode cL_refuses 269 = .ok (.if_icmp .ne 264, 3) := by decide +kernel
theorem dL_refuses_272 : decode cL_refuses 272 = .ok (.aload_n 0, 1) := by decide +kernel
theorem dL_refuses_273 : decode cL_refuses 273 = .ok (.iconst 3, 1) := by decide +kernel
theorem dL_refuses_274 : decode cL_refuses 274 = .ok (.iload 12, 2) := by decide +kernel
theorem dL_refuses_276 : decode cL_refuses 276 = .ok (.iconst 0, 1) := by decide +kernel
theorem dL_refuses_277 : decode cL_refuses 277 = .ok (.iconst 0, 1) := by decide +kernel
theorem dL_refuses_278 : decode cL_refuses 278 = .ok (.invokestatic 81, 3) := by decide +kernel
theorem dL_refuses_281 : decode cL_refuses 281 = .ok (.ldc 76, 2) := by decide +kernel
theorem dL_refuses_283 : decode cL_refuses 283 = .ok (.if_icmp .ne 250, 3) := by decide +kernel
theorem dL_refuses_286 : decode cL_refuses 286 = .ok (.aload_n 0, 1) := by decide +kernel
theorem dL_refuses_287 : decode cL_refuses 287 = .ok (.iconst 3, 1) := by decide +kernel
theorem dL_refuses_288 : decode cL_refuses 288 = .ok (.iconst 1, 1) := by decide +kernel
theorem dL_refuses_289 : decode cL_refuses 289 = .ok (.iload 6, 2) := by decide +kernel
theorem dL_refuses_291 : decode cL_refuses 291 = .ok (.iconst 1, 1) := by decide +kernel
theorem dL_refuses_292 : decode cL_refuses 292 = .ok (.if_icmp .ne 7, 3) := by decide +kernel
theorem dL_refuses_295 : decode cL_refuses 295 = .ok (.iconst 2, 1) := by decide +kernel
theorem dL_refuses_296 : decode cL_refuses 296 = .ok (.goto 5, 3) := by decide +kernel
theorem dL_refuses_299 : decode cL_refuses 299 = .ok (.iload 7, 2) := by decide +kernel
theorem dL_refuses_301 : decode cL_refuses 301 = .ok (.iconst 0, 1) := by decide +kernel
theorem dL_refuses_302 : decode cL_refuses 302 = .ok (.invokestatic 81, 3) := by decide +kernel
theorem dL_refuses_305 : decode cL_refuses 305 = .ok (.ldc 76, 2) := by decide +kernel
theorem dL_refuses_307 : decode cL_refuses 307 = .ok (.if_icmp .ne 226, 3) := by decide +kernel
theorem dL_refuses_310 : decode cL_refuses 310 = .ok (.aload_n 0, 1) := by decide +kernel
theorem dL_refuses_311 : decode cL_refuses 311 = .ok (.iconst 4, 1) := by decide +kernel
theorem dL_refuses_312 : decode cL_refuses 312 = .ok (.iload 8, 2) := by decide +kernel
theorem dL_refuses_314 : decode cL_refuses 314 = .ok (.iconst 0, 1) := by decide +kernel
theorem dL_refuses_315 : decode cL_refuses 315 = .ok (.iconst 0, 1) := by decide +kernel
theorem dL_refuses_316 : decode cL_refuses 316 = .ok (.invokestatic 81, 3) := by decide +kernel
theorem dL_refuses_319 : decode cL_refuses 319 = .ok (.ldc 73, 2) := by decide +kernel
theorem dL_refuses_321 : decode cL_refuses 321 = .ok (.if_icmp .ne 212, 3) := by decide +kernel
theorem dL_refuses_324 : decode cL_refuses 324 = .ok (.aload_n 0, 1) := by decide +kernel
theorem dL_refuses_325 : decode cL_refuses 325 = .ok (.iconst 4, 1) := by decide +kernel
theorem dL_refuses_326 : decode cL_refuses 326 = .ok (.iconst 0, 1) := by decide +kernel
theorem dL_refuses_327 : decode cL_refuses 327 = .ok (.iload 11, 2) := by decide +kernel
theorem dL_refuses_329 : decode cL_refuses 329 = .ok (.iconst 0, 1) := by decide +kernel
theorem dL_refuses_330 : decode cL_refuses 330 = .ok (.invokestatic 81, 3) := by decide +kernel
theorem dL_refuses_333 : decode cL_refuses 333 = .ok (.ldc 73, 2) := by decide +kernel
theorem dL_refuses_335 : decode cL_refuses 335 = .ok (.if_icmp .ne 198, 3) := by decide +kernel
theorem dL_refuses_338 : decode cL_refuses 338 = .ok (.aload_n 0, 1) := by decide +kernel
theorem dL_refuses_339 : decode cL_refuses 339 = .ok (.iconst 5, 1) := by decide +kernel
theorem dL_refuses_340 : decode cL_refuses 340 = .ok (.iload 8, 2) := by decide +kernel
theorem dL_refuses_342 : decode cL_refuses 342 = .ok (.iconst 0, 1) := by decide +kernel
theorem dL_refuses_343 : decode cL_refuses 343 = .ok (.sipush 999, 3) := by decide +kernel
theorem dL_refuses_346 : decode cL_refuses 346 = .ok (.invokestatic 81, 3) := by decide +kernel
theorem dL_refuses_349 : decode cL_refuses 349 = .ok (.ldc 73, 2) := by decide +kernel
theorem dL_refuses_351 : decode cL_refuses 351 = .ok (.if_icmp .ne 182, 3) := by decide +kernel
theorem dL_refuses_354 : decode cL_refuses 354 = .ok (.aload_n 0, 1) := by decide +kernel
theorem dL_refuses_355 : decode cL_refuses 355 = .ok (.iconst 5, 1) := by decide +kernel
theorem dL_refuses_356 : decode cL_refuses 356 = .ok (.iconst 0, 1) := by decide +kernel
theorem dL_refuses_357 : decode cL_refuses 357 = .ok (.iload 11, 2) := by decide +kernel
theorem dL_refuses_359 : decode cL_refuses 359 = .ok (.sipush 999, 3) := by decide +kernel
theorem dL_refuses_362 : decode cL_refuses 362 = .ok (.invokestatic 81, 3) := by decide +kernel
theorem dL_refuses_365 : decode cL_refuses 365 = .ok (.ldc 73, 2) := by decide +kernel
theorem dL_refuses_367 : decode cL_refuses 367 = .ok (.if_icmp .ne 166, 3) := by decide +kernel
theorem dL_refuses_370 : decode cL_refuses 370 = .ok (.aload_n 0, 1) := by decide +kernel
theorem dL_refuses_371 : decode cL_refuses 371 = .ok (.bipush 6, 2) := by decide +kernel
theorem dL_refuses_373 : decode cL_refuses 373 = .ok (.iload 8, 2) := by decide +kernel
theorem dL_refuses_375 : decode cL_refuses 375 = .ok (.bipush 9, 2) := by decide +kernel
theorem dL_refuses_377 : decode cL_refuses 377 = .ok (.iconst 0, 1) := by decide +kernel
theorem dL_refuses_378 : decode cL_refuses 378 = .ok (.invokestatic 81, 3) := by decide +kernel
theorem dL_refuses_381 : decode cL_refuses 381 = .ok (.ldc 73, 2) := by decide +kernel
theorem dL_refuses_383 : decode cL_refuses 383 = .ok (.if_icmp .ne 150, 3) := by decide +kernel
theorem dL_refuses_386 : decode cL_refuses 386 = .ok (.aload_n 0, 1) := by decide +kernel
theorem dL_refuses_387 : decode cL_refuses 387 = .ok (.bipush 7, 2) := by decide +kernel
theorem dL_refuses_389 : decode cL_refuses 389 = .ok (.iload 8, 2) := by decide +kernel
theorem dL_refuses_391 : decode cL_refuses 391 = .ok (.iconst 0, 1) := by decide +kernel
theorem dL_refuses_392 : decode cL_refuses 392 = .ok (.iconst 0, 1) := by decide +kernel
theorem dL_refuses_393 : decode cL_refuses 393 = .ok (.invokestatic 81, 3) := by decide +kernel
theorem dL_refuses_396 : decode cL_refuses 396 = .ok (.ldc 73, 2) := by decide +kernel
theorem dL_refuses_398 : decode cL_refuses 398 = .ok (.if_icmp .ne 135, 3) := by decide +kernel
theorem dL_refuses_401 : decode cL_refuses 401 = .ok (.aload_n 0, 1) := by decide +kernel
theorem dL_refuses_402 : decode cL_refuses 402 = .ok (.bipush 7, 2) := by decide +kernel
theorem dL_refuses_404 : decode cL_refuses 404 = .ok (.iconst 0, 1) := by decide +kernel
theorem dL_refuses_405 : decode cL_refuses 405 = .ok (.iload 6, 2) := by decide +kernel
theorem dL_refuses_407 : decode cL_refuses 407 = .ok (.iconst 1, 1) := by decide +kernel
theorem dL_refuses_408 : decode cL_refuses 408 = .ok (.if_icmp .ne 8, 3) := by decide +kernel
theorem dL_refuses_411 : decode cL_refuses 411 = .ok (.bipush 12, 2) := by decide +kernel
theorem dL_refuses_413 : decode cL_refuses 413 = .ok (.goto 5, 3) := by decide +kernel
theorem dL_refuses_416 : decode cL_refuses 416 = .ok (.iload 7, 2) := by decide +kernel
theorem dL_refuses_418 : decode cL_refuses 418 = .ok (.iconst 0, 1) := by decide +kernel
theorem dL_refuses_419 : decode cL_refuses 419 = .ok (.invokestatic 81, 3) := by decide +kernel
theorem dL_refuses_422 : decode cL_refuses 422 = .ok (.ldc 73, 2) := by decide +kernel
theorem dL_refuses_424 : decode cL_refuses 424 = .ok (.if_icmp .ne 109, 3) := by decide +kernel
theorem dL_refuses_427 : decode cL_refuses 427 = .ok (.aload_n 0, 1) := by decide +kernel
theorem dL_refuses_428 : decode cL_refuses 428 = .ok (.bipush 7, 2) := by decide +kernel
theorem dL_refuses_430 : decode cL_refuses 430 = .ok (.iconst 0, 1) := by decide +kernel
theorem dL_refuses_431 : decode cL_refuses 431 = .ok (.iconst 0, 1) := by decide +kernel
theorem dL_refuses_432 : decode cL_refuses 432 = .ok (.iload 6, 2) := by decide +kernel
theorem dL_refuses_434 : decode cL_refuses 434 = .ok (.iconst 1, 1) := by decide +kernel
theorem dL_refuses_435 : decode cL_refuses 435 = .ok (.if_icmp .ne 8, 3) := by decide +kernel
theorem dL_refuses_438 : decode cL_refuses 438 = .ok (.bipush (-2), 2) := by decide +kernel
theorem dL_refuses_440 : decode cL_refuses 440 = .ok (.goto 15, 3) := by decide +kernel
theorem dL_refuses_443 : decode cL_refuses 443 = .ok (.iload 6, 2) := by decide +kernel
theorem dL_refuses_445 : decode cL_refuses 445 = .ok (.iconst 2, 1) := by decide +kernel
theorem dL_refuses_446 : decode cL_refuses 446 = .ok (.if_icmp .ne 7, 3) := by decide +kernel
theorem dL_refuses_449 : decode cL_refuses 449 = .ok (.iconst (-1), 1) := by decide +kernel
theorem dL_refuses_450 : decode cL_refuses 450 = .ok (.goto 5, 3) := by decide +kernel
theorem dL_refuses_453 : decode cL_refuses 453 = .ok (.iload 7, 2) := by decide +kernel
theorem dL_refuses_455 : decode cL_refuses 455 = .ok (.invokestatic 81, 3) := by decide +kernel
theorem dL_refuses_458 : decode cL_refuses 458 = .ok (.ldc 73, 2) := by decide +kernel
theorem dL_refuses_460 : decode cL_refuses 460 = .ok (.if_icmp .ne 73, 3) := by decide +kernel
theorem dL_refuses_463 : decode cL_refuses 463 = .ok (.aload_n 0, 1) := by decide +kernel
theorem dL_refuses_464 : decode cL_refuses 464 = .ok (.bipush 8, 2) := by decide +kernel
theorem dL_refuses_466 : decode cL_refuses 466 = .ok (.iload 10, 2) := by decide +kernel
theorem dL_refuses_468 : decode cL_refuses 468 = .ok (.iconst 0, 1) := by decide +kernel
theorem dL_refuses_469 : decode cL_refuses 469 = .ok (.iconst 0, 1) := by decide +kernel
theorem dL_refuses_470 : decode cL_refuses 470 = .ok (.invokestatic 81, 3) := by decide +kernel
theorem dL_refuses_473 : decode cL_refuses 473 = .ok (.ldc 73, 2) := by decide +kernel
theorem dL_refuses_475 : decode cL_refuses 475 = .ok (.if_icmp .ne 58, 3) := by decide +kernel
theorem dL_refuses_478 : decode cL_refuses 478 = .ok (.aload_n 0, 1) := by decide +kernel
theorem dL_refuses_479 : decode cL_refuses 479 = .ok (.bipush 8, 2) := by decide +kernel
theorem dL_refuses_481 : decode cL_refuses 481 = .ok (.iconst 0, 1) := by decide +kernel
theorem dL_refuses_482 : decode cL_refuses 482 = .ok (.iload 8, 2) := by decide +kernel
theorem dL_refuses_484 : decode cL_refuses 484 = .ok (.iconst 0, 1) := by decide +kernel
theorem dL_refuses_485 : decode cL_refuses 485 = .ok (.invokestatic 81, 3) := by decide +kernel
theorem dL_refuses_488 : decode cL_refuses 488 = .ok (.ldc 73, 2) := by decide +kernel
theorem dL_refuses_490 : decode cL_refuses 490 = .ok (.if_icmp .ne 43, 3) := by decide +kernel
theorem dL_refuses_493 : decode cL_refuses 493 = .ok (.aload_n 0, 1) := by decide +kernel
theorem dL_refuses_494 : decode cL_refuses 494 = .ok (.bipush 9, 2) := by decide +kernel
theorem dL_refuses_496 : decode cL_refuses 496 = .ok (.iload 6, 2) := by decide +kernel
theorem dL_refuses_498 : decode cL_refuses 498 = .ok (.ifCond .ne 7, 3) := by decide +kernel
theorem dL_refuses_501 : decode cL_refuses 501 = .ok (.iconst 0, 1) := by decide +kernel
theorem dL_refuses_502 : decode cL_refuses 502 = .ok (.goto 17, 3) := by decide +kernel
theorem dL_refuses_505 : decode cL_refuses 505 = .ok (.iload 6, 2) := by decide +kernel
theorem dL_refuses_507 : decode cL_refuses 507 = .ok (.iconst 1, 1) := by decide +kernel
theorem dL_refuses_508 : decode cL_refuses 508 = .ok (.if_icmp .ne 9, 3) := by decide +kernel
theorem dL_refuses_511 : decode cL_refuses 511 = .ok (.sipush 301, 3) := by decide +kernel
theorem dL_refuses_514 : decode cL_refuses 514 = .ok (.goto 5, 3) := by decide +kernel
theorem dL_refuses_517 : decode cL_refuses 517 = .ok (.iload 7, 2) := by decide +kernel
theorem dL_refuses_519 : decode cL_refuses 519 = .ok (.iconst 0, 1) := by decide +kernel
theorem dL_refuses_520 : decode cL_refuses 520 = .ok (.iconst 0, 1) := by decide +kernel
theorem dL_refuses_521 : decode cL_refuses 521 = .ok (.invokestatic 81, 3) := by decide +kernel
theorem dL_refuses_524 : decode cL_refuses 524 = .ok (.ldc 76, 2) := by decide +kernel
theorem dL_refuses_526 : decode cL_refuses 526 = .ok (.if_icmp .ne 7, 3) := by decide +kernel
theorem dL_refuses_529 : decode cL_refuses 529 = .ok (.iconst 1, 1) := by decide +kernel
theorem dL_refuses_530 : decode cL_refuses 530 = .ok (.goto 4, 3) := by decide +kernel
theorem dL_refuses_533 : decode cL_refuses 533 = .ok (.iconst 0, 1) := by decide +kernel
theorem dL_refuses_534 : decode cL_refuses 534 = .ok (.istore 13, 2) := by decide +kernel
theorem dL_refuses_536 : decode cL_refuses 536 = .ok (.iload 13, 2) := by decide +kernel
theorem dL_refuses_538 : decode cL_refuses 538 = .ok (.ifCond .eq 191, 3) := by decide +kernel
theorem dL_refuses_541 : decode cL_refuses 541 = .ok (.aload_n 0, 1) := by decide +kernel
theorem dL_refuses_542 : decode cL_refuses 542 = .ok (.bipush 10, 2) := by decide +kernel
theorem dL_refuses_544 : decode cL_refuses 544 = .ok (.iload 8, 2) := by decide +kernel
theorem dL_refuses_546 : decode cL_refuses 546 = .ok (.iconst 0, 1) := by decide +kernel
theorem dL_refuses_547 : decode cL_refuses 547 = .ok (.iconst 0, 1) := by decide +kernel
theorem dL_refuses_548 : decode cL_refuses 548 = .ok (.invokestatic 81, 3) := by decide +kernel
theorem dL_refuses_551 : decode cL_refuses 551 = .ok (.ldc 73, 2) := by decide +kernel
theorem dL_refuses_553 : decode cL_refuses 553 = .ok (.if_icmp .ne 176, 3) := by decide +kernel
theorem dL_refuses_556 : decode cL_refuses 556 = .ok (.aload_n 0, 1) := by decide +kernel
theorem dL_refuses_557 : decode cL_refuses 557 = .ok (.bipush 11, 2) := by decide +kernel
theorem dL_refuses_559 : decode cL_refuses 559 = .ok (.iload 9, 2) := by decide +kernel
theorem dL_refuses_561 : decode cL_refuses 561 = .ok (.bipush 9, 2) := by decide +kernel
theorem dL_refuses_563 : decode cL_refuses 563 = .ok (.iconst 0, 1) := by decide +kernel
theorem dL_refuses_564 : decode cL_refuses 564 = .ok (.invokestatic 81, 3) := by decide +kernel
theorem dL_refuses_567 : decode cL_refuses 567 = .ok (.ldc 73, 2) := by decide +kernel
theorem dL_refuses_569 : decode cL_refuses 569 = .ok (.if_icmp .ne 160, 3) := by decide +kernel
theorem dL_refuses_572 : decode cL_refuses 572 = .ok (.aload_n 0, 1) := by decide +kernel
theorem dL_refuses_573 : decode cL_refuses 573 = .ok (.bipush 12, 2) := by decide +kernel
theorem dL_refuses_575 : decode cL_refuses 575 = .ok (.iload 9, 2) := by decide +kernel
theorem dL_refuses_577 : decode cL_refuses 577 = .ok (.iconst 0, 1) := by decide +kernel
theorem dL_refuses_578 : decode cL_refuses 578 = .ok (.iconst 0, 1) := by decide +kernel
theorem dL_refuses_579 : decode cL_refuses 579 = .ok (.invokestatic 81, 3) := by decide +kernel
theorem dL_refuses_582 : decode cL_refuses 582 = .ok (.ldc 73, 2) := by decide +kernel
theorem dL_refuses_584 : decode cL_refuses 584 = .ok (.if_icmp .ne 145, 3) := by decide +kernel
theorem dL_refuses_587 : decode cL_refuses 587 = .ok (.aload_n 0, 1) := by decide +kernel
theorem dL_refuses_588 : decode cL_refuses 588 = .ok (.bipush 12, 2) := by decide +kernel
theorem dL_refuses_590 : decode cL_refuses 590 = .ok (.iconst 0, 1) := by decide +kernel
theorem dL_refuses_591 : decode cL_refuses 591 = .ok (.iload 9, 2) := by decide +kernel
theorem dL_refuses_593 : decode cL_refuses 593 = .ok (.iconst 0, 1) := by decide +kernel
theorem dL_refuses_594 : decode cL_refuses 594 = .ok (.invokestatic 81, 3) := by decide +kernel
theorem dL_refuses_597 : decode cL_refuses 597 = .ok (.ldc 73, 2) := by decide +kernel
theorem dL_refuses_599 : decode cL_refuses 599 = .ok (.if_icmp .ne 130, 3) := by decide +kernel
theorem dL_refuses_602 : decode cL_refuses 602 = .ok (.aload_n 0, 1) := by decide +kernel
theorem dL_refuses_603 : decode cL_refuses 603 = .ok (.bipush 13, 2) := by decide +kernel
theorem dL_refuses_605 : decode cL_refuses 605 = .ok (.iload 6, 2) := by decide +kernel
theorem dL_refuses_607 : decode cL_refuses 607 = .ok (.ifCond .ne 8, 3) := by decide +kernel
theorem dL_refuses_610 : decode cL_refuses 610 = .ok (.bipush (-2), 2) := by decide +kernel
theorem dL_refuses_612 : decode cL_refuses 612 = .ok (.goto 17, 3) := by decide +kernel
theorem dL_refuses_615 : decode cL_refuses 615 = .ok (.iload 6, 2) := by decide +kernel
theorem dL_refuses_617 : decode cL_refuses 617 = .ok (.iconst 1, 1) := by decide +kernel
theorem dL_refuses_618 : decode cL_refuses 618 = .ok (.if_icmp .ne 9, 3) := by decide +kernel
theorem dL_refuses_621 : decode cL_refuses 621 = .ok (.sipush 10000, 3) := by decide +kernel
theorem dL_refuses_624 : decode cL_refuses 624 = .ok (.goto 5, 3) := by decide +kernel
theorem dL_refuses_627 : decode cL_refuses 627 = .ok (.iload 7, 2) := by decide +kernel
theorem dL_refuses_629 : decode cL_refuses 629 = .ok (.iconst 0, 1) := by decide +kernel
theorem dL_refuses_630 : decode cL_refuses 630 = .ok (.iconst 0, 1) := by decide +kernel
theorem dL_refuses_631 : decode cL_refuses 631 = .ok (.invokestatic 81, 3) := by decide +kernel
theorem dL_refuses_634 : decode cL_refuses 634 = .ok (.ldc 76, 2) := by decide +kernel
theorem dL_refuses_636 : decode cL_refuses 636 = .ok (.if_icmp .ne 93, 3) := by decide +kernel
theorem dL_refuses_639 : decode cL_refuses 639 = .ok (.aload_n 0, 1) := by decide +kernel
theorem dL_refuses_640 : decode cL_refuses 640 = .ok (.bipush 14, 2) := by decide +kernel
theorem dL_refuses_642 : decode cL_refuses 642 = .ok (.iload 10, 2) := by decide +kernel
theorem dL_refuses_644 : decode cL_refuses 644 = .ok (.iconst 0, 1) := by decide +kernel
theorem dL_refuses_645 : decode cL_refuses 645 = .ok (.bipush 9, 2) := by decide +kernel
theorem dL_refuses_647 : decode cL_refuses 647 = .ok (.invokestatic 81, 3) := by decide +kernel
theorem dL_refuses_650 : decode cL_refuses 650 = .ok (.ldc 73, 2) := by decide +kernel
theorem dL_refuses_652 : decode cL_refuses 652 = .ok (.if_icmp .ne 77, 3) := by decide +kernel
theorem dL_refuses_655 : decode cL_refuses 655 = .ok (.aload_n 0, 1) := by decide +kernel
theorem dL_refuses_656 : decode cL_refuses 656 = .ok (.bipush 14, 2) := by decide +kernel
theorem dL_refuses_658 : decode cL_refuses 658 = .ok (.iconst 0, 1) := by decide +kernel
theorem dL_refuses_659 : decode cL_refuses 659 = .ok (.iconst 0, 1) := by decide +kernel
theorem dL_refuses_660 : decode cL_refuses 660 = .ok (.iload 6, 2) := by decide +kernel
theorem dL_refuses_662 : decode cL_refuses 662 = .ok (.iconst 1, 1) := by decide +kernel
theorem dL_refuses_663 : decode cL_refuses 663 = .ok (.if_icmp .ne 7, 3) := by decide +kernel
theorem dL_refuses_666 : decode cL_refuses 666 = .ok (.iconst 5, 1) := by decide +kernel
theorem dL_refuses_667 : decode cL_refuses 667 = .ok (.goto 5, 3) := by decide +kernel
theorem dL_refuses_670 : decode cL_refuses 670 = .ok (.iload 7, 2) := by decide +kernel
theorem dL_refuses_672 : decode cL_refuses 672 = .ok (.invokestatic 81, 3) := by decide +kernel
theorem dL_refuses_675 : decode cL_refuses 675 = .ok (.ldc 76, 2) := by decide +kernel
theorem dL_refuses_677 : decode cL_refuses 677 = .ok (.if_icmp .ne 52, 3) := by decide +kernel
theorem dL_refuses_680 : decode cL_refuses 680 = .ok (.aload_n 0, 1) := by decide +kernel
theorem dL_refuses_681 : decode cL_refuses 681 = .ok (.bipush 15, 2) := by decide +kernel
theorem dL_refuses_683 : decode cL_refuses 683 = .ok (.iload 10, 2) := by decide +kernel
theorem dL_refuses_685 : decode cL_refuses 685 = .ok (.iconst 0, 1) := by decide +kernel
theorem dL_refuses_686 : decode cL_refuses 686 = .ok (.iconst 0, 1) := by decide +kernel
theorem dL_refuses_687 : decode cL_refuses 687 = .ok (.invokestatic 81, 3) := by decide +kernel
theorem dL_refuses_690 : decode cL_refuses 690 = .ok (.ldc 73, 2) := by decide +kernel
theorem dL_refuses_692 : decode cL_refuses 692 = .ok (.if_icmp .ne 37, 3) := by decide +kernel
theorem dL_refuses_695 : decode cL_refuses 695 = .ok (.aload_n 0, 1) := by decide +kernel
theorem dL_refuses_696 : decode cL_refuses 696 = .ok (.bipush 16, 2) := by decide +kernel
theorem dL_refuses_698 : decode cL_refuses 698 = .ok (.iload 10, 2) := by decide +kernel
theorem dL_refuses_700 : decode cL_refuses 700 = .ok (.iconst 0, 1) := by decide +kernel
theorem dL_refuses_701 : decode cL_refuses 701 = .ok (.iconst 0, 1) := by decide +kernel
theorem dL_refuses_702 : decode cL_refuses 702 = .ok (.invokestatic 81, 3) := by decide +kernel
theorem dL_refuses_705 : decode cL_refuses 705 = .ok (.ldc 73, 2) := by decide +kernel
theorem dL_refuses_707 : decode cL_refuses 707 = .ok (.if_icmp .ne 22, 3) := by decide +kernel
theorem dL_refuses_710 : decode cL_refuses 710 = .ok (.aload_n 0, 1) := by decide +kernel
theorem dL_refuses_711 : decode cL_refuses 711 = .ok (.bipush 16, 2) := by decide +kernel
theorem dL_refuses_713 : decode cL_refuses 713 = .ok (.iconst 0, 1) := by decide +kernel
theorem dL_refuses_714 : decode cL_refuses 714 = .ok (.iload 9, 2) := by decide +kernel
theorem dL_refuses_716 : decode cL_refuses 716 = .ok (.iconst 0, 1) := by decide +kernel
theorem dL_refuses_717 : decode cL_refuses 717 = .ok (.invokestatic 81, 3) := by decide +kernel
theorem dL_refuses_720 : decode cL_refuses 720 = .ok (.ldc 73, 2) := by decide +kernel
theorem dL_refuses_722 : decode cL_refuses 722 = .ok (.if_icmp .ne 7, 3) := by decide +kernel
theorem dL_refuses_725 : decode cL_refuses 725 = .ok (.iconst 1, 1) := by decide +kernel
theorem dL_refuses_726 : decode cL_refuses 726 = .ok (.goto 4, 3) := by decide +kernel
theorem dL_refuses_729 : decode cL_refuses 729 = .ok (.iconst 0, 1) := by decide +kernel
theorem dL_refuses_730 : decode cL_refuses 730 = .ok (.istore 13, 2) := by decide +kernel
theorem dL_refuses_732 : decode cL_refuses 732 = .ok (.iload 13, 2) := by decide +kernel
theorem dL_refuses_734 : decode cL_refuses 734 = .ok (.ifCond .eq 91, 3) := by decide +kernel
theorem dL_refuses_737 : decode cL_refuses 737 = .ok (.iload_n 1, 1) := by decide +kernel
theorem dL_refuses_738 : decode cL_refuses 738 = .ok (.ifCond .eq 53, 3) := by decide +kernel
theorem dL_refuses_741 : decode cL_refuses 741 = .ok (.aload_n 0, 1) := by decide +kernel
theorem dL_refuses_742 : decode cL_refuses 742 = .ok (.iconst 5, 1) := by decide +kernel
theorem dL_refuses_743 : decode cL_refuses 743 = .ok (.iconst 0, 1) := by decide +kernel
theorem dL_refuses_744 : decode cL_refuses 744 = .ok (.iconst 0, 1) := by decide +kernel
theorem dL_refuses_745 : decode cL_refuses 745 = .ok (.iload 6, 2) := by decide +kernel
theorem dL_refuses_747 : decode cL_refuses 747 = .ok (.iconst 1, 1) := by decide +kernel
theorem dL_refuses_748 : decode cL_refuses 748 = .ok (.if_icmp .ne 8, 3) := by decide +kernel
theorem dL_refuses_751 : decode cL_refuses 751 = .ok (.bipush 101, 2) := by decide +kernel
theorem dL_refuses_753 : decode cL_refuses 753 = .ok (.goto 5, 3) := by decide +kernel
theorem dL_refuses_756 : decode cL_refuses 756 = .ok (.iload 7, 2) := by decide +kernel
theorem dL_refuses_758 : decode cL_refuses 758 = .ok (.invokestatic 81, 3) := by decide +kernel
theorem dL_refuses_761 : decode cL_refuses 761 = .ok (.ldc 76, 2) := by decide +kernel
theorem dL_refuses_763 : decode cL_refuses 763 = .ok (.if_icmp .ne 62, 3) := by decide +kernel
theorem dL_refuses_766 : decode cL_refuses 766 = .ok (.aload_n 0, 1) := by decide +kernel
theorem dL_refuses_767 : decode cL_refuses 767 = .ok (.bipush 6, 2) := by decide +kernel
theorem dL_refuses_769 : decode cL_refuses 769 = .ok (.iconst 0, 1) := by decide +kernel
theorem dL_refuses_770 : decode cL_refuses 770 = .ok (.iload 6, 2) := by decide +kernel
theorem dL_refuses_772 : decode cL_refuses 772 = .ok (.iconst 1, 1) := by decide +kernel
theorem dL_refuses_773 : decode cL_refuses 773 = .ok (.if_icmp .ne 7, 3) := by decide +kernel
theorem dL_refuses_776 : decode cL_refuses 776 = .ok (.iconst 2, 1) := by decide +kernel
theorem dL_refuses_777 : decode cL_refuses 777 = .ok (.goto 5, 3) := by decide +kernel
theorem dL_refuses_780 : decode cL_refuses 780 = .ok (.iload 7, 2) := by decide +kernel
theorem dL_refuses_782 : decode cL_refuses 782 = .ok (.iconst 0, 1) := by decide +kernel
theorem dL_refuses_783 : decode cL_refuses 783 = .ok (.invokestatic 81, 3) := by decide +kernel
theorem dL_refuses_786 : decode cL_refuses 786 = .ok (.ldc 76, 2) := by decide +kernel
theorem dL_refuses_788 : decode cL_refuses 788 = .ok (.if_icmp .ne 37, 3) := by decide +kernel
theorem dL_refuses_791 : decode cL_refuses 791 = .ok (.iload_n 2, 1) := by decide +kernel
theorem dL_refuses_792 : decode cL_refuses 792 = .ok (.ifCond .eq 29, 3) := by decide +kernel
theorem dL_refuses_795 : decode cL_refuses 795 = .ok (.aload_n 0, 1) := by decide +kernel
theorem dL_refuses_796 : decode cL_refuses 796 = .ok (.bipush 11, 2) := by decide +kernel
theorem dL_refuses_798 : decode cL_refuses 798 = .ok (.iconst 0, 1) := by decide +kernel
theorem dL_refuses_799 : decode cL_refuses 799 = .ok (.iload 6, 2) := by decide +kernel
theorem dL_refuses_801 : decode cL_refuses 801 = .ok (.iconst 1, 1) := by decide +kernel
theorem dL_refuses_802 : decode cL_refuses 802 = .ok (.if_icmp .ne 8, 3) := by decide +kernel
theorem dL_refuses_805 : decode cL_refuses 805 = .ok (.bipush 7, 2) := by decide +kernel
theorem dL_refuses_807 : decode cL_refuses 807 = .ok (.goto 5, 3) := by decide +kernel
theorem dL_refuses_810 : decode cL_refuses 810 = .ok (.iload 7, 2) := by decide +kernel
theorem dL_refuses_812 : decode cL_refuses 812 = .ok (.iconst 0, 1) := by decide +kernel
theorem dL_refuses_813 : decode cL_refuses 813 = .ok (.invokestatic 81, 3) := by decide +kernel
theorem dL_refuses_816 : decode cL_refuses 816 = .ok (.ldc 76, 2) := by decide +kernel
theorem dL_refuses_818 : decode cL_refuses 818 = .ok (.if_icmp .ne 7, 3) := by decide +kernel
theorem dL_refuses_821 : decode cL_refuses 821 = .ok (.iconst 1, 1) := by decide +kernel
theorem dL_refuses_822 : decode cL_refuses 822 = .ok (.goto 4, 3) := by decide +kernel
theorem dL_refuses_825 : decode cL_refuses 825 = .ok (.iconst 0, 1) := by decide +kernel
theorem dL_refuses_826 : decode cL_refuses 826 = .ok (.istore 13, 2) := by decide +kernel
theorem dL_refuses_828 : decode cL_refuses 828 = .ok (.iload 13, 2) := by decide +kernel
theorem dL_refuses_830 : decode cL_refuses 830 = .ok (.ifCond .ne 5, 3) := by decide +kernel
theorem dL_refuses_833 : decode cL_refuses 833 = .ok (.iconst 0, 1) := by decide +kernel
theorem dL_refuses_834 : decode cL_refuses 834 = .ok (.ireturn, 1) := by decide +kernel
theorem dL_refuses_835 : decode cL_refuses 835 = .ok (.iinc 6 1, 3) := by decide +kernel
theorem dL_refuses_838 : decode cL_refuses 838 = .ok (.goto (-813), 3) := by decide +kernel
theorem dL_refuses_841 : decode cL_refuses 841 = .ok (.aload_n 0, 1) := by decide +kernel
theorem dL_refuses_842 : decode cL_refuses 842 = .ok (.iconst 3, 1) := by decide +kernel
theorem dL_refuses_843 : decode cL_refuses 843 = .ok (.iconst 1, 1) := by decide +kernel
theorem dL_refuses_844 : decode cL_refuses 844 = .ok (.iconst 0, 1) := by decide +kernel
theorem dL_refuses_845 : decode cL_refuses 845 = .ok (.invokevirtual 60, 3) := by decide +kernel
theorem dL_refuses_848 : decode cL_refuses 848 = .ok (.iload 4, 2) := by decide +kernel
theorem dL_refuses_850 : decode cL_refuses 850 = .ok (.if_icmp .ne 20, 3) := by decide +kernel
theorem dL_refuses_853 : decode cL_refuses 853 = .ok (.aload_n 0, 1) := by decide +kernel
theorem dL_refuses_854 : decode cL_refuses 854 = .ok (.sipush 500, 3) := by decide +kernel
theorem dL_refuses_857 : decode cL_refuses 857 = .ok (.iconst 1, 1) := by decide +kernel
theorem dL_refuses_858 : decode cL_refuses 858 = .ok (.invokevirtual 21, 3) := by decide +kernel
theorem dL_refuses_861 : decode cL_refuses 861 = .ok (.iload 5, 2) := by decide +kernel
theorem dL_refuses_863 : decode cL_refuses 863 = .ok (.if_icmp .ne 7, 3) := by decide +kernel
theorem dL_refuses_866 : decode cL_refuses 866 = .ok (.iconst 1, 1) := by decide +kernel
theorem dL_refuses_867 : decode cL_refuses 867 = .ok (.goto 4, 3) := by decide +kernel
theorem dL_refuses_870 : decode cL_refuses 870 = .ok (.iconst 0, 1) := by decide +kernel
theorem dL_refuses_871 : decode cL_refuses 871 = .ok (.ireturn, 1) := by decide +kernel
