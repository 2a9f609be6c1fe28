theorem dL_tables_0 : decode cL_tables 0 = .ok (.new 8, 3) := by decide +kernel
theorem dL_tables_3 : decode cL_tables 3 = .ok (.dup, 1) := by decide +kernel
theorem dL_tables_4 : decode cL_tables 4 = .ok (.invokespecial 85, 3) := by decide +kernel
theorem dL_tables_7 : decode cL_tables 7 = .ok (.astore_n 0, 1) := by decide +kernel
theorem dL_tables_8 : decode cL_tables 8 = .ok (.aload_n 0, 1) := by decide +kernel
theorem dL_tables_9 : decode cL_tables 9 = .ok (.iconst 3, 1) := by decide +kernel
theorem dL_tables_10 : decode cL_tables 10 = .ok (.iconst 0, 1) := by decide +kernel
theorem dL_tables_11 : decode cL_tables 11 = .ok (.invokevirtual 24, 3) := by decide +kernel
theorem dL_tables_14 : decode cL_tables 14 = .ok (.ifCond .ne 148, 3) := by decide +kernel
theorem dL_tables_17 : decode cL_tables 17 = .ok (.aload_n 0, 1) := by decide +kernel
theorem dL_tables_18 : decode cL_tables 18 = .ok (.iconst 0, 1) := by decide +kernel
theorem dL_tables_19 : decode cL_tables 19 = .ok (.iconst 3, 1) := by decide +kernel
theorem dL_tables_20 : decode cL_tables 20 = .ok (.invokevirtual 27, 3) := by decide +kernel
theorem dL_tables_23 : decode cL_tables 23 = .ok (.ifCond .ne 139, 3) := by decide +kernel
theorem dL_tables_26 : decode cL_tables 26 = .ok (.aload_n 0, 1) := by decide +kernel
theorem dL_tables_27 : decode cL_tables 27 = .ok (.iconst 0, 1) := by decide +kernel
theorem dL_tables_28 : decode cL_tables 28 = .ok (.iconst 0, 1) := by decide +kernel
theorem dL_tables_29 : decode cL_tables 29 = .ok (.iconst 0, 1) := by decide +kernel
theorem dL_tables_30 : decode cL_tables 30 = .ok (.invokevirtual 37, 3) := by decide +kernel
theorem dL_tables_33 : decode cL_tables 33 = .ok (.ifCond .ne 129, 3) := by decide +kernel
theorem dL_tables_36 : decode cL_tables 36 = .ok (.aload_n 0, 1) := by decide +kernel
theorem dL_tables_37 : decode cL_tables 37 = .ok (.ldc 129, 2) := by decide +kernel
theorem dL_tables_39 : decode cL_tables 39 = .ok (.iconst 5, 1) := by decide +kernel
theorem dL_tables_40 : decode cL_tables 40 = .ok (.invokestatic 90, 3) := by decide +kernel
theorem dL_tables_43 : decode cL_tables 43 = .ok (.iconst 5, 1) := by decide +kernel
theorem dL_tables_44 : decode cL_tables 44 = .ok (.if_icmp .ne 118, 3) := by decide +kernel
theorem dL_tables_47 : decode cL_tables 47 = .ok (.aload_n 0, 1) := by decide +kernel
theorem dL_tables_48 : decode cL_tables 48 = .ok (.invokevirtual 94, 3) := by decide +kernel
theorem dL_tables_51 : decode cL_tables 51 = .ok (.iconst 5, 1) := by decide +kernel
theorem dL_tables_52 : decode cL_tables 52 = .ok (.if_icmp .ne 110, 3) := by decide +kernel
theorem dL_tables_55 : decode cL_tables 55 = .ok (.aload_n 0, 1) := by decide +kernel
theorem dL_tables_56 : decode cL_tables 56 = .ok (.sipush 9950, 3) := by decide +kernel
theorem dL_tables_59 : decode cL_tables 59 = .ok (.iconst 4, 1) := by decide +kernel
theorem dL_tables_60 : decode cL_tables 60 = .ok (.invokestatic 90, 3) := by decide +kernel
theorem dL_tables_63 : decode cL_tables 63 = .ok (.iconst 4, 1) := by decide +kernel
theorem dL_tables_64 : decode cL_tables 64 = .ok (.if_icmp .ne 98, 3) := by decide +kernel
theorem dL_tables_67 : decode cL_tables 67 = .ok (.aload_n 0, 1) := by decide +kernel
theorem dL_tables_68 : decode cL_tables 68 = .ok (.iconst 4, 1) := by decide +kernel
theorem dL_tables_69 : decode cL_tables 69 = .ok (.iconst 1, 1) := by decide +kernel
theorem dL_tables_70 : decode cL_tables 70 = .ok (.invokevirtual 24, 3) := by decide +kernel
theorem dL_tables_73 : decode cL_tables 73 = .ok (.iconst 1, 1) := by decide +kernel
theorem dL_tables_74 : decode cL_tables 74 = .ok (.if_icmp .ne 88, 3) := by decide +kernel
theorem dL_tables_77 : decode cL_tables 77 = .ok (.aload_n 0, 1) := by decide +kernel
theorem dL_tables_78 : decode cL_tables 78 = .ok (.bipush 6, 2) := by decide +kernel
theorem dL_tables_80 : decode cL_tables 80 = .ok (.invokevirtual 17, 3) := by decide +kernel
theorem dL_tables_83 : decode cL_tables 83 = .ok (.iconst 1, 1) := by decide +kernel
theorem dL_tables_84 : decode cL_tables 84 = .ok (.if_icmp .ne 78, 3) := by decide +kernel
theorem dL_tables_87 : decode cL_tables 87 = .ok (.aload_n 0, 1) := by decide +kernel
theorem dL_tables_88 : decode cL_tables 88 = .ok (.iconst 1, 1) := by decide +kernel
theorem dL_tables_89 : decode cL_tables 89 = .ok (.iconst 0, 1) := by decide +kernel
theorem dL_tables_90 : decode cL_tables 90 = .ok (.invokevirtual 27, 3) := by decide +kernel
theorem dL_tables_93 : decode cL_tables 93 = .ok (.ifCond .ne 69, 3) := by decide +kernel
theorem dL_tables_96 : decode cL_tables 96 = .ok (.aload_n 0, 1) := by decide +kernel
theorem dL_tables_97 : decode cL_tables 97 = .ok (.iconst 1, 1) := by decide +kernel
theorem dL_tables_98 : decode cL_tables 98 = .ok (.iconst 0, 1) := by decide +kernel
theorem dL_tables_99 : decode cL_tables 99 = .ok (.iconst 1, 1) := by decide +kernel
theorem dL_tables_100 : decode cL_tables 100 = .ok (.invokevirtual 37, 3) := by decide +kernel
theorem dL_tables_103 : decode cL_tables 103 = .ok (.bipush 6, 2) := by decide +kernel
theorem dL_tables_105 : decode cL_tables 105 = .ok (.if_icmp .ne 57, 3) := by decide +kernel
theorem dL_tables_108 : decode cL_tables 108 = .ok (.aload_n 0, 1) := by decide +kernel
theorem dL_tables_109 : decode cL_tables 109 = .ok (.iconst 1, 1) := by decide +kernel
theorem dL_tables_110 : decode cL_tables 110 = .ok (.iconst 1, 1) := by decide +kernel
theorem dL_tables_111 : decode cL_tables 111 = .ok (.invokevirtual 13, 3) := by decide +kernel
theorem dL_tables_114 : decode cL_tables 114 = .ok (.iconst 1, 1) := by decide +kernel
theorem dL_tables_115 : decode cL_tables 115 = .ok (.if_icmp .ne 47, 3) := by decide +kernel
theorem dL_tables_118 : decode cL_tables 118 = .ok (.aload_n 0, 1) := by decide +kernel
theorem dL_tables_119 : decode cL_tables 119 = .ok (.bipush 9, 2) := by decide +kernel
theorem dL_tables_121 : decode cL_tables 121 = .ok (.iconst 0, 1) := by decide +kernel
theorem dL_tables_122 : decode cL_tables 122 = .ok (.invokevirtual 13, 3) := by decide +kernel
theorem dL_tables_125 : decode cL_tables 125 = .ok (.iconst 2, 1) := by decide +kernel
theorem dL_tables_126 : decode cL_tables 126 = .ok (.if_icmp .ne 36, 3) := by decide +kernel
theorem dL_tables_129 : decode cL_tables 129 = .ok (.aload_n 0, 1) := by decide +kernel
theorem dL_tables_130 : decode cL_tables 130 = .ok (.iconst 1, 1) := by decide +kernel
theorem dL_tables_131 : decode cL_tables 131 = .ok (.iconst 2, 1) := by decide +kernel
theorem dL_tables_132 : decode cL_tables 132 = .ok (.invokevirtual 13, 3) := by decide +kernel
theorem dL_tables_135 : decode cL_tables 135 = .ok (.iconst 3, 1) := by decide +kernel
theorem dL_tables_136 : decode cL_tables 136 = .ok (.if_icmp .ne 26, 3) := by decide +kernel
theorem dL_tables_139 : decode cL_tables 139 = .ok (.aload_n 0, 1) := by decide +kernel
theorem dL_tables_140 : decode cL_tables 140 = .ok (.bipush 9, 2) := by decide +kernel
theorem dL_tables_142 : decode cL_tables 142 = .ok (.iconst 0, 1) := by decide +kernel
theorem dL_tables_143 : decode cL_tables 143 = .ok (.invokevirtual 13, 3) := by decide +kernel
theorem dL_tables_146 : decode cL_tables 146 = .ok (.iconst 4, 1) := by decide +kernel
theorem dL_tables_147 : decode cL_tables 147 = .ok (.if_icmp .ne 15, 3) := by decide +kernel
theorem dL_tables_150 : decode cL_tables 150 = .ok (.aload_n 0, 1) := by decide +kernel
theorem dL_tables_151 : decode cL_tables 151 = .ok (.sipush 500, 3) := by decide +kernel
theorem dL_tables_154 : decode cL_tables 154 = .ok (.iconst 1, 1) := by decide +kernel
theorem dL_tables_155 : decode cL_tables 155 = .ok (.invokevirtual 24, 3) := by decide +kernel
theorem dL_tables_158 : decode cL_tables 158 = .ok (.iconst 2, 1) := by decide +kernel
theorem dL_tables_159 : decode cL_tables 159 = .ok (.if_icmp .eq 5, 3) := by decide +kernel
theorem dL_tables_162 : decode cL_tables 162 = .ok (.iconst 0, 1) := by decide +kernel
theorem dL_tables_163 : decode cL_tables 163 = .ok (.ireturn, 1) := by decide +kernel
theorem dL_tables_164 : decode cL_tables 164 = .ok (.aload_n 0, 1) := by decide +kernel
theorem dL_tables_165 : decode cL_tables 165 = .ok (.iconst 1, 1) := by decide +kernel
theorem dL_tables_166 : decode cL_tables 166 = .ok (.bipush 7, 2) := by decide +kernel
theorem dL_tables_168 : decode cL_tables 168 = .ok (.invokevirtual 13, 3) := by decide +kernel
theorem dL_tables_171 : decode cL_tables 171 = .ok (.iconst 1, 1) := by decide +kernel
theorem dL_tables_172 : decode cL_tables 172 = .ok (.if_icmp .ne 228, 3) := by decide +kernel
theorem dL_tables_175 : decode cL_tables 175 = .ok (.aload_n 0, 1) := by decide +kernel
theorem dL_tables_176 : decode cL_tables 176 = .ok (.bipush 9, 2) := by decide +kernel
theorem dL_tables_178 : decode cL_tables 178 = .ok (.iconst 0, 1) := by decide +kernel
theorem dL_tables_179 : decode cL_tables 179 = .ok (.invokevirtual 13, 3) := by decide +kernel
theorem dL_tables_182 : decode cL_tables 182 = .ok (.iconst 2, 1) := by decide +kernel
theorem dL_tables_183 : decode cL_tables 183 = .ok (.if_icmp .ne 217, 3) := by decide +kernel
theorem dL_tables_186 : decode cL_tables 186 = .ok (.aload_n 0, 1) := by decide +kernel
theorem dL_tables_187 : decode cL_tables 187 = .ok (.iconst 1, 1) := by decide +kernel
theorem dL_tables_188 : decode cL_tables 188 = .ok (.iconst 5, 1) := by decide +kernel
theorem dL_tables_189 : decode cL_tables 189 = .ok (.invokevirtual 13, 3) := by decide +kernel
theorem dL_tables_192 : decode cL_tables 192 = .ok (.iconst 3, 1) := by decide +kernel
theorem dL_tables_193 : decode cL_tables 193 = .ok (.if_icmp .ne 207, 3) := by decide +kernel
theorem dL_tables_196 : decode cL_tables 196 = .ok (.aload_n 0, 1) := by decide +kernel
theorem dL_tables_197 : decode cL_tables 197 = .ok (.bipush 9, 2) := by decide +kernel
theorem dL_tables_199 : decode cL_tables 199 = .ok (.iconst 0, 1) := by decide +kernel
theorem dL_tables_200 : decode cL_tables 200 = .ok (.invokevirtual 13, 3) := by decide +kernel
theorem dL_tables_203 : decode cL_tables 203 = .ok (.iconst 4, 1) := by decide +kernel
theorem dL_tables_204 : decode cL_tables 204 = .ok (.if_icmp .ne 196, 3) := by decide +kernel
theorem dL_tables_207 : decode cL_tables 207 = .ok (.aload_n 0, 1) := by decide +kernel
theorem dL_tables_208 : decode cL_tables 208 = .ok (.iconst 0, 1) := by decide +kernel
theorem dL_tables_209 : decode cL_tables 209 = .ok (.iconst 1, 1) := by decide +kernel
theorem dL_tables_210 : decode cL_tables 210 = .ok (.invokevirtual 40, 3) := by decide +kernel
theorem dL_tables_213 : decode cL_tables 213 = .ok (.ifCond .ne 187, 3) := by decide +kernel
theorem dL_tables_216 : decode cL_tables 216 = .ok (.aload_n 0, 1) := by decide +kernel
theorem dL_tables_217 : decode cL_tables 217 = .ok (.iconst 1, 1) := by decide +kernel
theorem dL_tables_218 : decode cL_tables 218 = .ok (.bipush 7, 2) := by decide +kernel
theorem dL_tables_220 : decode cL_tables 220 = .ok (.invokevirtual 13, 3) := by decide +kernel
theorem dL_tables_223 : decode cL_tables 223 = .ok (.iconst 1, 1) := by decide +kernel
theorem dL_tables_224 : decode cL_tables 224 = .ok (.if_icmp .ne 176, 3) := by decide +kernel
theorem dL_tables_227 : decode cL_tables 227 = .ok (.aload_n 0, 1) := by decide +kernel
theorem dL_tables_228 : decode cL_tables 228 = .ok (.bipush 9, 2) := by decide +kernel
theorem dL_tables_230 : decode cL_tables 230 = .ok (.iconst 0, 1) := by decide +kernel
theorem dL_tables_231 : decode cL_tables 231 = .ok (.invokevirtual 13, 3) := by decide +kernel
theorem dL_tables_234 : decode cL_tables 234 = .ok (.iconst 2, 1) := by decide +kernel
theorem dL_tables_235 : decode cL_tables 235 = .ok (.if_icmp .ne 165, 3) := by decide +kernel
theorem dL_tables_238 : decode cL_tables 238 = .ok (.aload_n 0, 1) := by decide +kernel
theorem dL_tables_239 : decode cL_tables 239 = .ok (.iconst 1, 1) := by decide +kernel
theorem dL_tables_240 : decode cL_tables 240 = .ok (.bipush 8, 2) := by decide +kernel
theorem dL_tables_242 : decode cL_tables 242 = .ok (.invokevirtual 13, 3) := by decide +kernel
theorem dL_tables_245 : decode cL_tables 245 = .ok (.iconst 3, 1) := by decide +kernel
theorem dL_tables_246 : decode cL_tables 246 = .ok (.if_icmp .ne 154, 3) := by decide +kernel
theorem dL_tables_249 : decode cL_tables 249 = .ok (.aload_n 0, 1) := by decide +kernel
theorem dL_tables_250 : decode cL_tables 250 = .ok (.bipush 9, 2) := by decide +kernel
theorem dL_tables_252 : decode cL_tables 252 = .ok (.iconst 0, 1) := by decide +kernel
theorem dL_tables_253 : decode cL_tables 253 = .ok (.invokevirtual 13, 3) := by decide +kernel
theorem dL_tables_256 : decode cL_tables 256 = .ok (.iconst 4, 1) := by decide +kernel
theorem dL_tables_257 : decode cL_tables 257 = .ok (.if_icmp .ne 143, 3) := by decide +kernel
theorem dL_tables_260 : decode cL_tables 260 = .ok (.aload_n 0, 1) := by decide +kernel
theorem dL_tables_261 : decode cL_tables 261 = .ok (.iconst 1, 1) := by decide +kernel
theorem dL_tables_262 : decode cL_tables 262 = .ok (.iconst 1, 1) := by decide +kernel
theorem dL_tables_263 : decode cL_tables 263 = .ok (.invokevirtual 40, 3) := by decide +kernel
theorem dL_tables_266 : decode cL_tables 266 = .ok (.iconst 1, 1) := by decide +kernel
theorem dL_tables_267 : decode cL_tables 267 = .ok (.if_icmp .ne 133, 3) := by decide +kernel
theorem dL_tables_270 : decode cL_tables 270 = .ok (.aload_n 0, 1) := by decide +kernel
theorem dL_tables_271 : decode cL_tables 271 = .ok (.bipush 90, 2) := by decide +kernel
theorem dL_tables_273 : decode cL_tables 273 = .ok (.iconst 2, 1) := by decide +kernel
theorem dL_tables_274 : decode cL_tables 274 = .ok (.invokestatic 90, 3) := by decide +kernel
theorem dL_tables_277 : decode cL_tables 277 = .ok (.iconst 2, 1) := by decide +kernel
theorem dL_tables_278 : decode cL_tables 278 = .ok (.if_icmp .ne 122, 3) := by decide +kernel
theorem dL_tables_281 : decode cL_tables 281 = .ok (.aload_n 0, 1) := by decide +kernel
theorem dL_tables_282 : decode cL_tables 282 = .ok (.iconst 2, 1) := by decide +kernel
theorem dL_tables_283 : decode cL_tables 283 = .ok (.iconst 1, 1) := by decide +kernel
theorem dL_tables_284 : decode cL_tables 284 = .ok (.invokevirtual 40, 3) := by decide +kernel
theorem dL_tables_287 : decode cL_tables 287 = .ok (.iconst 2, 1) := by decide +kernel
theorem dL_tables_288 : decode cL_tables 288 = .ok (.if_icmp .ne 112, 3) := by decide +kernel
theorem dL_tables_291 : decode cL_tables 291 = .ok (.aload_n 0, 1) := by decide +kernel
theorem dL_tables_292 : decode cL_tables 292 = .ok (.sipush 9950, 3) := by decide +kernel
theorem dL_tables_295 : decode cL_tables 295 = .ok (.iconst 4, 1) := by decide +kernel
theorem dL_tables_296 : decode cL_tables 296 = .ok (.invokestatic 90, 3) := by decide +kernel
theorem dL_tables_299 : decode cL_tables 299 = .ok (.iconst 4, 1) := by decide +kernel
theorem dL_tables_300 : decode cL_tables 300 = .ok (.if_icmp .ne 100, 3) := by decide +kernel
theorem dL_tables_303 : decode cL_tables 303 = .ok (.aload_n 0, 1) := by decide +kernel
theorem dL_tables_304 : decode cL_tables 304 = .ok (.bipush 8, 2) := by decide +kernel
theorem dL_tables_306 : decode cL_tables 306 = .ok (.iconst 5, 1) := by decide +kernel
theorem dL_tables_307 : decode cL_tables 307 = .ok (.invokevirtual 13, 3) := by decide +kernel
theorem dL_tables_310 : decode cL_tables 310 = .ok (.iconst 5, 1) := by decide +kernel
theorem dL_tables_311 : decode cL_tables 311 = .ok (.if_icmp .ne 89, 3) := by decide +kernel
theorem dL_tables_314 : decode cL_tables 314 = .ok (.aload_n 0, 1) := by decide +kernel
theorem dL_tables_315 : decode cL_tables 315 = .ok (.iconst 3, 1) := by decide +kernel
theorem dL_tables_316 : decode cL_tables 316 = .ok (.iconst 1, 1) := by decide +kernel
theorem dL_tables_317 : decode cL_tables 317 = .ok (.invokevirtual 40, 3) := by decide +kernel
theorem dL_tables_320 : decode cL_tables 320 = .ok (.iconst 3, 1) := by decide +kernel
theorem dL_tables_321 : decode cL_tables 321 = .ok (.if_icmp .ne 79, 3) := by decide +kernel
theorem dL_tables_324 : decode cL_tables 324 = .ok (.aload_n 0, 1) := by decide +kernel
theorem dL_tables_325 : decode cL_tables 325 = .ok (.iconst 4, 1) := by decide +kernel
theorem dL_tables_326 : decode cL_tables 326 = .ok (.iconst 0, 1) := by decide +kernel
theorem dL_tables_327 : decode cL_tables 327 = .ok (.invokevirtual 40, 3) := by decide +kernel
theorem dL_tables_330 : decode cL_tables 330 = .ok (.iconst 4, 1) := by decide +kernel
theorem dL_tables_331 : decode cL_tables 331 = .ok (.if_icmp .ne 69, 3) := by decide +kernel
theorem dL_tables_334 : decode cL_tables 334 = .ok (.aload_n 0, 1) := by decide +kernel
theorem dL_tables_335 : decode cL_tables 335 = .ok (.bipush 9, 2) := by decide +kernel
theorem dL_tables_337 : decode cL_tables 337 = .ok (.iconst 1, 1) := by decide +kernel
theorem dL_tables_338 : decode cL_tables 338 = .ok (.invokestatic 90, 3) := by decide +kernel
theorem dL_tables_341 : decode cL_tables 341 = .ok (.iconst 1, 1) := by decide +kernel
theorem dL_tables_342 : decode cL_tables 342 = .ok (.if_icmp .ne 58, 3) := by decide +kernel
theorem dL_tables_345 : decode cL_tables 345 = .ok (.aload_n 0, 1) := by decide +kernel
theorem dL_tables_346 : decode cL_tables 346 = .ok (.iconst 5, 1) := by decide +kernel
theorem dL_tables_347 : decode cL_tables 347 = .ok (.iconst 0, 1) := by decide +kernel
theorem dL_tables_348 : decode cL_tables 348 = .ok (.invokevirtual 40, 3) := by decide +kernel
theorem dL_tables_351 : decode cL_tables 351 = .ok (.iconst 5, 1) := by decide +kernel
theorem dL_tables_352 : decode cL_tables 352 = .ok (.if_icmp .ne 48, 3) := by decide +kernel
theorem dL_tables_355 : decode cL_tables 355 = .ok (.aload_n 0, 1) := by decide +kernel
theorem dL_tables_356 : decode cL_tables 356 = .ok (.iconst 1, 1) := by decide +kernel
theorem dL_tables_357 : decode cL_tables 357 = .ok (.iconst 1, 1) := by decide +kernel
theorem dL_tables_358 : decode cL_tables 358 = .ok (.invokevirtual 13, 3) := by decide +kernel
theorem dL_tables_361 : decode cL_tables 361 = .ok (.iconst 1, 1) := by decide +kernel
theorem dL_tables_362 : decode cL_tables 362 = .ok (.if_icmp .ne 38, 3) := by decide +kernel
theorem dL_tables_365 : decode cL_tables 365 = .ok (.aload_n 0, 1) := by decide +kernel
theorem dL_tables_366 : decode cL_tables 366 = .ok (.bipush 9, 2) := by decide +kernel
theorem dL_tables_368 : decode cL_tables 368 = .ok (.iconst 0, 1) := by decide +kernel
theorem dL_tables_369 : decode cL_tables 369 = .ok (.invokevirtual 13, 3) := by decide +kernel
theorem dL_tables_372 : decode cL_tables 372 = .ok (.iconst 2, 1) := by decide +kernel
theorem dL_tables_373 : decode cL_tables 373 = .ok (.if_icmp .ne 27, 3) := by decide +kernel
theorem dL_tables_376 : decode cL_tables 376 = .ok (.aload_n 0, 1) := by decide +kernel
theorem dL_tables_377 : decode cL_tables 377 = .ok (.bipush 6, 2) := by decide +kernel
theorem dL_tables_379 : decode cL_tables 379 = .ok (.iconst 0, 1) := by decide +kernel
theorem dL_tables_380 : decode cL_tables 380 = .ok (.invokevirtual 40, 3) := by decide +kernel
theorem dL_tables_383 : decode cL_tables 383 = .ok (.bipush 6, 2) := by decide +kernel
theorem dL_tables_385 : decode cL_tables 385 = .ok (.if_icmp .ne 15, 3) := by decide +kernel
theorem dL_tables_388 : decode cL_tables 388 = .ok (.aload_n 0, 1) := by decide +kernel
theorem dL_tables_389 : decode cL_tables 389 = .ok (.bipush 7, 2) := by decide +kernel
theorem dL_tables_391 : decode cL_tables 391 = .ok (.iconst 2, 1) := by decide +kernel
theorem dL_tables_392 : decode cL_tables 392 = .ok (.invokevirtual 40, 3) := by decide +kernel
theorem dL_tables_395 : decode cL_tables 395 = .ok (.bipush 7, 2) := by decide +kernel
theorem dL_tables_397 : decode cL_tables 397 = .ok (.if_icmp .eq 5, 3) := by decide +kernel
theorem dL_tables_400 : decode cL_tables 400 = .ok (.iconst 0, 1) := by decide +kernel
theorem dL_tables_401 : decode cL_tables 401 = .ok (.ireturn, 1) := by decide +kernel
theorem dL_tables_402 : decode cL_tables 402 = .ok (.iconst 0, 1) := by decide +kernel
theorem dL_tables_403 : decode cL_tables 403 = .ok (.istore_n 1, 1) := by decide +kernel
theorem dL_tables_404 : decode cL_tables 404 = .ok (.iload_n 1, 1) := by decide +kernel
theorem dL_tables_405 : decode cL_tables 405 = .ok (.bipush 8, 2) := by decide +kernel
theorem dL_tables_407 : decode cL_tables 407 = .ok (.if_icmp .ge 19, 3) := by decide +kernel
theorem dL_tables_410 : decode cL_tables 410 = .ok (.aload_n 0, 1) := by decide +kernel
theorem dL_tables_411 : decode cL_tables 411 = .ok (.invokevirtual 107, 3) := by decide +kernel
theorem dL_tables_414 : decode cL_tables 414 = .ok (.iload_n 1, 1) := by decide +kernel
theorem dL_tables_415 : decode cL_tables 415 = .ok (.if_icmp .eq 5, 3) := by decide +kernel
theorem dL_tables_418 : decode cL_tables 418 = .ok (.iconst 0, 1) := by decide +kernel
theorem dL_tables_419 : decode cL_tables 419 = .ok (.ireturn, 1) := by decide +kernel
theorem dL_tables_420 : decode cL_tables 420 = .ok (.iinc 1 1, 3) := by decide +kernel
theorem dL_tables_423 : decode cL_tables 423 = .ok (.goto (-19), 3) := by decide +kernel
theorem dL_tables_426 : decode cL_tables 426 = .ok (.aload_n 0, 1) := by decide +kernel
theorem dL_tables_427 : decode cL_tables 427 = .ok (.iconst 0, 1) := by decide +kernel
theorem dL_tables_428 : decode cL_tables 428 = .ok (.iconst 0, 1) := by decide +kernel
theorem dL_tables_429 : decode cL_tables 429 = .ok (.iconst (-1), 1) := by decide +kernel
theorem dL_tables_430 : decode cL_tables 430 = .ok (.bipush 25, 2) := by decide +kernel
theorem dL_tables_432 : decode cL_tables 432 = .ok (.iconst 1, 1) := by decide +kernel
theorem dL_tables_433 : decode cL_tables 433 = .ok (.invokestatic 113, 3) := by decide +kernel
theorem dL_tables_436 : decode cL_tables 436 = .ok (.ifCond .eq 130, 3) := by decide +kernel
theorem dL_tables_439 : decode cL_tables 439 = .ok (.aload_n 0, 1) := by decide +kernel
theorem dL_tables_440 : decode cL_tables 440 = .ok (.iconst 1, 1) := by decide +kernel
theorem dL_tables_441 : decode cL_tables 441 = .ok (.iconst 1, 1) := by decide +kernel
theorem dL_tables_442 : decode cL_tables 442 = .ok (.iconst 0, 1) := by decide +kernel
theorem dL_tables_443 : decode cL_tables 443 = .ok (.iconst 0, 1) := by decide +kernel
theorem dL_tables_444 : decode cL_tables 444 = .ok (.iconst 1, 1) := by decide +kernel
theorem dL_tables_445 : decode cL_tables 445 = .ok (.invokestatic 113, 3) := by decide +kernel
theorem dL_tables_448 : decode cL_tables 448 = .ok (.ifCond .eq 118, 3) := by decide +kernel
theorem dL_tables_451 : decode cL_tables 451 = .ok (.aload_n 0, 1) := by decide +kernel
theorem dL_tables_452 : decode cL_tables 452 = .ok (.iconst 2, 1) := by decide +kernel
theorem dL_tables_453 : decode cL_tables 453 = .ok (.iconst 1, 1) := by decide +kernel
theorem dL_tables_454 : decode cL_tables 454 = .ok (.iconst 0, 1) := by decide +kernel
theorem dL_tables_455 : decode cL_tables 455 = .ok (.iconst 0, 1) := by decide +kernel
theorem dL_tables_456 : decode cL_tables 456 = .ok (.iconst 1, 1) := by decide +kernel
theorem dL_tables_457 : decode cL_tables 457 = .ok (.invokestatic 113, 3) := by decide +kernel
theorem dL_tables_460 : decode cL_tables 460 = .ok (.ifCond .eq 106, 3) := by decide +kernel
theorem dL_tables_463 : decode cL_tables 463 = .ok (.aload_n 0, 1) := by decide +kernel
theorem dL_tables_464 : decode cL_tables 464 = .ok (.iconst 3, 1) := by decide +kernel
theorem dL_tables_465 : decode cL_tables 465 = .ok (.iconst 2, 1) := by decide +kernel
theorem dL_tables_466 : decode cL_tables 466 = .ok (.iconst 0, 1) := by decide +kernel
theorem dL_tables_467 : decode cL_tables 467 = .ok (.iconst 0, 1) := by decide +kernel
theorem dL_tables_468 : decode cL_tables 468 = .ok (.iconst 1, 1) := by decide +kernel
theorem dL_tables_469 : decode cL_tables 469 = .ok (.invokestatic 113, 3) := by decide +kernel
theorem dL_tables_472 : decode cL_tables 472 = .ok (.ifCond .eq 94, 3) := by decide +kernel
theorem dL_tables_475 : decode cL_tables 475 = .ok (.aload_n 0, 1) := by decide +kernel
theorem dL_tables_476 : decode cL_tables 476 = .ok (.iconst 4, 1) := by decide +kernel
theorem dL_tables_477 : decode cL_tables 477 = .ok (.iconst 0, 1) := by decide +kernel
theorem dL_tables_478 : decode cL_tables 478 = .ok (.iconst (-1), 1) := by decide +kernel
theorem dL_tables_479 : decode cL_tables 479 = .ok (.bipush 25, 2) := by decide +kernel
theorem dL_tables_481 : decode cL_tables 481 = .ok (.iconst 1, 1) := by decide +kernel
theorem dL_tables_482 : decode cL_tables 482 = .ok (.invokestatic 113, 3) := by decide +kernel
theorem dL_tables_485 : decode cL_tables 485 = .ok (.ifCond .eq 81, 3) := by decide +kernel
theorem dL_tables_488 : decode cL_tables 488 = .ok (.aload_n 0, 1) := by decide +kernel
theorem dL_tables_489 : decode cL_tables 489 = .ok (.iconst 5, 1) := by decide +kernel
theorem dL_tables_490 : decode cL_tables 490 = .ok (.iconst 4, 1) := by decide +kernel
theorem dL_tables_491 : decode cL_tables 491 = .ok (.iconst 0, 1) := by decide +kernel
theorem dL_tables_492 : decode cL_tables 492 = .ok (.iconst 0, 1) := by decide +kernel
theorem dL_tables_493 : decode cL_tables 493 = .ok (.iconst 1, 1) := by decide +kernel
theorem dL_tables_494 : decode cL_tables 494 = .ok (.invokestatic 113, 3) := by decide +kernel
theorem dL_tables_497 : decode cL_tables 497 = .ok (.ifCond .eq 69, 3) := by decide +kernel
theorem dL_tables_500 : decode cL_tables 500 = .ok (.aload_n 0, 1) := by decide +kernel
theorem dL_tables_501 : decode cL_tables 501 = .ok (.bipush 6, 2) := by decide +kernel
theorem dL_tables_503 : decode cL_tables 503 = .ok (.iconst 1, 1) := by decide +kernel
theorem dL_tables_504 : decode cL_tables 504 = .ok (.iconst 0, 1) := by decide +kernel
theorem dL_tables_505 : decode cL_tables 505 = .ok (.iconst 0, 1) := by decide +kernel
theorem dL_tables_506 : decode cL_tables 506 = .ok (.iconst 1, 1) := by decide +kernel
theorem dL_tables_507 : decode cL_tables 507 = .ok (.invokestatic 113, 3) := by decide +kernel
theorem dL_tables_510 : decode cL_tables 510 = .ok (.ifCond .eq 56, 3) := by decide +kernel
theorem dL_tables_513 : decode cL_tables 513 = .ok (.aload_n 0, 1) := by decide +kernel
theorem dL_tables_514 : decode cL_tables 514 = .ok (.bipush 7, 2) := by decide +kernel
theorem dL_tables_516 : decode cL_tables 516 = .ok (.iconst 0, 1) := by decide +kernel
theorem dL_tables_517 : decode cL_tables 517 = .ok (.iconst (-1), 1) := by decide +kernel
theorem dL_tables_518 : decode cL_tables 518 = .ok (.iconst 0, 1) := by decide +kernel
theorem dL_tables_519 : decode cL_tables 519 = .ok (.iconst 0, 1) := by decide +kernel
theorem dL_tables_520 : decode cL_tables 520 = .ok (.invokestatic 113, 3) := by decide +kernel
theorem dL_tables_523 : decode cL_tables 523 = .ok (.ifCond .eq 43, 3) := by decide +kernel
theorem dL_tables_526 : decode cL_tables 526 = .ok (.aload_n 0, 1) := by decide +kernel
theorem dL_tables_527 : decode cL_tables 527 = .ok (.iconst 4, 1) := by decide +kernel
theorem dL_tables_528 : decode cL_tables 528 = .ok (.iconst 0, 1) := by decide +kernel
theorem dL_tables_529 : decode cL_tables 529 = .ok (.iconst 1, 1) := by decide +kernel
theorem dL_tables_530 : decode cL_tables 530 = .ok (.iconst 1, 1) := by decide +kernel
theorem dL_tables_531 : decode cL_tables 531 = .ok (.iconst 0, 1) := by decide +kernel
theorem dL_tables_532 : decode cL_tables 532 = .ok (.iconst 0, 1) := by decide +kernel
theorem dL_tables_533 : decode cL_tables 533 = .ok (.invokestatic 116, 3) := by decide +kernel
theorem dL_tables_536 : decode cL_tables 536 = .ok (.ifCond .eq 30, 3) := by decide +kernel
theorem dL_tables_539 : decode cL_tables 539 = .ok (.aload_n 0, 1) := by decide +kernel
theorem dL_tables_540 : decode cL_tables 540 = .ok (.bipush 7, 2) := by decide +kernel
theorem dL_tables_542 : decode cL_tables 542 = .ok (.iconst 0, 1) := by decide +kernel
theorem dL_tables_543 : decode cL_tables 543 = .ok (.iconst 2, 1) := by decide +kernel
theorem dL_tables_544 : decode cL_tables 544 = .ok (.iconst 1, 1) := by decide +kernel
theorem dL_tables_545 : decode cL_tables 545 = .ok (.iconst 0, 1) := by decide +kernel
theorem dL_tables_546 : decode cL_tables 546 = .ok (.iconst 0, 1) := by decide +kernel
theorem dL_tables_547 : decode cL_tables 547 = .ok (.invokestatic 116, 3) := by decide +kernel
theorem dL_tables_550 : decode cL_tables 550 = .ok (.ifCond .eq 16, 3) := by decide +kernel
theorem dL_tables_553 : decode cL_tables 553 = .ok (.aload_n 0, 1) := by decide +kernel
theorem dL_tables_554 : decode cL_tables 554 = .ok (.iconst 1, 1) := by decide +kernel
theorem dL_tables_555 : decode cL_tables 555 = .ok (.iconst 0, 1) := by decide +kernel
theorem dL_tables_556 : decode cL_tables 556 = .ok (.iconst 3, 1) := by decide +kernel
theorem dL_tables_557 : decode cL_tables 557 = .ok (.iconst 0, 1) := by decide +kernel
theorem dL_tables_558 : decode cL_tables 558 = .ok (.iconst 0, 1) := by decide +kernel
theorem dL_tables_559 : decode cL_tables 559 = .ok (.iconst 0, 1) := by decide +kernel
theorem dL_tables_560 : decode cL_tables 560 = .ok (.invokestatic 116, 3) := by decide +kernel
theorem dL_tables_563 : decode cL_tables 563 = .ok (.ifCond .ne 5, 3) := by decide +kernel
theorem dL_tables_566 : decode cL_tables 566 = .ok (.iconst 0, 1) := by decide +kernel
theorem dL_tables_567 : decode cL_tables 567 = .ok (.ireturn, 1) := by decide +kernel
theorem dL_tables_568 : decode cL_tables 568 = .ok (.aload_n 0, 1) := by decide +kernel
theorem dL_tables_569 : decode cL_tables 569 = .ok (.bipush 8, 2) := by decide +kernel
theorem dL_tables_571 : decode cL_tables 571 = .ok (.iconst 0, 1) := by decide +kernel
theorem dL_tables_572 : decode cL_tables 572 = .ok (.invokevirtual 13, 3) := by decide +kernel
theorem dL_tables_575 : decode cL_tables 575 = .ok (.iconst 1, 1) := by decide +kernel
theorem dL_tables_576 : decode cL_tables 576 = .ok (.if_icmp .ne 165, 3) := by decide +kernel
theorem dL_tables_579 : decode cL_tables 579 = .ok (.aload_n 0, 1) := by decide +kernel
theorem dL_tables_580 : decode cL_tables 580 = .ok (.bipush 6, 2) := by decide +kernel
theorem dL_tables_582 : decode cL_tables 582 = .ok (.iconst 1, 1) := by decide +kernel
theorem dL_tables_583 : decode cL_tables 583 = .ok (.iconst 0, 1) := by decide +kernel
theorem dL_tables_584 : decode cL_tables 584 = .ok (.iconst 0, 1) := by decide +kernel
theorem dL_tables_585 : decode cL_tables 585 = .ok (.invokestatic 81, 3) := by decide +kernel
theorem dL_tables_588 : decode cL_tables 588 = .ok (.ldc 79, 2) := by decide +kernel
theorem dL_tables_590 : decode cL_tables 590 = .ok (.if_icmp .ne 151, 3) := by decide +kernel
theorem dL_tables_593 : decode cL_tables 593 = .ok (.aload_n 0, 1) := by decide +kernel
theorem dL_tables_594 : decode cL_tables 594 = .ok (.bipush 9, 2) := by decide +kernel
theorem dL_tables_596 : decode cL_tables 596 = .ok (.iconst 0, 1) := by decide +kernel
theorem dL_tables_597 : decode cL_tables 597 = .ok (.invokevirtual 21, 3) := by decide +kernel
theorem dL_tables_600 : decode cL_tables 600 = .ok (.iconst 2, 1) := by decide +kernel
theorem dL_tables_601 : decode cL_tables 601 = .ok (.if_icmp .ne 140, 3) := by decide +kernel
theorem dL_tables_604 : decode cL_tables 604 = .ok (.aload_n 0, 1) := by decide +kernel
theorem dL_tables_605 : decode cL_tables 605 = .ok (.invokevirtual 94, 3) := by decide +kernel
theorem dL_tables_608 : decode cL_tables 608 = .ok (.iconst 1, 1) := by decide +kernel
theorem dL_tables_609 : decode cL_tables 609 = .ok (.if_icmp .ne 132, 3) := by decide +kernel
theorem dL_tables_612 : decode cL_tables 612 = .ok (.aload_n 0, 1) := by decide +kernel
theorem dL_tables_613 : decode cL_tables 613 = .ok (.iconst 1, 1) := by decide +kernel
theorem dL_tables_614 : decode cL_tables 614 = .ok (.iconst 5, 1) := by decide +kernel
theorem dL_tables_615 : decode cL_tables 615 = .ok (.invokevirtual 13, 3) := by decide +kernel
theorem dL_tables_618 : decode cL_tables 618 = .ok (.iconst 1, 1) := by decide +kernel
theorem dL_tables_619 : decode cL_tables 619 = .ok (.if_icmp .ne 122, 3) := by decide +kernel
theorem dL_tables_622 : decode cL_tables 622 = .ok (.aload_n 0, 1) := by decide +kernel
theorem dL_tables_623 : decode cL_tables 623 = .ok (.sipush 995, 3) := by decide +kernel
theorem dL_tables_626 : decode cL_tables 626 = .ok (.iconst 3, 1) := by decide +kernel
theorem dL_tables_627 : decode cL_tables 627 = .ok (.invokestatic 90, 3) := by decide +kernel
theorem dL_tables_630 : decode cL_tables 630 = .ok (.iconst 4, 1) := by decide +kernel
theorem dL_tables_631 : decode cL_tables 631 = .ok (.if_icmp .ne 110, 3) := by decide +kernel
theorem dL_tables_634 : decode cL_tables 634 = .ok (.aload_n 0, 1) := by decide +kernel
theorem dL_tables_635 : decode cL_tables 635 = .ok (.iconst 1, 1) := by decide +kernel
theorem dL_tables_636 : decode cL_tables 636 = .ok (.iconst 0, 1) := by decide +kernel
theorem dL_tables_637 : decode cL_tables 637 = .ok (.invokevirtual 34, 3) := by decide +kernel
theorem dL_tables_640 : decode cL_tables 640 = .ok (.iconst 2, 1) := by decide +kernel
theorem dL_tables_641 : decode cL_tables 641 = .ok (.if_icmp .ne 100, 3) := by decide +kernel
theorem dL_tables_644 : decode cL_tables 644 = .ok (.aload_n 0, 1) := by decide +kernel
theorem dL_tables_645 : decode cL_tables 645 = .ok (.iconst 1, 1) := by decide +kernel
theorem dL_tables_646 : decode cL_tables 646 = .ok (.iconst 0, 1) := by decide +kernel
theorem dL_tables_647 : decode cL_tables 647 = .ok (.iconst 0, 1) := by decide +kernel
theorem dL_tables_648 : decode cL_tables 648 = .ok (.invokevirtual 37, 3) := by decide +kernel
theorem dL_tables_651 : decode cL_tables 651 = .ok (.iconst 5, 1) := by decide +kernel
theorem dL_tables_652 : decode cL_tables 652 = .ok (.if_icmp .ne 89, 3) := by decide +kernel
theorem dL_tables_655 : decode cL_tables 655 = .ok (.aload_n 0, 1) := by decide +kernel
theorem dL_tables_656 : decode cL_tables 656 = .ok (.iconst 1, 1) := by decide +kernel
theorem dL_tables_657 : decode cL_tables 657 = .ok (.iconst 0, 1) := by decide +kernel
theorem dL_tables_658 : decode cL_tables 658 = .ok (.iconst 1, 1) := by decide +kernel
theorem dL_tables_659 : decode cL_tables 659 = .ok (.invokevirtual 37, 3) := by decide +kernel
theorem dL_tables_662 : decode cL_tables 662 = .ok (.iconst 5, 1) := by decide +kernel
theorem dL_tables_663 : decode cL_tables 663 = .ok (.if_icmp .ne 78, 3) := by decide +kernel
theorem dL_tables_666 : decode cL_tables 666 = .ok (.aload_n 0, 1) := by decide +kernel
theorem dL_tables_667 : decode cL_tables 667 = .ok (.iconst 1, 1) := by decide +kernel
theorem dL_tables_668 : decode cL_tables 668 = .ok (.iconst 0, 1) := by decide +kernel
theorem dL_tables_669 : decode cL_tables 669 = .ok (.iconst 2, 1) := by decide +kernel
theorem dL_tables_670 : decode cL_tables 670 = .ok (.invokevirtual 37, 3) := by decide +kernel
theorem dL_tables_673 : decode cL_tables 673 = .ok (.ifCond .ne 68, 3) := by decide +kernel
theorem dL_tables_676 : decode cL_tables 676 = .ok (.aload_n 0, 1) := by decide +kernel
theorem dL_tables_677 : decode cL_tables 677 = .ok (.invokevirtual 94, 3) := by decide +kernel
theorem dL_tables_680 : decode cL_tables 680 = .ok (.ifCond .ne 61, 3) := by decide +kernel
theorem dL_tables_683 : decode cL_tables 683 = .ok (.aload_n 0, 1) := by decide +kernel
theorem dL_tables_684 : decode cL_tables 684 = .ok (.iconst 1, 1) := by decide +kernel
theorem dL_tables_685 : decode cL_tables 685 = .ok (.invokevirtual 46, 3) := by decide +kernel
theorem dL_tables_688 : decode cL_tables 688 = .ok (.iconst 4, 1) := by decide +kernel
theorem dL_tables_689 : decode cL_tables 689 = .ok (.if_icmp .ne 52, 3) := by decide +kernel
theorem dL_tables_692 : decode cL_tables 692 = .ok (.aload_n 0, 1) := by decide +kernel
theorem dL_tables_693 : decode cL_tables 693 = .ok (.invokevirtual 107, 3) := by decide +kernel
theorem dL_tables_696 : decode cL_tables 696 = .ok (.ifCond .ne 45, 3) := by decide +kernel
theorem dL_tables_699 : decode cL_tables 699 = .ok (.aload_n 0, 1) := by decide +kernel
theorem dL_tables_700 : decode cL_tables 700 = .ok (.iconst 0, 1) := by decide +kernel
theorem dL_tables_701 : decode cL_tables 701 = .ok (.iconst 1, 1) := by decide +kernel
theorem dL_tables_702 : decode cL_tables 702 = .ok (.iconst 0, 1) := by decide +kernel
theorem dL_tables_703 : decode cL_tables 703 = .ok (.iconst 0, 1) := by decide +kernel
theorem dL_tables_704 : decode cL_tables 704 = .ok (.iconst 2, 1) := by decide +kernel
theorem dL_tables_705 : decode cL_tables 705 = .ok (.invokestatic 113, 3) := by decide +kernel
theorem dL_tables_708 : decode cL_tables 708 = .ok (.ifCond .eq 33, 3) := by decide +kernel
theorem dL_tables_711 : decode cL_tables 711 = .ok (.aload_n 0, 1) := by decide +kernel
theorem dL_tables_712 : decode cL_tables 712 = .ok (.iconst 0, 1) := by decide +kernel
theorem dL_tables_713 : decode cL_tables 713 = .ok (.iconst 0, 1) := by decide +kernel
theorem dL_tables_714 : decode cL_tables 714 = .ok (.iconst 1, 1) := by decide +kernel
theorem dL_tables_715 : decode cL_tables 715 = .ok (.invokevirtual 60, 3) := by decide +kernel
theorem dL_tables_718 : decode cL_tables 718 = .ok (.ifCond .ne 23, 3) := by decide +kernel
theorem dL_tables_721 : decode cL_tables 721 = .ok (.aload_n 0, 1) := by decide +kernel
theorem dL_tables_722 : decode cL_tables 722 = .ok (.iconst 0, 1) := by decide +kernel
theorem dL_tables_723 : decode cL_tables 723 = .ok (.invokevirtual 64, 3) := by decide +kernel
theorem dL_tables_726 : decode cL_tables 726 = .ok (.iconst 2, 1) := by decide +kernel
theorem dL_tables_727 : decode cL_tables 727 = .ok (.if_icmp .ne 14, 3) := by decide +kernel
theorem dL_tables_730 : decode cL_tables 730 = .ok (.aload_n 0, 1) := by decide +kernel
theorem dL_tables_731 : decode cL_tables 731 = .ok (.bipush 7, 2) := by decide +kernel
theorem dL_tables_733 : decode cL_tables 733 = .ok (.invokevirtual 43, 3) := by decide +kernel
theorem dL_tables_736 : decode cL_tables 736 = .ok (.bipush 7, 2) := by decide +kernel
theorem dL_tables_738 : decode cL_tables 738 = .ok (.if_icmp .eq 5, 3) := by decide +kernel
theorem dL_tables_741 : decode cL_tables 741 = .ok (.iconst 0, 1) := by decide +kernel
theorem dL_tables_742 : decode cL_tables 742 = .ok (.ireturn, 1) := by decide +kernel
theorem dL_tables_743 : decode cL_tables 743 = .ok (.aload_n 0, 1) := by decide +kernel
theorem dL_tables_744 : decode cL_tables 744 = .ok (.iconst 0, 1) := by decide +kernel
theorem dL_tables_745 : decode cL_tables 745 = .ok (.iconst 2, 1) := by decide +kernel
theorem dL_tables_746 : decode cL_tables 746 = .ok (.invokevirtual 40, 3) := by decide +kernel
theorem dL_tables_749 : decode cL_tables 749 = .ok (.bipush 8, 2) := by decide +kernel
theorem dL_tables_751 : decode cL_tables 751 = .ok (.if_icmp .ne 162, 3) := by decide +kernel
theorem dL_tables_754 : decode cL_tables 754 = .ok (.aload_n 0, 1) := by decide +kernel
theorem dL_tables_755 : decode cL_tables 755 = .ok (.iconst 0, 1) := by decide +kernel
theorem dL_tables_756 : decode cL_tables 756 = .ok (.iconst 2, 1) := by decide +kernel
theorem dL_tables_757 : decode cL_tables 757 = .ok (.invokevirtual 40, 3) := by decide +kernel
theorem dL_tables_760 : decode cL_tables 760 = .ok (.bipush 9, 2) := by decide +kernel
theorem dL_tables_762 : decode cL_tables 762 = .ok (.if_icmp .ne 151, 3) := by decide +kernel
theorem dL_tables_765 : decode cL_tables 765 = .ok (.aload_n 0, 1) := by decide +kernel
theorem dL_tables_766 : decode cL_tables 766 = .ok (.iconst 1, 1) := by decide +kernel
theorem dL_tables_767 : decode cL_tables 767 = .ok (.iconst 1, 1) := by decide +kernel
theorem dL_tables_768 : decode cL_tables 768 = .ok (.invokevirtual 13, 3) := by decide +kernel
theorem dL_tables_771 : decode cL_tables 771 = .ok (.iconst 1, 1) := by decide +kernel
theorem dL_tables_772 : decode cL_tables 772 = .ok (.if_icmp .ne 141, 3) := by decide +kernel
theorem dL_tables_775 : decode cL_tables 775 = .ok (.aload_n 0, 1) := by decide +kernel
theorem dL_tables_776 : decode cL_tables 776 = .ok (.bipush 9, 2) := by decide +kernel
theorem dL_tables_778 : decode cL_tables 778 = .ok (.iconst 0, 1) := by decide +kernel
theorem dL_tables_779 : decode cL_tables 779 = .ok (.invokevirtual 13, 3) := by decide +kernel
theorem dL_tables_782 : decode cL_tables 782 = .ok (.iconst 2, 1) := by decide +kernel
theorem dL_tables_783 : decode cL_tables 783 = .ok (.if_icmp .ne 130, 3) := by decide +kernel
theorem dL_tables_786 : decode cL_tables 786 = .ok (.aload_n 0, 1) := by decide +kernel
theorem dL_tables_787 : decode cL_tables 787 = .ok (.iconst 1, 1) := by decide +kernel
theorem dL_tables_788 : decode cL_tables 788 = .ok (.iconst 2, 1) := by decide +kernel
theorem dL_tables_789 : decode cL_tables 789 = .ok (.invokevirtual 13, 3) := by decide +kernel
theorem dL_tables_792 : decode cL_tables 792 = .ok (.iconst 3, 1) := by decide +kernel
theorem dL_tables_793 : decode cL_tables 793 = .ok (.if_icmp .ne 120, 3) := by decide +kernel
theorem dL_tables_796 : decode cL_tables 796 = .ok (.aload_n 0, 1) := by decide +kernel
theorem dL_tables_797 : decode cL_tables 797 = .ok (.bipush 9, 2) := by decide +kernel
theorem dL_tables_799 : decode cL_tables 799 = .ok (.iconst 0, 1) := by decide +kernel
theorem dL_tables_800 : decode cL_tables 800 = .ok (.invokevirtual 13, 3) := by decide +kernel
theorem dL_tables_803 : decode cL_tables 803 = .ok (.iconst 4, 1) := by decide +kernel
theorem dL_tables_804 : decode cL_tables 804 = .ok (.if_icmp .ne 109, 3) := by decide +kernel
theorem dL_tables_807 : decode cL_tables 807 = .ok (.aload_n 0, 1) := by decide +kernel
theorem dL_tables_808 : decode cL_tables 808 = .ok (.iconst 0, 1) := by decide +kernel
theorem dL_tables_809 : decode cL_tables 809 = .ok (.iconst 2, 1) := by decide +kernel
theorem dL_tables_810 : decode cL_tables 810 = .ok (.invokevirtual 40, 3) := by decide +kernel
theorem dL_tables_813 : decode cL_tables 813 = .ok (.bipush 10, 2) := by decide +kernel
theorem dL_tables_815 : decode cL_tables 815 = .ok (.if_icmp .ne 98, 3) := by decide +kernel
theorem dL_tables_818 : decode cL_tables 818 = .ok (.aload_n 0, 1) := by decide +kernel
theorem dL_tables_819 : decode cL_tables 819 = .ok (.bipush 9, 2) := by decide +kernel
theorem dL_tables_821 : decode cL_tables 821 = .ok (.invokevirtual 17, 3) := by decide +kernel
theorem dL_tables_824 : decode cL_tables 824 = .ok (.iconst 1, 1) := by decide +kernel
theorem dL_tables_825 : decode cL_tables 825 = .ok (.if_icmp .ne 88, 3) := by decide +kernel
theorem dL_tables_828 : decode cL_tables 828 = .ok (.aload_n 0, 1) := by decide +kernel
theorem dL_tables_829 : decode cL_tables 829 = .ok (.iconst 2, 1) := by decide +kernel
theorem dL_tables_830 : decode cL_tables 830 = .ok (.iconst 2, 1) := by decide +kernel
theorem dL_tables_831 : decode cL_tables 831 = .ok (.invokevirtual 27, 3) := by decide +kernel
theorem dL_tables_834 : decode cL_tables 834 = .ok (.ifCond .ne 79, 3) := by decide +kernel
theorem dL_tables_837 : decode cL_tables 837 = .ok (.aload_n 0, 1) := by decide +kernel
theorem dL_tables_838 : decode cL_tables 838 = .ok (.bipush 40, 2) := by decide +kernel
theorem dL_tables_840 : decode cL_tables 840 = .ok (.invokevirtual 43, 3) := by decide +kernel
theorem dL_tables_843 : decode cL_tables 843 = .ok (.bipush 47, 2) := by decide +kernel
theorem dL_tables_845 : decode cL_tables 845 = .ok (.if_icmp .ne 68, 3) := by decide +kernel
theorem dL_tables_848 : decode cL_tables 848 = .ok (.aload_n 0, 1) := by decide +kernel
theorem dL_tables_849 : decode cL_tables 849 = .ok (.iconst 1, 1) := by decide +kernel
theorem dL_tables_850 : decode cL_tables 850 = .ok (.iconst 2, 1) := by decide +kernel
theorem dL_tables_851 : decode cL_tables 851 = .ok (.invokevirtual 13, 3) := by decide +kernel
theorem dL_tables_854 : decode cL_tables 854 = .ok (.iconst 1, 1) := by decide +kernel
theorem dL_tables_855 : decode cL_tables 855 = .ok (.if_icmp .ne 58, 3) := by decide +kernel
theorem dL_tables_858 : decode cL_tables 858 = .ok (.aload_n 0, 1) := by decide +kernel
theorem dL_tables_859 : decode cL_tables 859 = .ok (.bipush 9, 2) := by decide +kernel
theorem dL_tables_861 : decode cL_tables 861 = .ok (.iconst 0, 1) := by decide +kernel
theorem dL_tables_862 : decode cL_tables 862 = .ok (.invokevirtual 13, 3) := by decide +kernel
theorem dL_tables_865 : decode cL_tables 865 = .ok (.iconst 2, 1) := by decide +kernel
theorem dL_tables_866 : decode cL_tables 866 = .ok (.if_icmp .ne 47, 3) := by decide +kernel
theorem dL_tables_869 : decode cL_tables 869 = .ok (.aload_n 0, 1) := by decide +kernel
theorem dL_tables_870 : decode cL_tables 870 = .ok (.iconst 1, 1) := by decide +kernel
theorem dL_tables_871 : decode cL_tables 871 = .ok (.iconst 1, 1) := by decide +kernel
theorem dL_tables_872 : decode cL_tables 872 = .ok (.invokevirtual 13, 3) := by decide +kernel
theorem dL_tables_875 : decode cL_tables 875 = .ok (.iconst 3, 1) := by decide +kernel
theorem dL_tables_876 : decode cL_tables 876 = .ok (.if_icmp .ne 37, 3) := by decide +kernel
theorem dL_tables_879 : decode cL_tables 879 = .ok (.aload_n 0, 1) := by decide +kernel
theorem dL_tables_880 : decode cL_tables 880 = .ok (.bipush 9, 2) := by decide +kernel
theorem dL_tables_882 : decode cL_tables 882 = .ok (.iconst 0, 1) := by decide +kernel
theorem dL_tables_883 : decode cL_tables 883 = .ok (.invokevirtual 13, 3) := by decide +kernel
theorem dL_tables_886 : decode cL_tables 886 = .ok (.iconst 4, 1) := by decide +kernel
theorem dL_tables_887 : decode cL_tables 887 = .ok (.if_icmp .ne 26, 3) := by decide +kernel
theorem dL_tables_890 : decode cL_tables 890 = .ok (.aload_n 0, 1) := by decide +kernel
theorem dL_tables_891 : decode cL_tables 891 = .ok (.iconst 4, 1) := by decide +kernel
theorem dL_tables_892 : decode cL_tables 892 = .ok (.iconst 2, 1) := by decide +kernel
theorem dL_tables_893 : decode cL_tables 893 = .ok (.invokevirtual 40, 3) := by decide +kernel
theorem dL_tables_896 : decode cL_tables 896 = .ok (.bipush 11, 2) := by decide +kernel
theorem dL_tables_898 : decode cL_tables 898 = .ok (.if_icmp .ne 15, 3) := by decide +kernel
theorem dL_tables_901 : decode cL_tables 901 = .ok (.aload_n 0, 1) := by decide +kernel
theorem dL_tables_902 : decode cL_tables 902 = .ok (.bipush 7, 2) := by decide +kernel
theorem dL_tables_904 : decode cL_tables 904 = .ok (.iconst 0, 1) := by decide +kernel
theorem dL_tables_905 : decode cL_tables 905 = .ok (.invokevirtual 40, 3) := by decide +kernel
theorem dL_tables_908 : decode cL_tables 908 = .ok (.bipush 12, 2) := by decide +kernel
theorem dL_tables_910 : decode cL_tables 910 = .ok (.if_icmp .eq 5, 3) := by decide +kernel
theorem dL_tables_913 : decode cL_tables 913 = .ok (.iconst 0, 1) := by decide +kernel
theorem dL_tables_914 : decode cL_tables 914 = .ok (.ireturn, 1) := by decide +kernel
theorem dL_tables_915 : decode cL_tables 915 = .ok (.iconst 0, 1) := by decide +kernel
theorem dL_tables_916 : decode cL_tables 916 = .ok (.istore_n 1, 1) := by decide +kernel
theorem dL_tables_917 : decode cL_tables 917 = .ok (.iload_n 1, 1) := by decide +kernel
theorem dL_tables_918 : decode cL_tables 918 = .ok (.bipush 8, 2) := by decide +kernel
theorem dL_tables_920 : decode cL_tables 920 = .ok (.if_icmp .ge 18, 3) := by decide +kernel
theorem dL_tables_923 : decode cL_tables 923 = .ok (.aload_n 0, 1) := by decide +kernel
theorem dL_tables_924 : decode cL_tables 924 = .ok (.invokevirtual 107, 3) := by decide +kernel
theorem dL_tables_927 : decode cL_tables 927 = .ok (.ifCond .ge 5, 3) := by decide +kernel
theorem dL_tables_930 : decode cL_tables 930 = .ok (.iconst 0, 1) := by decide +kernel
theorem dL_tables_931 : decode cL_tables 931 = .ok (.ireturn, 1) := by decide +kernel
theorem dL_tables_932 : decode cL_tables 932 = .ok (.iinc 1 1, 3) := by decide +kernel
theorem dL_tables_935 : decode cL_tables 935 = .ok (.goto (-18), 3) := by decide +kernel
theorem dL_tables_938 : decode cL_tables 938 = .ok (.aload_n 0, 1) := by decide +kernel
theorem dL_tables_939 : decode cL_tables 939 = .ok (.invokevirtual 107, 3) := by decide +kernel
theorem dL_tables_942 : decode cL_tables 942 = .ok (.iconst (-1), 1) := by decide +kernel
theorem dL_tables_943 : decode cL_tables 943 = .ok (.if_icmp .ne 165, 3) := by decide +kernel
theorem dL_tables_946 : decode cL_tables 946 = .ok (.aload_n 0, 1) := by decide +kernel
theorem dL_tables_947 : decode cL_tables 947 = .ok (.bipush 8, 2) := by decide +kernel
theorem dL_tables_949 : decode cL_tables 949 = .ok (.iconst 5, 1) := by decide +kernel
theorem dL_tables_950 : decode cL_tables 950 = .ok (.iconst 0, 1) := by decide +kernel
theorem dL_tables_951 : decode cL_tables 951 = .ok (.iconst 0, 1) := by decide +kernel
theorem dL_tables_952 : decode cL_tables 952 = .ok (.iconst 1, 1) := by decide +kernel
theorem dL_tables_953 : decode cL_tables 953 = .ok (.invokestatic 113, 3) := by decide +kernel
theorem dL_tables_956 : decode cL_tables 956 = .ok (.ifCond .eq 152, 3) := by decide +kernel
theorem dL_tables_959 : decode cL_tables 959 = .ok (.aload_n 0, 1) := by decide +kernel
theorem dL_tables_960 : decode cL_tables 960 = .ok (.bipush 10, 2) := by decide +kernel
theorem dL_tables_962 : decode cL_tables 962 = .ok (.iconst 0, 1) := by decide +kernel
theorem dL_tables_963 : decode cL_tables 963 = .ok (.iconst (-1), 1) := by decide +kernel
theorem dL_tables_964 : decode cL_tables 964 = .ok (.bipush 25, 2) := by decide +kernel
theorem dL_tables_966 : decode cL_tables 966 = .ok (.iconst 1, 1) := by decide +kernel
theorem dL_tables_967 : decode cL_tables 967 = .ok (.invokestatic 113, 3) := by decide +kernel
theorem dL_tables_970 : decode cL_tables 970 = .ok (.ifCond .eq 138, 3) := by decide +kernel
theorem dL_tables_973 : decode cL_tables 973 = .ok (.aload_n 0, 1) := by decide +kernel
theorem dL_tables_974 : decode cL_tables 974 = .ok (.bipush 11, 2) := by decide +kernel
theorem dL_tables_976 : decode cL_tables 976 = .ok (.iconst 0, 1) := by decide +kernel
theorem dL_tables_977 : decode cL_tables 977 = .ok (.iconst (-1), 1) := by decide +kernel
theorem dL_tables_978 : decode cL_tables 978 = .ok (.bipush 25, 2) := by decide +kernel
theorem dL_tables_980 : decode cL_tables 980 = .ok (.iconst 1, 1) := by decide +kernel
theorem dL_tables_981 : decode cL_tables 981 = .ok (.invokestatic 113, 3) := by decide +kernel
theorem dL_tables_984 : decode cL_tables 984 = .ok (.ifCond .eq 124, 3) := by decide +kernel
theorem dL_tables_987 : decode cL_tables 987 = .ok (.aload_n 0, 1) := by decide +kernel
theorem dL_tables_988 : decode cL_tables 988 = .ok (.iconst 4, 1) := by decide +kernel
theorem dL_tables_989 : decode cL_tables 989 = .ok (.iconst 0, 1) := by decide +kernel
theorem dL_tables_990 : decode cL_tables 990 = .ok (.iconst 0, 1) := by decide +kernel
theorem dL_tables_991 : decode cL_tables 991 = .ok (.iconst 2, 1) := by decide +kernel
theorem dL_tables_992 : decode cL_tables 992 = .ok (.bipush 47, 2) := by decide +kernel
theorem dL_tables_994 : decode cL_tables 994 = .ok (.bipush 47, 2) := by decide +kernel
theorem dL_tables_996 : decode cL_tables 996 = .ok (.invokestatic 116, 3) := by decide +kernel
theorem dL_tables_999 : decode cL_tables 999 = .ok (.ifCond .eq 109, 3) := by decide +kernel
theorem dL_tables_1002 : decode cL_tables 1002 = .ok (.aload_n 0, 1) := by decide +kernel
theorem dL_tables_1003 : decode cL_tables 1003 = .ok (.bipush 7, 2) := by decide +kernel
theorem dL_tables_1005 : decode cL_tables 1005 = .ok (.iconst 0, 1) := by decide +kernel
theorem dL_tables_1006 : decode cL_tables 1006 = .ok (.iconst 1, 1) := by decide +kernel
theorem dL_tables_1007 : decode cL_tables 1007 = .ok (.iconst 2, 1) := by decide +kernel
theorem dL_tables_1008 : decode cL_tables 1008 = .ok (.bipush 47, 2) := by decide +kernel
theorem dL_tables_1010 : decode cL_tables 1010 = .ok (.bipush 47, 2) := by decide +kernel
theorem dL_tables_1012 : decode cL_tables 1012 = .ok (.invokestatic 116, 3) := by decide +kernel
theorem dL_tables_1015 : decode cL_tables 1015 = .ok (.ifCond .eq 93, 3) := by decide +kernel
theorem dL_tables_1018 : decode cL_tables 1018 = .ok (.aload_n 0, 1) := by decide +kernel
theorem dL_tables_1019 : decode cL_tables 1019 = .ok (.iconst 0, 1) := by decide +kernel
theorem dL_tables_1020 : decode cL_tables 1020 = .ok (.iconst 0, 1) := by decide +kernel
theorem dL_tables_1021 : decode cL_tables 1021 = .ok (.iconst 2, 1) := by decide +kernel
theorem dL_tables_1022 : decode cL_tables 1022 = .ok (.iconst 1, 1) := by decide +kernel
theorem dL_tables_1023 : decode cL_tables 1023 = .ok (.bipush 47, 2) := by decide +kernel
theorem dL_tables_1025 : decode cL_tables 1025 = .ok (.bipush 7, 2) := by decide +kernel
theorem dL_tables_1027 : decode cL_tables 1027 = .ok (.invokestatic 116, 3) := by decide +kernel
theorem dL_tables_1030 : decode cL_tables 1030 = .ok (.ifCond .eq 78, 3) := by decide +kernel
theorem dL_tables_1033 : decode cL_tables 1033 = .ok (.aload_n 0, 1) := by decide +kernel
theorem dL_tables_1034 : decode cL_tables 1034 = .ok (.iconst 1, 1) := by decide +kernel
theorem dL_tables_1035 : decode cL_tables 1035 = .ok (.iconst 0, 1) := by decide +kernel
theorem dL_tables_1036 : decode cL_tables 1036 = .ok (.iconst 3, 1) := by decide +kernel
theorem dL_tables_1037 : decode cL_tables 1037 = .ok (.iconst 0, 1) := by decide +kernel
theorem dL_tables_1038 : decode cL_tables 1038 = .ok (.iconst 0, 1) := by decide +kernel
theorem dL_tables_1039 : decode cL_tables 1039 = .ok (.iconst 0, 1) := by decide +kernel
theorem dL_tables_1040 : decode cL_tables 1040 = .ok (.invokestatic 116, 3) := by decide +kernel
theorem dL_tables_1043 : decode cL_tables 1043 = .ok (.ifCond .eq 65, 3) := by decide +kernel
theorem dL_tables_1046 : decode cL_tables 1046 = .ok (.aload_n 0, 1) := by decide +kernel
theorem dL_tables_1047 : decode cL_tables 1047 = .ok (.iconst 2, 1) := by decide +kernel
theorem dL_tables_1048 : decode cL_tables 1048 = .ok (.invokevirtual 46, 3) := by decide +kernel
theorem dL_tables_1051 : decode cL_tables 1051 = .ok (.iconst 1, 1) := by decide +kernel
theorem dL_tables_1052 : decode cL_tables 1052 = .ok (.if_icmp .ne 56, 3) := by decide +kernel
theorem dL_tables_1055 : decode cL_tables 1055 = .ok (.aload_n 0, 1) := by decide +kernel
theorem dL_tables_1056 : decode cL_tables 1056 = .ok (.invokevirtual 107, 3) := by decide +kernel
theorem dL_tables_1059 : decode cL_tables 1059 = .ok (.bipush 7, 2) := by decide +kernel
theorem dL_tables_1061 : decode cL_tables 1061 = .ok (.if_icmp .ne 47, 3) := by decide +kernel
theorem dL_tables_1064 : decode cL_tables 1064 = .ok (.aload_n 0, 1) := by decide +kernel
theorem dL_tables_1065 : decode cL_tables 1065 = .ok (.bipush 7, 2) := by decide +kernel
theorem dL_tables_1067 : decode cL_tables 1067 = .ok (.iconst 5, 1) := by decide +kernel
theorem dL_tables_1068 : decode cL_tables 1068 = .ok (.iconst 0, 1) := by decide +kernel
theorem dL_tables_1069 : decode cL_tables 1069 = .ok (.iconst 0, 1) := by decide +kernel
theorem dL_tables_1070 : decode cL_tables 1070 = .ok (.iconst 1, 1) := by decide +kernel
theorem dL_tables_1071 : decode cL_tables 1071 = .ok (.invokestatic 113, 3) := by decide +kernel
theorem dL_tables_1074 : decode cL_tables 1074 = .ok (.ifCond .eq 34, 3) := by decide +kernel
theorem dL_tables_1077 : decode cL_tables 1077 = .ok (.aload_n 0, 1) := by decide +kernel
theorem dL_tables_1078 : decode cL_tables 1078 = .ok (.bipush 7, 2) := by decide +kernel
theorem dL_tables_1080 : decode cL_tables 1080 = .ok (.iconst 0, 1) := by decide +kernel
theorem dL_tables_1081 : decode cL_tables 1081 = .ok (.iconst 2, 1) := by decide +kernel
theorem dL_tables_1082 : decode cL_tables 1082 = .ok (.iconst 1, 1) := by decide +kernel
theorem dL_tables_1083 : decode cL_tables 1083 = .ok (.bipush 47, 2) := by decide +kernel
theorem dL_tables_1085 : decode cL_tables 1085 = .ok (.bipush 47, 2) := by decide +kernel
theorem dL_tables_1087 : decode cL_tables 1087 = .ok (.invokestatic 116, 3) := by decide +kernel
theorem dL_tables_1090 : decode cL_tables 1090 = .ok (.ifCond .eq 18, 3) := by decide +kernel
theorem dL_tables_1093 : decode cL_tables 1093 = .ok (.aload_n 0, 1) := by decide +kernel
theorem dL_tables_1094 : decode cL_tables 1094 = .ok (.iconst 0, 1) := by decide +kernel
theorem dL_tables_1095 : decode cL_tables 1095 = .ok (.iconst 0, 1) := by decide +kernel
theorem dL_tables_1096 : decode cL_tables 1096 = .ok (.iconst 1, 1) := by decide +kernel
theorem dL_tables_1097 : decode cL_tables 1097 = .ok (.iconst 1, 1) := by decide +kernel
theorem dL_tables_1098 : decode cL_tables 1098 = .ok (.bipush 47, 2) := by decide +kernel
theorem dL_tables_1100 : decode cL_tables 1100 = .ok (.bipush 7, 2) := by decide +kernel
theorem dL_tables_1102 : decode cL_tables 1102 = .ok (.invokestatic 116, 3) := by decide +kernel
theorem dL_tables_1105 : decode cL_tables 1105 = .ok (.ifCond .ne 5, 3) := by decide +kernel
theorem dL_tables_1108 : decode cL_tables 1108 = .ok (.iconst 0, 1) := by decide +kernel
theorem dL_tables_1109 : decode cL_tables 1109 = .ok (.ireturn, 1) := by decide +kernel
theorem dL_tables_1110 : decode cL_tables 1110 = .ok (.aload_n 0, 1) := by decide +kernel
theorem dL_tables_1111 : decode cL_tables 1111 = .ok (.iconst 3, 1) := by decide +kernel
theorem dL_tables_1112 : decode cL_tables 1112 = .ok (.bipush 13, 2) := by decide +kernel
theorem dL_tables_1114 : decode cL_tables 1114 = .ok (.invokestatic 99, 3) := by decide +kernel
theorem dL_tables_1117 : decode cL_tables 1117 = .ok (.ireturn, 1) := by decide +kernel
