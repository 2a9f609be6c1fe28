theorem dL_machine_0 : decode cL_machine 0 = .ok (.new 8, 3) := by decide +kernel
theorem dL_machine_3 : decode cL_machine 3 = .ok (.dup, 1) := by decide +kernel
theorem dL_machine_4 : decode cL_machine 4 = .ok (.invokespecial 85, 3) := by decide +kernel
theorem dL_machine_7 : decode cL_machine 7 = .ok (.astore_n 0, 1) := by decide +kernel
theorem dL_machine_8 : decode cL_machine 8 = .ok (.aload_n 0, 1) := by decide +kernel
theorem dL_machine_9 : decode cL_machine 9 = .ok (.iconst 1, 1) := by decide +kernel
theorem dL_machine_10 : decode cL_machine 10 = .ok (.iconst 0, 1) := by decide +kernel
theorem dL_machine_11 : decode cL_machine 11 = .ok (.iconst 0, 1) := by decide +kernel
theorem dL_machine_12 : decode cL_machine 12 = .ok (.iconst 0, 1) := by decide +kernel
theorem dL_machine_13 : decode cL_machine 13 = .ok (.iconst 0, 1) := by decide +kernel
theorem dL_machine_14 : decode cL_machine 14 = .ok (.iconst 0, 1) := by decide +kernel
theorem dL_machine_15 : decode cL_machine 15 = .ok (.invokestatic 86, 3) := by decide +kernel
theorem dL_machine_18 : decode cL_machine 18 = .ok (.ifCond .eq 96, 3) := by decide +kernel
theorem dL_machine_21 : decode cL_machine 21 = .ok (.aload_n 0, 1) := by decide +kernel
theorem dL_machine_22 : decode cL_machine 22 = .ok (.sipush 9200, 3) := by decide +kernel
theorem dL_machine_25 : decode cL_machine 25 = .ok (.iconst 4, 1) := by decide +kernel
theorem dL_machine_26 : decode cL_machine 26 = .ok (.invokestatic 90, 3) := by decide +kernel
theorem dL_machine_29 : decode cL_machine 29 = .ok (.iconst 4, 1) := by decide +kernel
theorem dL_machine_30 : decode cL_machine 30 = .ok (.if_icmp .ne 84, 3) := by decide +kernel
theorem dL_machine_33 : decode cL_machine 33 = .ok (.aload_n 0, 1) := by decide +kernel
theorem dL_machine_34 : decode cL_machine 34 = .ok (.iconst 3, 1) := by decide +kernel
theorem dL_machine_35 : decode cL_machine 35 = .ok (.invokevirtual 17, 3) := by decide +kernel
theorem dL_machine_38 : decode cL_machine 38 = .ok (.iconst 1, 1) := by decide +kernel
theorem dL_machine_39 : decode cL_machine 39 = .ok (.if_icmp .ne 75, 3) := by decide +kernel
theorem dL_machine_42 : decode cL_machine 42 = .ok (.aload_n 0, 1) := by decide +kernel
theorem dL_machine_43 : decode cL_machine 43 = .ok (.bipush 9, 2) := by decide +kernel
theorem dL_machine_45 : decode cL_machine 45 = .ok (.iconst 4, 1) := by decide +kernel
theorem dL_machine_46 : decode cL_machine 46 = .ok (.iconst 2, 1) := by decide +kernel
theorem dL_machine_47 : decode cL_machine 47 = .ok (.iconst 0, 1) := by decide +kernel
theorem dL_machine_48 : decode cL_machine 48 = .ok (.iconst 0, 1) := by decide +kernel
theorem dL_machine_49 : decode cL_machine 49 = .ok (.iconst 0, 1) := by decide +kernel
theorem dL_machine_50 : decode cL_machine 50 = .ok (.invokestatic 86, 3) := by decide +kernel
theorem dL_machine_53 : decode cL_machine 53 = .ok (.ifCond .eq 61, 3) := by decide +kernel
theorem dL_machine_56 : decode cL_machine 56 = .ok (.aload_n 0, 1) := by decide +kernel
theorem dL_machine_57 : decode cL_machine 57 = .ok (.iconst 4, 1) := by decide +kernel
theorem dL_machine_58 : decode cL_machine 58 = .ok (.invokevirtual 17, 3) := by decide +kernel
theorem dL_machine_61 : decode cL_machine 61 = .ok (.iconst 2, 1) := by decide +kernel
theorem dL_machine_62 : decode cL_machine 62 = .ok (.if_icmp .ne 52, 3) := by decide +kernel
theorem dL_machine_65 : decode cL_machine 65 = .ok (.aload_n 0, 1) := by decide +kernel
theorem dL_machine_66 : decode cL_machine 66 = .ok (.iconst 4, 1) := by decide +kernel
theorem dL_machine_67 : decode cL_machine 67 = .ok (.iconst 0, 1) := by decide +kernel
theorem dL_machine_68 : decode cL_machine 68 = .ok (.iconst 4, 1) := by decide +kernel
theorem dL_machine_69 : decode cL_machine 69 = .ok (.iconst 1, 1) := by decide +kernel
theorem dL_machine_70 : decode cL_machine 70 = .ok (.bipush 7, 2) := by decide +kernel
theorem dL_machine_72 : decode cL_machine 72 = .ok (.iconst 0, 1) := by decide +kernel
theorem dL_machine_73 : decode cL_machine 73 = .ok (.invokestatic 86, 3) := by decide +kernel
theorem dL_machine_76 : decode cL_machine 76 = .ok (.ifCond .eq 38, 3) := by decide +kernel
theorem dL_machine_79 : decode cL_machine 79 = .ok (.aload_n 0, 1) := by decide +kernel
theorem dL_machine_80 : decode cL_machine 80 = .ok (.iconst 3, 1) := by decide +kernel
theorem dL_machine_81 : decode cL_machine 81 = .ok (.iconst 2, 1) := by decide +kernel
theorem dL_machine_82 : decode cL_machine 82 = .ok (.iconst 3, 1) := by decide +kernel
theorem dL_machine_83 : decode cL_machine 83 = .ok (.iconst 0, 1) := by decide +kernel
theorem dL_machine_84 : decode cL_machine 84 = .ok (.iconst 0, 1) := by decide +kernel
theorem dL_machine_85 : decode cL_machine 85 = .ok (.iconst 0, 1) := by decide +kernel
theorem dL_machine_86 : decode cL_machine 86 = .ok (.invokestatic 86, 3) := by decide +kernel
theorem dL_machine_89 : decode cL_machine 89 = .ok (.ifCond .eq 25, 3) := by decide +kernel
theorem dL_machine_92 : decode cL_machine 92 = .ok (.aload_n 0, 1) := by decide +kernel
theorem dL_machine_93 : decode cL_machine 93 = .ok (.invokevirtual 94, 3) := by decide +kernel
theorem dL_machine_96 : decode cL_machine 96 = .ok (.iconst 4, 1) := by decide +kernel
theorem dL_machine_97 : decode cL_machine 97 = .ok (.if_icmp .ne 17, 3) := by decide +kernel
theorem dL_machine_100 : decode cL_machine 100 = .ok (.aload_n 0, 1) := by decide +kernel
theorem dL_machine_101 : decode cL_machine 101 = .ok (.bipush 9, 2) := by decide +kernel
theorem dL_machine_103 : decode cL_machine 103 = .ok (.iconst 0, 1) := by decide +kernel
theorem dL_machine_104 : decode cL_machine 104 = .ok (.iconst 0, 1) := by decide +kernel
theorem dL_machine_105 : decode cL_machine 105 = .ok (.iconst 0, 1) := by decide +kernel
theorem dL_machine_106 : decode cL_machine 106 = .ok (.iconst 0, 1) := by decide +kernel
theorem dL_machine_107 : decode cL_machine 107 = .ok (.iconst 0, 1) := by decide +kernel
theorem dL_machine_108 : decode cL_machine 108 = .ok (.invokestatic 86, 3) := by decide +kernel
theorem dL_machine_111 : decode cL_machine 111 = .ok (.ifCond .ne 5, 3) := by decide +kernel
theorem dL_machine_114 : decode cL_machine 114 = .ok (.iconst 0, 1) := by decide +kernel
theorem dL_machine_115 : decode cL_machine 115 = .ok (.ireturn, 1) := by decide +kernel
theorem dL_machine_116 : decode cL_machine 116 = .ok (.aload_n 0, 1) := by decide +kernel
theorem dL_machine_117 : decode cL_machine 117 = .ok (.iconst 1, 1) := by decide +kernel
theorem dL_machine_118 : decode cL_machine 118 = .ok (.bipush 99, 2) := by decide +kernel
theorem dL_machine_120 : decode cL_machine 120 = .ok (.invokevirtual 13, 3) := by decide +kernel
theorem dL_machine_123 : decode cL_machine 123 = .ok (.iconst 1, 1) := by decide +kernel
theorem dL_machine_124 : decode cL_machine 124 = .ok (.if_icmp .ne 50, 3) := by decide +kernel
theorem dL_machine_127 : decode cL_machine 127 = .ok (.aload_n 0, 1) := by decide +kernel
theorem dL_machine_128 : decode cL_machine 128 = .ok (.sipush 4545, 3) := by decide +kernel
theorem dL_machine_131 : decode cL_machine 131 = .ok (.iconst 4, 1) := by decide +kernel
theorem dL_machine_132 : decode cL_machine 132 = .ok (.invokestatic 90, 3) := by decide +kernel
theorem dL_machine_135 : decode cL_machine 135 = .ok (.iconst 5, 1) := by decide +kernel
theorem dL_machine_136 : decode cL_machine 136 = .ok (.if_icmp .ne 38, 3) := by decide +kernel
theorem dL_machine_139 : decode cL_machine 139 = .ok (.aload_n 0, 1) := by decide +kernel
theorem dL_machine_140 : decode cL_machine 140 = .ok (.bipush 9, 2) := by decide +kernel
theorem dL_machine_142 : decode cL_machine 142 = .ok (.iconst 4, 1) := by decide +kernel
theorem dL_machine_143 : decode cL_machine 143 = .ok (.iconst 5, 1) := by decide +kernel
theorem dL_machine_144 : decode cL_machine 144 = .ok (.iconst 0, 1) := by decide +kernel
theorem dL_machine_145 : decode cL_machine 145 = .ok (.iconst 0, 1) := by decide +kernel
theorem dL_machine_146 : decode cL_machine 146 = .ok (.iconst 0, 1) := by decide +kernel
theorem dL_machine_147 : decode cL_machine 147 = .ok (.invokestatic 86, 3) := by decide +kernel
theorem dL_machine_150 : decode cL_machine 150 = .ok (.ifCond .eq 24, 3) := by decide +kernel
theorem dL_machine_153 : decode cL_machine 153 = .ok (.aload_n 0, 1) := by decide +kernel
theorem dL_machine_154 : decode cL_machine 154 = .ok (.iconst 4, 1) := by decide +kernel
theorem dL_machine_155 : decode cL_machine 155 = .ok (.iconst 2, 1) := by decide +kernel
theorem dL_machine_156 : decode cL_machine 156 = .ok (.iconst 4, 1) := by decide +kernel
theorem dL_machine_157 : decode cL_machine 157 = .ok (.iconst 0, 1) := by decide +kernel
theorem dL_machine_158 : decode cL_machine 158 = .ok (.iconst 0, 1) := by decide +kernel
theorem dL_machine_159 : decode cL_machine 159 = .ok (.iconst 0, 1) := by decide +kernel
theorem dL_machine_160 : decode cL_machine 160 = .ok (.invokestatic 86, 3) := by decide +kernel
theorem dL_machine_163 : decode cL_machine 163 = .ok (.ifCond .eq 11, 3) := by decide +kernel
theorem dL_machine_166 : decode cL_machine 166 = .ok (.aload_n 0, 1) := by decide +kernel
theorem dL_machine_167 : decode cL_machine 167 = .ok (.invokevirtual 94, 3) := by decide +kernel
theorem dL_machine_170 : decode cL_machine 170 = .ok (.iconst 5, 1) := by decide +kernel
theorem dL_machine_171 : decode cL_machine 171 = .ok (.if_icmp .eq 5, 3) := by decide +kernel
theorem dL_machine_174 : decode cL_machine 174 = .ok (.iconst 0, 1) := by decide +kernel
theorem dL_machine_175 : decode cL_machine 175 = .ok (.ireturn, 1) := by decide +kernel
theorem dL_machine_176 : decode cL_machine 176 = .ok (.aload_n 0, 1) := by decide +kernel
theorem dL_machine_177 : decode cL_machine 177 = .ok (.iconst 1, 1) := by decide +kernel
theorem dL_machine_178 : decode cL_machine 178 = .ok (.iconst 5, 1) := by decide +kernel
theorem dL_machine_179 : decode cL_machine 179 = .ok (.invokevirtual 13, 3) := by decide +kernel
theorem dL_machine_182 : decode cL_machine 182 = .ok (.iconst 1, 1) := by decide +kernel
theorem dL_machine_183 : decode cL_machine 183 = .ok (.if_icmp .ne 98, 3) := by decide +kernel
theorem dL_machine_186 : decode cL_machine 186 = .ok (.aload_n 0, 1) := by decide +kernel
theorem dL_machine_187 : decode cL_machine 187 = .ok (.sipush 4545, 3) := by decide +kernel
theorem dL_machine_190 : decode cL_machine 190 = .ok (.iconst 4, 1) := by decide +kernel
theorem dL_machine_191 : decode cL_machine 191 = .ok (.invokestatic 90, 3) := by decide +kernel
theorem dL_machine_194 : decode cL_machine 194 = .ok (.iconst 5, 1) := by decide +kernel
theorem dL_machine_195 : decode cL_machine 195 = .ok (.if_icmp .ne 86, 3) := by decide +kernel
theorem dL_machine_198 : decode cL_machine 198 = .ok (.aload_n 0, 1) := by decide +kernel
theorem dL_machine_199 : decode cL_machine 199 = .ok (.bipush 95, 2) := by decide +kernel
theorem dL_machine_201 : decode cL_machine 201 = .ok (.iconst 2, 1) := by decide +kernel
theorem dL_machine_202 : decode cL_machine 202 = .ok (.invokestatic 90, 3) := by decide +kernel
theorem dL_machine_205 : decode cL_machine 205 = .ok (.bipush 7, 2) := by decide +kernel
theorem dL_machine_207 : decode cL_machine 207 = .ok (.if_icmp .ne 74, 3) := by decide +kernel
theorem dL_machine_210 : decode cL_machine 210 = .ok (.aload_n 0, 1) := by decide +kernel
theorem dL_machine_211 : decode cL_machine 211 = .ok (.bipush 99, 2) := by decide +kernel
theorem dL_machine_213 : decode cL_machine 213 = .ok (.iconst 0, 1) := by decide +kernel
theorem dL_machine_214 : decode cL_machine 214 = .ok (.bipush 7, 2) := by decide +kernel
theorem dL_machine_216 : decode cL_machine 216 = .ok (.iconst 1, 1) := by decide +kernel
theorem dL_machine_217 : decode cL_machine 217 = .ok (.sipush 625, 3) := by decide +kernel
theorem dL_machine_220 : decode cL_machine 220 = .ok (.iconst 0, 1) := by decide +kernel
theorem dL_machine_221 : decode cL_machine 221 = .ok (.invokestatic 86, 3) := by decide +kernel
theorem dL_machine_224 : decode cL_machine 224 = .ok (.ifCond .eq 57, 3) := by decide +kernel
theorem dL_machine_227 : decode cL_machine 227 = .ok (.aload_n 0, 1) := by decide +kernel
theorem dL_machine_228 : decode cL_machine 228 = .ok (.iconst 4, 1) := by decide +kernel
theorem dL_machine_229 : decode cL_machine 229 = .ok (.iconst 1, 1) := by decide +kernel
theorem dL_machine_230 : decode cL_machine 230 = .ok (.invokestatic 90, 3) := by decide +kernel
theorem dL_machine_233 : decode cL_machine 233 = .ok (.bipush 8, 2) := by decide +kernel
theorem dL_machine_235 : decode cL_machine 235 = .ok (.if_icmp .ne 46, 3) := by decide +kernel
theorem dL_machine_238 : decode cL_machine 238 = .ok (.aload_n 0, 1) := by decide +kernel
theorem dL_machine_239 : decode cL_machine 239 = .ok (.bipush 99, 2) := by decide +kernel
theorem dL_machine_241 : decode cL_machine 241 = .ok (.iconst 4, 1) := by decide +kernel
theorem dL_machine_242 : decode cL_machine 242 = .ok (.bipush 8, 2) := by decide +kernel
theorem dL_machine_244 : decode cL_machine 244 = .ok (.iconst 1, 1) := by decide +kernel
theorem dL_machine_245 : decode cL_machine 245 = .ok (.sipush 625, 3) := by decide +kernel
theorem dL_machine_248 : decode cL_machine 248 = .ok (.iconst 0, 1) := by decide +kernel
theorem dL_machine_249 : decode cL_machine 249 = .ok (.invokestatic 86, 3) := by decide +kernel
theorem dL_machine_252 : decode cL_machine 252 = .ok (.ifCond .eq 29, 3) := by decide +kernel
theorem dL_machine_255 : decode cL_machine 255 = .ok (.aload_n 0, 1) := by decide +kernel
theorem dL_machine_256 : decode cL_machine 256 = .ok (.bipush 7, 2) := by decide +kernel
theorem dL_machine_258 : decode cL_machine 258 = .ok (.iconst 2, 1) := by decide +kernel
theorem dL_machine_259 : decode cL_machine 259 = .ok (.bipush 7, 2) := by decide +kernel
theorem dL_machine_261 : decode cL_machine 261 = .ok (.iconst 1, 1) := by decide +kernel
theorem dL_machine_262 : decode cL_machine 262 = .ok (.sipush 625, 3) := by decide +kernel
theorem dL_machine_265 : decode cL_machine 265 = .ok (.iconst 0, 1) := by decide +kernel
theorem dL_machine_266 : decode cL_machine 266 = .ok (.invokestatic 86, 3) := by decide +kernel
theorem dL_machine_269 : decode cL_machine 269 = .ok (.ifCond .eq 12, 3) := by decide +kernel
theorem dL_machine_272 : decode cL_machine 272 = .ok (.aload_n 0, 1) := by decide +kernel
theorem dL_machine_273 : decode cL_machine 273 = .ok (.invokevirtual 94, 3) := by decide +kernel
theorem dL_machine_276 : decode cL_machine 276 = .ok (.bipush 8, 2) := by decide +kernel
theorem dL_machine_278 : decode cL_machine 278 = .ok (.if_icmp .eq 5, 3) := by decide +kernel
theorem dL_machine_281 : decode cL_machine 281 = .ok (.iconst 0, 1) := by decide +kernel
theorem dL_machine_282 : decode cL_machine 282 = .ok (.ireturn, 1) := by decide +kernel
theorem dL_machine_283 : decode cL_machine 283 = .ok (.aload_n 0, 1) := by decide +kernel
theorem dL_machine_284 : decode cL_machine 284 = .ok (.iconst 1, 1) := by decide +kernel
theorem dL_machine_285 : decode cL_machine 285 = .ok (.bipush 7, 2) := by decide +kernel
theorem dL_machine_287 : decode cL_machine 287 = .ok (.invokevirtual 13, 3) := by decide +kernel
theorem dL_machine_290 : decode cL_machine 290 = .ok (.iconst 1, 1) := by decide +kernel
theorem dL_machine_291 : decode cL_machine 291 = .ok (.if_icmp .ne 154, 3) := by decide +kernel
theorem dL_machine_294 : decode cL_machine 294 = .ok (.aload_n 0, 1) := by decide +kernel
theorem dL_machine_295 : decode cL_machine 295 = .ok (.ldc 98, 2) := by decide +kernel
theorem dL_machine_297 : decode cL_machine 297 = .ok (.bipush 7, 2) := by decide +kernel
theorem dL_machine_299 : decode cL_machine 299 = .ok (.invokestatic 90, 3) := by decide +kernel
theorem dL_machine_302 : decode cL_machine 302 = .ok (.bipush 8, 2) := by decide +kernel
theorem dL_machine_304 : decode cL_machine 304 = .ok (.if_icmp .ne 141, 3) := by decide +kernel
theorem dL_machine_307 : decode cL_machine 307 = .ok (.aload_n 0, 1) := by decide +kernel
theorem dL_machine_308 : decode cL_machine 308 = .ok (.bipush 99, 2) := by decide +kernel
theorem dL_machine_310 : decode cL_machine 310 = .ok (.iconst 0, 1) := by decide +kernel
theorem dL_machine_311 : decode cL_machine 311 = .ok (.bipush 8, 2) := by decide +kernel
theorem dL_machine_313 : decode cL_machine 313 = .ok (.iconst 0, 1) := by decide +kernel
theorem dL_machine_314 : decode cL_machine 314 = .ok (.iconst 0, 1) := by decide +kernel
theorem dL_machine_315 : decode cL_machine 315 = .ok (.iconst 0, 1) := by decide +kernel
theorem dL_machine_316 : decode cL_machine 316 = .ok (.invokestatic 86, 3) := by decide +kernel
theorem dL_machine_319 : decode cL_machine 319 = .ok (.ifCond .eq 126, 3) := by decide +kernel
theorem dL_machine_322 : decode cL_machine 322 = .ok (.aload_n 0, 1) := by decide +kernel
theorem dL_machine_323 : decode cL_machine 323 = .ok (.iconst 5, 1) := by decide +kernel
theorem dL_machine_324 : decode cL_machine 324 = .ok (.iconst 0, 1) := by decide +kernel
theorem dL_machine_325 : decode cL_machine 325 = .ok (.invokevirtual 13, 3) := by decide +kernel
theorem dL_machine_328 : decode cL_machine 328 = .ok (.bipush 9, 2) := by decide +kernel
theorem dL_machine_330 : decode cL_machine 330 = .ok (.if_icmp .ne 115, 3) := by decide +kernel
theorem dL_machine_333 : decode cL_machine 333 = .ok (.aload_n 0, 1) := by decide +kernel
theorem dL_machine_334 : decode cL_machine 334 = .ok (.bipush 99, 2) := by decide +kernel
theorem dL_machine_336 : decode cL_machine 336 = .ok (.iconst 3, 1) := by decide +kernel
theorem dL_machine_337 : decode cL_machine 337 = .ok (.bipush 9, 2) := by decide +kernel
theorem dL_machine_339 : decode cL_machine 339 = .ok (.iconst 0, 1) := by decide +kernel
theorem dL_machine_340 : decode cL_machine 340 = .ok (.iconst 0, 1) := by decide +kernel
theorem dL_machine_341 : decode cL_machine 341 = .ok (.iconst 0, 1) := by decide +kernel
theorem dL_machine_342 : decode cL_machine 342 = .ok (.invokestatic 86, 3) := by decide +kernel
theorem dL_machine_345 : decode cL_machine 345 = .ok (.ifCond .eq 100, 3) := by decide +kernel
theorem dL_machine_348 : decode cL_machine 348 = .ok (.aload_n 0, 1) := by decide +kernel
theorem dL_machine_349 : decode cL_machine 349 = .ok (.bipush 8, 2) := by decide +kernel
theorem dL_machine_351 : decode cL_machine 351 = .ok (.iconst 2, 1) := by decide +kernel
theorem dL_machine_352 : decode cL_machine 352 = .ok (.bipush 8, 2) := by decide +kernel
theorem dL_machine_354 : decode cL_machine 354 = .ok (.iconst 0, 1) := by decide +kernel
theorem dL_machine_355 : decode cL_machine 355 = .ok (.iconst 0, 1) := by decide +kernel
theorem dL_machine_356 : decode cL_machine 356 = .ok (.iconst 0, 1) := by decide +kernel
theorem dL_machine_357 : decode cL_machine 357 = .ok (.invokestatic 86, 3) := by decide +kernel
theorem dL_machine_360 : decode cL_machine 360 = .ok (.ifCond .eq 85, 3) := by decide +kernel
theorem dL_machine_363 : decode cL_machine 363 = .ok (.aload_n 0, 1) := by decide +kernel
theorem dL_machine_364 : decode cL_machine 364 = .ok (.invokevirtual 94, 3) := by decide +kernel
theorem dL_machine_367 : decode cL_machine 367 = .ok (.bipush 9, 2) := by decide +kernel
theorem dL_machine_369 : decode cL_machine 369 = .ok (.if_icmp .ne 76, 3) := by decide +kernel
theorem dL_machine_372 : decode cL_machine 372 = .ok (.aload_n 0, 1) := by decide +kernel
theorem dL_machine_373 : decode cL_machine 373 = .ok (.iconst 1, 1) := by decide +kernel
theorem dL_machine_374 : decode cL_machine 374 = .ok (.iconst 3, 1) := by decide +kernel
theorem dL_machine_375 : decode cL_machine 375 = .ok (.invokevirtual 13, 3) := by decide +kernel
theorem dL_machine_378 : decode cL_machine 378 = .ok (.iconst 1, 1) := by decide +kernel
theorem dL_machine_379 : decode cL_machine 379 = .ok (.if_icmp .ne 66, 3) := by decide +kernel
theorem dL_machine_382 : decode cL_machine 382 = .ok (.aload_n 0, 1) := by decide +kernel
theorem dL_machine_383 : decode cL_machine 383 = .ok (.bipush 9, 2) := by decide +kernel
theorem dL_machine_385 : decode cL_machine 385 = .ok (.iconst 0, 1) := by decide +kernel
theorem dL_machine_386 : decode cL_machine 386 = .ok (.invokevirtual 13, 3) := by decide +kernel
theorem dL_machine_389 : decode cL_machine 389 = .ok (.iconst 2, 1) := by decide +kernel
theorem dL_machine_390 : decode cL_machine 390 = .ok (.if_icmp .ne 55, 3) := by decide +kernel
theorem dL_machine_393 : decode cL_machine 393 = .ok (.aload_n 0, 1) := by decide +kernel
theorem dL_machine_394 : decode cL_machine 394 = .ok (.bipush 8, 2) := by decide +kernel
theorem dL_machine_396 : decode cL_machine 396 = .ok (.iconst 0, 1) := by decide +kernel
theorem dL_machine_397 : decode cL_machine 397 = .ok (.invokevirtual 13, 3) := by decide +kernel
theorem dL_machine_400 : decode cL_machine 400 = .ok (.iconst 3, 1) := by decide +kernel
theorem dL_machine_401 : decode cL_machine 401 = .ok (.if_icmp .ne 44, 3) := by decide +kernel
theorem dL_machine_404 : decode cL_machine 404 = .ok (.aload_n 0, 1) := by decide +kernel
theorem dL_machine_405 : decode cL_machine 405 = .ok (.sipush 500, 3) := by decide +kernel
theorem dL_machine_408 : decode cL_machine 408 = .ok (.iconst 3, 1) := by decide +kernel
theorem dL_machine_409 : decode cL_machine 409 = .ok (.bipush 26, 2) := by decide +kernel
theorem dL_machine_411 : decode cL_machine 411 = .ok (.bipush 8, 2) := by decide +kernel
theorem dL_machine_413 : decode cL_machine 413 = .ok (.iconst 3, 1) := by decide +kernel
theorem dL_machine_414 : decode cL_machine 414 = .ok (.iconst 3, 1) := by decide +kernel
theorem dL_machine_415 : decode cL_machine 415 = .ok (.invokestatic 86, 3) := by decide +kernel
theorem dL_machine_418 : decode cL_machine 418 = .ok (.ifCond .eq 27, 3) := by decide +kernel
theorem dL_machine_421 : decode cL_machine 421 = .ok (.aload_n 0, 1) := by decide +kernel
theorem dL_machine_422 : decode cL_machine 422 = .ok (.bipush 25, 2) := by decide +kernel
theorem dL_machine_424 : decode cL_machine 424 = .ok (.iconst 2, 1) := by decide +kernel
theorem dL_machine_425 : decode cL_machine 425 = .ok (.bipush 25, 2) := by decide +kernel
theorem dL_machine_427 : decode cL_machine 427 = .ok (.bipush 8, 2) := by decide +kernel
theorem dL_machine_429 : decode cL_machine 429 = .ok (.iconst 3, 1) := by decide +kernel
theorem dL_machine_430 : decode cL_machine 430 = .ok (.iconst 3, 1) := by decide +kernel
theorem dL_machine_431 : decode cL_machine 431 = .ok (.invokestatic 86, 3) := by decide +kernel
theorem dL_machine_434 : decode cL_machine 434 = .ok (.ifCond .eq 11, 3) := by decide +kernel
theorem dL_machine_437 : decode cL_machine 437 = .ok (.aload_n 0, 1) := by decide +kernel
theorem dL_machine_438 : decode cL_machine 438 = .ok (.invokevirtual 94, 3) := by decide +kernel
theorem dL_machine_441 : decode cL_machine 441 = .ok (.iconst 3, 1) := by decide +kernel
theorem dL_machine_442 : decode cL_machine 442 = .ok (.if_icmp .eq 5, 3) := by decide +kernel
theorem dL_machine_445 : decode cL_machine 445 = .ok (.iconst 0, 1) := by decide +kernel
theorem dL_machine_446 : decode cL_machine 446 = .ok (.ireturn, 1) := by decide +kernel
theorem dL_machine_447 : decode cL_machine 447 = .ok (.aload_n 0, 1) := by decide +kernel
theorem dL_machine_448 : decode cL_machine 448 = .ok (.bipush 8, 2) := by decide +kernel
theorem dL_machine_450 : decode cL_machine 450 = .ok (.iconst 1, 1) := by decide +kernel
theorem dL_machine_451 : decode cL_machine 451 = .ok (.invokevirtual 13, 3) := by decide +kernel
theorem dL_machine_454 : decode cL_machine 454 = .ok (.iconst 1, 1) := by decide +kernel
theorem dL_machine_455 : decode cL_machine 455 = .ok (.if_icmp .ne 213, 3) := by decide +kernel
theorem dL_machine_458 : decode cL_machine 458 = .ok (.aload_n 0, 1) := by decide +kernel
theorem dL_machine_459 : decode cL_machine 459 = .ok (.iconst 1, 1) := by decide +kernel
theorem dL_machine_460 : decode cL_machine 460 = .ok (.iconst 0, 1) := by decide +kernel
theorem dL_machine_461 : decode cL_machine 461 = .ok (.iconst 1, 1) := by decide +kernel
theorem dL_machine_462 : decode cL_machine 462 = .ok (.iconst 0, 1) := by decide +kernel
theorem dL_machine_463 : decode cL_machine 463 = .ok (.iconst 0, 1) := by decide +kernel
theorem dL_machine_464 : decode cL_machine 464 = .ok (.iconst 0, 1) := by decide +kernel
theorem dL_machine_465 : decode cL_machine 465 = .ok (.invokestatic 86, 3) := by decide +kernel
theorem dL_machine_468 : decode cL_machine 468 = .ok (.ifCond .eq 200, 3) := by decide +kernel
theorem dL_machine_471 : decode cL_machine 471 = .ok (.aload_n 0, 1) := by decide +kernel
theorem dL_machine_472 : decode cL_machine 472 = .ok (.invokevirtual 94, 3) := by decide +kernel
theorem dL_machine_475 : decode cL_machine 475 = .ok (.iconst 1, 1) := by decide +kernel
theorem dL_machine_476 : decode cL_machine 476 = .ok (.if_icmp .ne 192, 3) := by decide +kernel
theorem dL_machine_479 : decode cL_machine 479 = .ok (.aload_n 0, 1) := by decide +kernel
theorem dL_machine_480 : decode cL_machine 480 = .ok (.bipush 8, 2) := by decide +kernel
theorem dL_machine_482 : decode cL_machine 482 = .ok (.iconst 2, 1) := by decide +kernel
theorem dL_machine_483 : decode cL_machine 483 = .ok (.invokevirtual 13, 3) := by decide +kernel
theorem dL_machine_486 : decode cL_machine 486 = .ok (.iconst 1, 1) := by decide +kernel
theorem dL_machine_487 : decode cL_machine 487 = .ok (.if_icmp .ne 181, 3) := by decide +kernel
theorem dL_machine_490 : decode cL_machine 490 = .ok (.aload_n 0, 1) := by decide +kernel
theorem dL_machine_491 : decode cL_machine 491 = .ok (.iconst 1, 1) := by decide +kernel
theorem dL_machine_492 : decode cL_machine 492 = .ok (.iconst 4, 1) := by decide +kernel
theorem dL_machine_493 : decode cL_machine 493 = .ok (.iconst 1, 1) := by decide +kernel
theorem dL_machine_494 : decode cL_machine 494 = .ok (.iconst 0, 1) := by decide +kernel
theorem dL_machine_495 : decode cL_machine 495 = .ok (.iconst 0, 1) := by decide +kernel
theorem dL_machine_496 : decode cL_machine 496 = .ok (.iconst 0, 1) := by decide +kernel
theorem dL_machine_497 : decode cL_machine 497 = .ok (.invokestatic 86, 3) := by decide +kernel
theorem dL_machine_500 : decode cL_machine 500 = .ok (.ifCond .eq 168, 3) := by decide +kernel
theorem dL_machine_503 : decode cL_machine 503 = .ok (.aload_n 0, 1) := by decide +kernel
theorem dL_machine_504 : decode cL_machine 504 = .ok (.invokevirtual 94, 3) := by decide +kernel
theorem dL_machine_507 : decode cL_machine 507 = .ok (.iconst 1, 1) := by decide +kernel
theorem dL_machine_508 : decode cL_machine 508 = .ok (.if_icmp .ne 160, 3) := by decide +kernel
theorem dL_machine_511 : decode cL_machine 511 = .ok (.aload_n 0, 1) := by decide +kernel
theorem dL_machine_512 : decode cL_machine 512 = .ok (.bipush 8, 2) := by decide +kernel
theorem dL_machine_514 : decode cL_machine 514 = .ok (.iconst (-1), 1) := by decide +kernel
theorem dL_machine_515 : decode cL_machine 515 = .ok (.invokevirtual 13, 3) := by decide +kernel
theorem dL_machine_518 : decode cL_machine 518 = .ok (.iconst 1, 1) := by decide +kernel
theorem dL_machine_519 : decode cL_machine 519 = .ok (.if_icmp .ne 149, 3) := by decide +kernel
theorem dL_machine_522 : decode cL_machine 522 = .ok (.aload_n 0, 1) := by decide +kernel
theorem dL_machine_523 : decode cL_machine 523 = .ok (.bipush 9, 2) := by decide +kernel
theorem dL_machine_525 : decode cL_machine 525 = .ok (.iconst 4, 1) := by decide +kernel
theorem dL_machine_526 : decode cL_machine 526 = .ok (.iconst 1, 1) := by decide +kernel
theorem dL_machine_527 : decode cL_machine 527 = .ok (.iconst 0, 1) := by decide +kernel
theorem dL_machine_528 : decode cL_machine 528 = .ok (.iconst 0, 1) := by decide +kernel
theorem dL_machine_529 : decode cL_machine 529 = .ok (.iconst 0, 1) := by decide +kernel
theorem dL_machine_530 : decode cL_machine 530 = .ok (.invokestatic 86, 3) := by decide +kernel
theorem dL_machine_533 : decode cL_machine 533 = .ok (.ifCond .eq 135, 3) := by decide +kernel
theorem dL_machine_536 : decode cL_machine 536 = .ok (.aload_n 0, 1) := by decide +kernel
theorem dL_machine_537 : decode cL_machine 537 = .ok (.invokevirtual 94, 3) := by decide +kernel
theorem dL_machine_540 : decode cL_machine 540 = .ok (.iconst 1, 1) := by decide +kernel
theorem dL_machine_541 : decode cL_machine 541 = .ok (.if_icmp .ne 127, 3) := by decide +kernel
theorem dL_machine_544 : decode cL_machine 544 = .ok (.aload_n 0, 1) := by decide +kernel
theorem dL_machine_545 : decode cL_machine 545 = .ok (.iconst 1, 1) := by decide +kernel
theorem dL_machine_546 : decode cL_machine 546 = .ok (.iconst 1, 1) := by decide +kernel
theorem dL_machine_547 : decode cL_machine 547 = .ok (.invokevirtual 13, 3) := by decide +kernel
theorem dL_machine_550 : decode cL_machine 550 = .ok (.iconst 1, 1) := by decide +kernel
theorem dL_machine_551 : decode cL_machine 551 = .ok (.if_icmp .ne 117, 3) := by decide +kernel
theorem dL_machine_554 : decode cL_machine 554 = .ok (.aload_n 0, 1) := by decide +kernel
theorem dL_machine_555 : decode cL_machine 555 = .ok (.bipush 7, 2) := by decide +kernel
theorem dL_machine_557 : decode cL_machine 557 = .ok (.bipush (-9), 2) := by decide +kernel
theorem dL_machine_559 : decode cL_machine 559 = .ok (.invokevirtual 13, 3) := by decide +kernel
theorem dL_machine_562 : decode cL_machine 562 = .ok (.iconst 2, 1) := by decide +kernel
theorem dL_machine_563 : decode cL_machine 563 = .ok (.if_icmp .ne 105, 3) := by decide +kernel
theorem dL_machine_566 : decode cL_machine 566 = .ok (.aload_n 0, 1) := by decide +kernel
theorem dL_machine_567 : decode cL_machine 567 = .ok (.bipush 9, 2) := by decide +kernel
theorem dL_machine_569 : decode cL_machine 569 = .ok (.iconst 0, 1) := by decide +kernel
theorem dL_machine_570 : decode cL_machine 570 = .ok (.iconst 2, 1) := by decide +kernel
theorem dL_machine_571 : decode cL_machine 571 = .ok (.iconst 0, 1) := by decide +kernel
theorem dL_machine_572 : decode cL_machine 572 = .ok (.iconst 0, 1) := by decide +kernel
theorem dL_machine_573 : decode cL_machine 573 = .ok (.iconst 0, 1) := by decide +kernel
theorem dL_machine_574 : decode cL_machine 574 = .ok (.invokestatic 86, 3) := by decide +kernel
theorem dL_machine_577 : decode cL_machine 577 = .ok (.ifCond .eq 91, 3) := by decide +kernel
theorem dL_machine_580 : decode cL_machine 580 = .ok (.aload_n 0, 1) := by decide +kernel
theorem dL_machine_581 : decode cL_machine 581 = .ok (.invokevirtual 94, 3) := by decide +kernel
theorem dL_machine_584 : decode cL_machine 584 = .ok (.iconst 2, 1) := by decide +kernel
theorem dL_machine_585 : decode cL_machine 585 = .ok (.if_icmp .ne 83, 3) := by decide +kernel
theorem dL_machine_588 : decode cL_machine 588 = .ok (.aload_n 0, 1) := by decide +kernel
theorem dL_machine_589 : decode cL_machine 589 = .ok (.iconst 1, 1) := by decide +kernel
theorem dL_machine_590 : decode cL_machine 590 = .ok (.iconst 0, 1) := by decide +kernel
theorem dL_machine_591 : decode cL_machine 591 = .ok (.invokevirtual 13, 3) := by decide +kernel
theorem dL_machine_594 : decode cL_machine 594 = .ok (.iconst 1, 1) := by decide +kernel
theorem dL_machine_595 : decode cL_machine 595 = .ok (.if_icmp .ne 73, 3) := by decide +kernel
theorem dL_machine_598 : decode cL_machine 598 = .ok (.aload_n 0, 1) := by decide +kernel
theorem dL_machine_599 : decode cL_machine 599 = .ok (.bipush 7, 2) := by decide +kernel
theorem dL_machine_601 : decode cL_machine 601 = .ok (.bipush (-9), 2) := by decide +kernel
theorem dL_machine_603 : decode cL_machine 603 = .ok (.invokevirtual 13, 3) := by decide +kernel
theorem dL_machine_606 : decode cL_machine 606 = .ok (.iconst 2, 1) := by decide +kernel
theorem dL_machine_607 : decode cL_machine 607 = .ok (.if_icmp .ne 61, 3) := by decide +kernel
theorem dL_machine_610 : decode cL_machine 610 = .ok (.aload_n 0, 1) := by decide +kernel
theorem dL_machine_611 : decode cL_machine 611 = .ok (.bipush 9, 2) := by decide +kernel
theorem dL_machine_613 : decode cL_machine 613 = .ok (.iconst 4, 1) := by decide +kernel
theorem dL_machine_614 : decode cL_machine 614 = .ok (.iconst 2, 1) := by decide +kernel
theorem dL_machine_615 : decode cL_machine 615 = .ok (.iconst 0, 1) := by decide +kernel
theorem dL_machine_616 : decode cL_machine 616 = .ok (.iconst 0, 1) := by decide +kernel
theorem dL_machine_617 : decode cL_machine 617 = .ok (.iconst 0, 1) := by decide +kernel
theorem dL_machine_618 : decode cL_machine 618 = .ok (.invokestatic 86, 3) := by decide +kernel
theorem dL_machine_621 : decode cL_machine 621 = .ok (.ifCond .eq 47, 3) := by decide +kernel
theorem dL_machine_624 : decode cL_machine 624 = .ok (.aload_n 0, 1) := by decide +kernel
theorem dL_machine_625 : decode cL_machine 625 = .ok (.invokevirtual 94, 3) := by decide +kernel
theorem dL_machine_628 : decode cL_machine 628 = .ok (.iconst 2, 1) := by decide +kernel
theorem dL_machine_629 : decode cL_machine 629 = .ok (.if_icmp .ne 39, 3) := by decide +kernel
theorem dL_machine_632 : decode cL_machine 632 = .ok (.aload_n 0, 1) := by decide +kernel
theorem dL_machine_633 : decode cL_machine 633 = .ok (.bipush 8, 2) := by decide +kernel
theorem dL_machine_635 : decode cL_machine 635 = .ok (.iconst 0, 1) := by decide +kernel
theorem dL_machine_636 : decode cL_machine 636 = .ok (.invokevirtual 13, 3) := by decide +kernel
theorem dL_machine_639 : decode cL_machine 639 = .ok (.iconst 1, 1) := by decide +kernel
theorem dL_machine_640 : decode cL_machine 640 = .ok (.if_icmp .ne 28, 3) := by decide +kernel
theorem dL_machine_643 : decode cL_machine 643 = .ok (.aload_n 0, 1) := by decide +kernel
theorem dL_machine_644 : decode cL_machine 644 = .ok (.sipush 500, 3) := by decide +kernel
theorem dL_machine_647 : decode cL_machine 647 = .ok (.iconst 2, 1) := by decide +kernel
theorem dL_machine_648 : decode cL_machine 648 = .ok (.sipush 500, 3) := by decide +kernel
theorem dL_machine_651 : decode cL_machine 651 = .ok (.iconst 0, 1) := by decide +kernel
theorem dL_machine_652 : decode cL_machine 652 = .ok (.iconst 0, 1) := by decide +kernel
theorem dL_machine_653 : decode cL_machine 653 = .ok (.iconst 0, 1) := by decide +kernel
theorem dL_machine_654 : decode cL_machine 654 = .ok (.invokestatic 86, 3) := by decide +kernel
theorem dL_machine_657 : decode cL_machine 657 = .ok (.ifCond .eq 11, 3) := by decide +kernel
theorem dL_machine_660 : decode cL_machine 660 = .ok (.aload_n 0, 1) := by decide +kernel
theorem dL_machine_661 : decode cL_machine 661 = .ok (.invokevirtual 94, 3) := by decide +kernel
theorem dL_machine_664 : decode cL_machine 664 = .ok (.iconst 1, 1) := by decide +kernel
theorem dL_machine_665 : decode cL_machine 665 = .ok (.if_icmp .eq 5, 3) := by decide +kernel
theorem dL_machine_668 : decode cL_machine 668 = .ok (.iconst 0, 1) := by decide +kernel
theorem dL_machine_669 : decode cL_machine 669 = .ok (.ireturn, 1) := by decide +kernel
theorem dL_machine_670 : decode cL_machine 670 = .ok (.iconst 2, 1) := by decide +kernel
theorem dL_machine_671 : decode cL_machine 671 = .ok (.istore_n 1, 1) := by decide +kernel
theorem dL_machine_672 : decode cL_machine 672 = .ok (.iload_n 1, 1) := by decide +kernel
theorem dL_machine_673 : decode cL_machine 673 = .ok (.bipush 10, 2) := by decide +kernel
theorem dL_machine_675 : decode cL_machine 675 = .ok (.if_icmp .ge 146, 3) := by decide +kernel
theorem dL_machine_678 : decode cL_machine 678 = .ok (.iload_n 1, 1) := by decide +kernel
theorem dL_machine_679 : decode cL_machine 679 = .ok (.iconst 2, 1) := by decide +kernel
theorem dL_machine_680 : decode cL_machine 680 = .ok (.if_icmp .eq 19, 3) := by decide +kernel
theorem dL_machine_683 : decode cL_machine 683 = .ok (.iload_n 1, 1) := by decide +kernel
theorem dL_machine_684 : decode cL_machine 684 = .ok (.iconst 3, 1) := by decide +kernel
theorem dL_machine_685 : decode cL_machine 685 = .ok (.if_icmp .eq 14, 3) := by decide +kernel
theorem dL_machine_688 : decode cL_machine 688 = .ok (.iload_n 1, 1) := by decide +kernel
theorem dL_machine_689 : decode cL_machine 689 = .ok (.iconst 4, 1) := by decide +kernel
theorem dL_machine_690 : decode cL_machine 690 = .ok (.if_icmp .eq 9, 3) := by decide +kernel
theorem dL_machine_693 : decode cL_machine 693 = .ok (.iload_n 1, 1) := by decide +kernel
theorem dL_machine_694 : decode cL_machine 694 = .ok (.bipush 6, 2) := by decide +kernel
theorem dL_machine_696 : decode cL_machine 696 = .ok (.if_icmp .ne 7, 3) := by decide +kernel
theorem dL_machine_699 : decode cL_machine 699 = .ok (.iconst 1, 1) := by decide +kernel
theorem dL_machine_700 : decode cL_machine 700 = .ok (.goto 4, 3) := by decide +kernel
theorem dL_machine_703 : decode cL_machine 703 = .ok (.iconst 0, 1) := by decide +kernel
theorem dL_machine_704 : decode cL_machine 704 = .ok (.istore_n 2, 1) := by decide +kernel
theorem dL_machine_705 : decode cL_machine 705 = .ok (.aload_n 0, 1) := by decide +kernel
theorem dL_machine_706 : decode cL_machine 706 = .ok (.iload_n 1, 1) := by decide +kernel
theorem dL_machine_707 : decode cL_machine 707 = .ok (.iconst 0, 1) := by decide +kernel
theorem dL_machine_708 : decode cL_machine 708 = .ok (.invokevirtual 13, 3) := by decide +kernel
theorem dL_machine_711 : decode cL_machine 711 = .ok (.iconst 1, 1) := by decide +kernel
theorem dL_machine_712 : decode cL_machine 712 = .ok (.if_icmp .ne 101, 3) := by decide +kernel
theorem dL_machine_715 : decode cL_machine 715 = .ok (.iload_n 1, 1) := by decide +kernel
theorem dL_machine_716 : decode cL_machine 716 = .ok (.bipush 8, 2) := by decide +kernel
theorem dL_machine_718 : decode cL_machine 718 = .ok (.if_icmp .eq 17, 3) := by decide +kernel
theorem dL_machine_721 : decode cL_machine 721 = .ok (.aload_n 0, 1) := by decide +kernel
theorem dL_machine_722 : decode cL_machine 722 = .ok (.bipush 9, 2) := by decide +kernel
theorem dL_machine_724 : decode cL_machine 724 = .ok (.iconst 4, 1) := by decide +kernel
theorem dL_machine_725 : decode cL_machine 725 = .ok (.iconst 1, 1) := by decide +kernel
theorem dL_machine_726 : decode cL_machine 726 = .ok (.iconst 0, 1) := by decide +kernel
theorem dL_machine_727 : decode cL_machine 727 = .ok (.iconst 0, 1) := by decide +kernel
theorem dL_machine_728 : decode cL_machine 728 = .ok (.iconst 0, 1) := by decide +kernel
theorem dL_machine_729 : decode cL_machine 729 = .ok (.invokestatic 86, 3) := by decide +kernel
theorem dL_machine_732 : decode cL_machine 732 = .ok (.ifCond .eq 81, 3) := by decide +kernel
theorem dL_machine_735 : decode cL_machine 735 = .ok (.aload_n 0, 1) := by decide +kernel
theorem dL_machine_736 : decode cL_machine 736 = .ok (.invokevirtual 94, 3) := by decide +kernel
theorem dL_machine_739 : decode cL_machine 739 = .ok (.iconst 1, 1) := by decide +kernel
theorem dL_machine_740 : decode cL_machine 740 = .ok (.if_icmp .ne 73, 3) := by decide +kernel
theorem dL_machine_743 : decode cL_machine 743 = .ok (.aload_n 0, 1) := by decide +kernel
theorem dL_machine_744 : decode cL_machine 744 = .ok (.iconst 1, 1) := by decide +kernel
theorem dL_machine_745 : decode cL_machine 745 = .ok (.iconst 2, 1) := by decide +kernel
theorem dL_machine_746 : decode cL_machine 746 = .ok (.invokevirtual 13, 3) := by decide +kernel
theorem dL_machine_749 : decode cL_machine 749 = .ok (.iconst 1, 1) := by decide +kernel
theorem dL_machine_750 : decode cL_machine 750 = .ok (.if_icmp .ne 63, 3) := by decide +kernel
theorem dL_machine_753 : decode cL_machine 753 = .ok (.aload_n 0, 1) := by decide +kernel
theorem dL_machine_754 : decode cL_machine 754 = .ok (.iload_n 1, 1) := by decide +kernel
theorem dL_machine_755 : decode cL_machine 755 = .ok (.iconst 2, 1) := by decide +kernel
theorem dL_machine_756 : decode cL_machine 756 = .ok (.invokevirtual 13, 3) := by decide +kernel
theorem dL_machine_759 : decode cL_machine 759 = .ok (.iconst 2, 1) := by decide +kernel
theorem dL_machine_760 : decode cL_machine 760 = .ok (.if_icmp .ne 53, 3) := by decide +kernel
theorem dL_machine_763 : decode cL_machine 763 = .ok (.aload_n 0, 1) := by decide +kernel
theorem dL_machine_764 : decode cL_machine 764 = .ok (.bipush 9, 2) := by decide +kernel
theorem dL_machine_766 : decode cL_machine 766 = .ok (.iload_n 2, 1) := by decide +kernel
theorem dL_machine_767 : decode cL_machine 767 = .ok (.ifCond .eq 7, 3) := by decide +kernel
theorem dL_machine_770 : decode cL_machine 770 = .ok (.iconst 4, 1) := by decide +kernel
theorem dL_machine_771 : decode cL_machine 771 = .ok (.goto 4, 3) := by decide +kernel
theorem dL_machine_774 : decode cL_machine 774 = .ok (.iconst 0, 1) := by decide +kernel
theorem dL_machine_775 : decode cL_machine 775 = .ok (.iconst 2, 1) := by decide +kernel
theorem dL_machine_776 : decode cL_machine 776 = .ok (.iload_n 1, 1) := by decide +kernel
theorem dL_machine_777 : decode cL_machine 777 = .ok (.bipush 9, 2) := by decide +kernel
theorem dL_machine_779 : decode cL_machine 779 = .ok (.if_icmp .ne 7, 3) := by decide +kernel
theorem dL_machine_782 : decode cL_machine 782 = .ok (.iconst 1, 1) := by decide +kernel
theorem dL_machine_783 : decode cL_machine 783 = .ok (.goto 4, 3) := by decide +kernel
theorem dL_machine_786 : decode cL_machine 786 = .ok (.iconst 0, 1) := by decide +kernel
theorem dL_machine_787 : decode cL_machine 787 = .ok (.iload_n 1, 1) := by decide +kernel
theorem dL_machine_788 : decode cL_machine 788 = .ok (.bipush 9, 2) := by decide +kernel
theorem dL_machine_790 : decode cL_machine 790 = .ok (.if_icmp .ne 7, 3) := by decide +kernel
theorem dL_machine_793 : decode cL_machine 793 = .ok (.iconst 2, 1) := by decide +kernel
theorem dL_machine_794 : decode cL_machine 794 = .ok (.goto 4, 3) := by decide +kernel
theorem dL_machine_797 : decode cL_machine 797 = .ok (.iconst 0, 1) := by decide +kernel
theorem dL_machine_798 : decode cL_machine 798 = .ok (.iconst 0, 1) := by decide +kernel
theorem dL_machine_799 : decode cL_machine 799 = .ok (.invokestatic 86, 3) := by decide +kernel
theorem dL_machine_802 : decode cL_machine 802 = .ok (.ifCond .eq 11, 3) := by decide +kernel
theorem dL_machine_805 : decode cL_machine 805 = .ok (.aload_n 0, 1) := by decide +kernel
theorem dL_machine_806 : decode cL_machine 806 = .ok (.invokevirtual 94, 3) := by decide +kernel
theorem dL_machine_809 : decode cL_machine 809 = .ok (.iconst 2, 1) := by decide +kernel
theorem dL_machine_810 : decode cL_machine 810 = .ok (.if_icmp .eq 5, 3) := by decide +kernel
theorem dL_machine_813 : decode cL_machine 813 = .ok (.iconst 0, 1) := by decide +kernel
theorem dL_machine_814 : decode cL_machine 814 = .ok (.ireturn, 1) := by decide +kernel
theorem dL_machine_815 : decode cL_machine 815 = .ok (.iinc 1 1, 3) := by decide +kernel
theorem dL_machine_818 : decode cL_machine 818 = .ok (.goto (-146), 3) := by decide +kernel
theorem dL_machine_821 : decode cL_machine 821 = .ok (.aload_n 0, 1) := by decide +kernel
theorem dL_machine_822 : decode cL_machine 822 = .ok (.iconst 1, 1) := by decide +kernel
theorem dL_machine_823 : decode cL_machine 823 = .ok (.bipush 9, 2) := by decide +kernel
theorem dL_machine_825 : decode cL_machine 825 = .ok (.invokevirtual 13, 3) := by decide +kernel
theorem dL_machine_828 : decode cL_machine 828 = .ok (.iconst 1, 1) := by decide +kernel
theorem dL_machine_829 : decode cL_machine 829 = .ok (.if_icmp .ne 48, 3) := by decide +kernel
theorem dL_machine_832 : decode cL_machine 832 = .ok (.aload_n 0, 1) := by decide +kernel
theorem dL_machine_833 : decode cL_machine 833 = .ok (.iconst 1, 1) := by decide +kernel
theorem dL_machine_834 : decode cL_machine 834 = .ok (.iconst 4, 1) := by decide +kernel
theorem dL_machine_835 : decode cL_machine 835 = .ok (.invokevirtual 13, 3) := by decide +kernel
theorem dL_machine_838 : decode cL_machine 838 = .ok (.iconst 2, 1) := by decide +kernel
theorem dL_machine_839 : decode cL_machine 839 = .ok (.if_icmp .ne 38, 3) := by decide +kernel
theorem dL_machine_842 : decode cL_machine 842 = .ok (.aload_n 0, 1) := by decide +kernel
theorem dL_machine_843 : decode cL_machine 843 = .ok (.sipush 936, 3) := by decide +kernel
theorem dL_machine_846 : decode cL_machine 846 = .ok (.iconst 3, 1) := by decide +kernel
theorem dL_machine_847 : decode cL_machine 847 = .ok (.invokestatic 90, 3) := by decide +kernel
theorem dL_machine_850 : decode cL_machine 850 = .ok (.iconst 5, 1) := by decide +kernel
theorem dL_machine_851 : decode cL_machine 851 = .ok (.if_icmp .ne 26, 3) := by decide +kernel
theorem dL_machine_854 : decode cL_machine 854 = .ok (.aload_n 0, 1) := by decide +kernel
theorem dL_machine_855 : decode cL_machine 855 = .ok (.bipush 9, 2) := by decide +kernel
theorem dL_machine_857 : decode cL_machine 857 = .ok (.iconst 0, 1) := by decide +kernel
theorem dL_machine_858 : decode cL_machine 858 = .ok (.iconst 5, 1) := by decide +kernel
theorem dL_machine_859 : decode cL_machine 859 = .ok (.iconst 1, 1) := by decide +kernel
theorem dL_machine_860 : decode cL_machine 860 = .ok (.bipush (-5), 2) := by decide +kernel
theorem dL_machine_862 : decode cL_machine 862 = .ok (.iconst 0, 1) := by decide +kernel
theorem dL_machine_863 : decode cL_machine 863 = .ok (.invokestatic 86, 3) := by decide +kernel
theorem dL_machine_866 : decode cL_machine 866 = .ok (.ifCond .eq 11, 3) := by decide +kernel
theorem dL_machine_869 : decode cL_machine 869 = .ok (.aload_n 0, 1) := by decide +kernel
theorem dL_machine_870 : decode cL_machine 870 = .ok (.invokevirtual 94, 3) := by decide +kernel
theorem dL_machine_873 : decode cL_machine 873 = .ok (.iconst 5, 1) := by decide +kernel
theorem dL_machine_874 : decode cL_machine 874 = .ok (.if_icmp .eq 5, 3) := by decide +kernel
theorem dL_machine_877 : decode cL_machine 877 = .ok (.iconst 0, 1) := by decide +kernel
theorem dL_machine_878 : decode cL_machine 878 = .ok (.ireturn, 1) := by decide +kernel
theorem dL_machine_879 : decode cL_machine 879 = .ok (.iconst 0, 1) := by decide +kernel
theorem dL_machine_880 : decode cL_machine 880 = .ok (.istore_n 1, 1) := by decide +kernel
theorem dL_machine_881 : decode cL_machine 881 = .ok (.iload_n 1, 1) := by decide +kernel
theorem dL_machine_882 : decode cL_machine 882 = .ok (.bipush 17, 2) := by decide +kernel
theorem dL_machine_884 : decode cL_machine 884 = .ok (.if_icmp .ge 66, 3) := by decide +kernel
theorem dL_machine_887 : decode cL_machine 887 = .ok (.aload_n 0, 1) := by decide +kernel
theorem dL_machine_888 : decode cL_machine 888 = .ok (.iconst 0, 1) := by decide +kernel
theorem dL_machine_889 : decode cL_machine 889 = .ok (.bipush 8, 2) := by decide +kernel
theorem dL_machine_891 : decode cL_machine 891 = .ok (.iload_n 1, 1) := by decide +kernel
theorem dL_machine_892 : decode cL_machine 892 = .ok (.iconst 1, 1) := by decide +kernel
theorem dL_machine_893 : decode cL_machine 893 = .ok (.iadd, 1) := by decide +kernel
theorem dL_machine_894 : decode cL_machine 894 = .ok (.iconst 0, 1) := by decide +kernel
theorem dL_machine_895 : decode cL_machine 895 = .ok (.invokestatic 81, 3) := by decide +kernel
theorem dL_machine_898 : decode cL_machine 898 = .ok (.iload_n 1, 1) := by decide +kernel
theorem dL_machine_899 : decode cL_machine 899 = .ok (.bipush 16, 2) := by decide +kernel
theorem dL_machine_901 : decode cL_machine 901 = .ok (.if_icmp .ge 9, 3) := by decide +kernel
theorem dL_machine_904 : decode cL_machine 904 = .ok (.iload_n 1, 1) := by decide +kernel
theorem dL_machine_905 : decode cL_machine 905 = .ok (.iconst 1, 1) := by decide +kernel
theorem dL_machine_906 : decode cL_machine 906 = .ok (.iadd, 1) := by decide +kernel
theorem dL_machine_907 : decode cL_machine 907 = .ok (.goto 5, 3) := by decide +kernel
theorem dL_machine_910 : decode cL_machine 910 = .ok (.ldc 79, 2) := by decide +kernel
theorem dL_machine_912 : decode cL_machine 912 = .ok (.if_icmp .ne 30, 3) := by decide +kernel
theorem dL_machine_915 : decode cL_machine 915 = .ok (.aload_n 0, 1) := by decide +kernel
theorem dL_machine_916 : decode cL_machine 916 = .ok (.iconst 1, 1) := by decide +kernel
theorem dL_machine_917 : decode cL_machine 917 = .ok (.iload_n 1, 1) := by decide +kernel
theorem dL_machine_918 : decode cL_machine 918 = .ok (.bipush 9, 2) := by decide +kernel
theorem dL_machine_920 : decode cL_machine 920 = .ok (.irem, 1) := by decide +kernel
theorem dL_machine_921 : decode cL_machine 921 = .ok (.iconst 0, 1) := by decide +kernel
theorem dL_machine_922 : decode cL_machine 922 = .ok (.iconst 0, 1) := by decide +kernel
theorem dL_machine_923 : decode cL_machine 923 = .ok (.invokestatic 81, 3) := by decide +kernel
theorem dL_machine_926 : decode cL_machine 926 = .ok (.iload_n 1, 1) := by decide +kernel
theorem dL_machine_927 : decode cL_machine 927 = .ok (.iconst 4, 1) := by decide +kernel
theorem dL_machine_928 : decode cL_machine 928 = .ok (.if_icmp .ge 9, 3) := by decide +kernel
theorem dL_machine_931 : decode cL_machine 931 = .ok (.iload_n 1, 1) := by decide +kernel
theorem dL_machine_932 : decode cL_machine 932 = .ok (.iconst 1, 1) := by decide +kernel
theorem dL_machine_933 : decode cL_machine 933 = .ok (.iadd, 1) := by decide +kernel
theorem dL_machine_934 : decode cL_machine 934 = .ok (.goto 5, 3) := by decide +kernel
theorem dL_machine_937 : decode cL_machine 937 = .ok (.ldc 79, 2) := by decide +kernel
theorem dL_machine_939 : decode cL_machine 939 = .ok (.if_icmp .eq 5, 3) := by decide +kernel
theorem dL_machine_942 : decode cL_machine 942 = .ok (.iconst 0, 1) := by decide +kernel
theorem dL_machine_943 : decode cL_machine 943 = .ok (.ireturn, 1) := by decide +kernel
theorem dL_machine_944 : decode cL_machine 944 = .ok (.iinc 1 1, 3) := by decide +kernel
theorem dL_machine_947 : decode cL_machine 947 = .ok (.goto (-66), 3) := by decide +kernel
theorem dL_machine_950 : decode cL_machine 950 = .ok (.aload_n 0, 1) := by decide +kernel
theorem dL_machine_951 : decode cL_machine 951 = .ok (.bipush 16, 2) := by decide +kernel
theorem dL_machine_953 : decode cL_machine 953 = .ok (.iconst 0, 1) := by decide +kernel
theorem dL_machine_954 : decode cL_machine 954 = .ok (.bipush 16, 2) := by decide +kernel
theorem dL_machine_956 : decode cL_machine 956 = .ok (.iconst 0, 1) := by decide +kernel
theorem dL_machine_957 : decode cL_machine 957 = .ok (.iconst 0, 1) := by decide +kernel
theorem dL_machine_958 : decode cL_machine 958 = .ok (.iconst 0, 1) := by decide +kernel
theorem dL_machine_959 : decode cL_machine 959 = .ok (.invokestatic 86, 3) := by decide +kernel
theorem dL_machine_962 : decode cL_machine 962 = .ok (.ifCond .eq 40, 3) := by decide +kernel
theorem dL_machine_965 : decode cL_machine 965 = .ok (.aload_n 0, 1) := by decide +kernel
theorem dL_machine_966 : decode cL_machine 966 = .ok (.bipush 15, 2) := by decide +kernel
theorem dL_machine_968 : decode cL_machine 968 = .ok (.iconst 2, 1) := by decide +kernel
theorem dL_machine_969 : decode cL_machine 969 = .ok (.bipush 15, 2) := by decide +kernel
theorem dL_machine_971 : decode cL_machine 971 = .ok (.iconst 0, 1) := by decide +kernel
theorem dL_machine_972 : decode cL_machine 972 = .ok (.iconst 0, 1) := by decide +kernel
theorem dL_machine_973 : decode cL_machine 973 = .ok (.iconst 0, 1) := by decide +kernel
theorem dL_machine_974 : decode cL_machine 974 = .ok (.invokestatic 86, 3) := by decide +kernel
theorem dL_machine_977 : decode cL_machine 977 = .ok (.ifCond .eq 25, 3) := by decide +kernel
theorem dL_machine_980 : decode cL_machine 980 = .ok (.aload_n 0, 1) := by decide +kernel
theorem dL_machine_981 : decode cL_machine 981 = .ok (.invokevirtual 94, 3) := by decide +kernel
theorem dL_machine_984 : decode cL_machine 984 = .ok (.bipush 16, 2) := by decide +kernel
theorem dL_machine_986 : decode cL_machine 986 = .ok (.if_icmp .ne 16, 3) := by decide +kernel
theorem dL_machine_989 : decode cL_machine 989 = .ok (.aload_n 0, 1) := by decide +kernel
theorem dL_machine_990 : decode cL_machine 990 = .ok (.iconst 0, 1) := by decide +kernel
theorem dL_machine_991 : decode cL_machine 991 = .ok (.iconst 0, 1) := by decide +kernel
theorem dL_machine_992 : decode cL_machine 992 = .ok (.invokestatic 99, 3) := by decide +kernel
theorem dL_machine_995 : decode cL_machine 995 = .ok (.ifCond .eq 7, 3) := by decide +kernel
theorem dL_machine_998 : decode cL_machine 998 = .ok (.iconst 1, 1) := by decide +kernel
theorem dL_machine_999 : decode cL_machine 999 = .ok (.goto 4, 3) := by decide +kernel
theorem dL_machine_1002 : decode cL_machine 1002 = .ok (.iconst 0, 1) := by decide +kernel
theorem dL_machine_1003 : decode cL_machine 1003 = .ok (.ireturn, 1) := by decide +kernel
