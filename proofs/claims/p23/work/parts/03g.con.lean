theorem dL_contest_0 : decode cL_contest 0 = .ok (.new 8, 3) := by decide +kernel
theorem dL_contest_3 : decode cL_contest 3 = .ok (.dup, 1) := by decide +kernel
theorem dL_contest_4 : decode cL_contest 4 = .ok (.invokespecial 85, 3) := by decide +kernel
theorem dL_contest_7 : decode cL_contest 7 = .ok (.astore_n 0, 1) := by decide +kernel
theorem dL_contest_8 : decode cL_contest 8 = .ok (.invokestatic 103, 3) := by decide +kernel
theorem dL_contest_11 : decode cL_contest 11 = .ok (.ifCond .eq 318, 3) := by decide +kernel
theorem dL_contest_14 : decode cL_contest 14 = .ok (.aload_n 0, 1) := by decide +kernel
theorem dL_contest_15 : decode cL_contest 15 = .ok (.invokevirtual 107, 3) := by decide +kernel
theorem dL_contest_18 : decode cL_contest 18 = .ok (.iconst (-1), 1) := by decide +kernel
theorem dL_contest_19 : decode cL_contest 19 = .ok (.if_icmp .ne 310, 3) := by decide +kernel
theorem dL_contest_22 : decode cL_contest 22 = .ok (.aload_n 0, 1) := by decide +kernel
theorem dL_contest_23 : decode cL_contest 23 = .ok (.invokevirtual 110, 3) := by decide +kernel
theorem dL_contest_26 : decode cL_contest 26 = .ok (.iconst (-1), 1) := by decide +kernel
theorem dL_contest_27 : decode cL_contest 27 = .ok (.if_icmp .ne 302, 3) := by decide +kernel
theorem dL_contest_30 : decode cL_contest 30 = .ok (.aload_n 0, 1) := by decide +kernel
theorem dL_contest_31 : decode cL_contest 31 = .ok (.sipush 9200, 3) := by decide +kernel
theorem dL_contest_34 : decode cL_contest 34 = .ok (.iconst 4, 1) := by decide +kernel
theorem dL_contest_35 : decode cL_contest 35 = .ok (.invokestatic 90, 3) := by decide +kernel
theorem dL_contest_38 : decode cL_contest 38 = .ok (.iconst 4, 1) := by decide +kernel
theorem dL_contest_39 : decode cL_contest 39 = .ok (.if_icmp .ne 290, 3) := by decide +kernel
theorem dL_contest_42 : decode cL_contest 42 = .ok (.aload_n 0, 1) := by decide +kernel
theorem dL_contest_43 : decode cL_contest 43 = .ok (.iconst 3, 1) := by decide +kernel
theorem dL_contest_44 : decode cL_contest 44 = .ok (.invokevirtual 17, 3) := by decide +kernel
theorem dL_contest_47 : decode cL_contest 47 = .ok (.iconst 1, 1) := by decide +kernel
theorem dL_contest_48 : decode cL_contest 48 = .ok (.if_icmp .ne 281, 3) := by decide +kernel
theorem dL_contest_51 : decode cL_contest 51 = .ok (.aload_n 0, 1) := by decide +kernel
theorem dL_contest_52 : decode cL_contest 52 = .ok (.iconst 4, 1) := by decide +kernel
theorem dL_contest_53 : decode cL_contest 53 = .ok (.invokevirtual 17, 3) := by decide +kernel
theorem dL_contest_56 : decode cL_contest 56 = .ok (.iconst 2, 1) := by decide +kernel
theorem dL_contest_57 : decode cL_contest 57 = .ok (.if_icmp .ne 272, 3) := by decide +kernel
theorem dL_contest_60 : decode cL_contest 60 = .ok (.aload_n 0, 1) := by decide +kernel
theorem dL_contest_61 : decode cL_contest 61 = .ok (.bipush 100, 2) := by decide +kernel
theorem dL_contest_63 : decode cL_contest 63 = .ok (.iconst 0, 1) := by decide +kernel
theorem dL_contest_64 : decode cL_contest 64 = .ok (.invokevirtual 24, 3) := by decide +kernel
theorem dL_contest_67 : decode cL_contest 67 = .ok (.ifCond .ne 262, 3) := by decide +kernel
theorem dL_contest_70 : decode cL_contest 70 = .ok (.aload_n 0, 1) := by decide +kernel
theorem dL_contest_71 : decode cL_contest 71 = .ok (.bipush 9, 2) := by decide +kernel
theorem dL_contest_73 : decode cL_contest 73 = .ok (.iconst 0, 1) := by decide +kernel
theorem dL_contest_74 : decode cL_contest 74 = .ok (.invokevirtual 21, 3) := by decide +kernel
theorem dL_contest_77 : decode cL_contest 77 = .ok (.ifCond .ne 252, 3) := by decide +kernel
theorem dL_contest_80 : decode cL_contest 80 = .ok (.aload_n 0, 1) := by decide +kernel
theorem dL_contest_81 : decode cL_contest 81 = .ok (.iconst 0, 1) := by decide +kernel
theorem dL_contest_82 : decode cL_contest 82 = .ok (.iconst 0, 1) := by decide +kernel
theorem dL_contest_83 : decode cL_contest 83 = .ok (.invokevirtual 27, 3) := by decide +kernel
theorem dL_contest_86 : decode cL_contest 86 = .ok (.ifCond .ne 243, 3) := by decide +kernel
theorem dL_contest_89 : decode cL_contest 89 = .ok (.aload_n 0, 1) := by decide +kernel
theorem dL_contest_90 : decode cL_contest 90 = .ok (.iconst 0, 1) := by decide +kernel
theorem dL_contest_91 : decode cL_contest 91 = .ok (.iconst 0, 1) := by decide +kernel
theorem dL_contest_92 : decode cL_contest 92 = .ok (.iconst 0, 1) := by decide +kernel
theorem dL_contest_93 : decode cL_contest 93 = .ok (.invokevirtual 37, 3) := by decide +kernel
theorem dL_contest_96 : decode cL_contest 96 = .ok (.bipush 7, 2) := by decide +kernel
theorem dL_contest_98 : decode cL_contest 98 = .ok (.if_icmp .ne 231, 3) := by decide +kernel
theorem dL_contest_101 : decode cL_contest 101 = .ok (.aload_n 0, 1) := by decide +kernel
theorem dL_contest_102 : decode cL_contest 102 = .ok (.iconst 0, 1) := by decide +kernel
theorem dL_contest_103 : decode cL_contest 103 = .ok (.iconst 0, 1) := by decide +kernel
theorem dL_contest_104 : decode cL_contest 104 = .ok (.iconst 1, 1) := by decide +kernel
theorem dL_contest_105 : decode cL_contest 105 = .ok (.invokevirtual 37, 3) := by decide +kernel
theorem dL_contest_108 : decode cL_contest 108 = .ok (.ifCond .ne 221, 3) := by decide +kernel
theorem dL_contest_111 : decode cL_contest 111 = .ok (.aload_n 0, 1) := by decide +kernel
theorem dL_contest_112 : decode cL_contest 112 = .ok (.iconst 1, 1) := by decide +kernel
theorem dL_contest_113 : decode cL_contest 113 = .ok (.invokevirtual 17, 3) := by decide +kernel
theorem dL_contest_116 : decode cL_contest 116 = .ok (.iconst 1, 1) := by decide +kernel
theorem dL_contest_117 : decode cL_contest 117 = .ok (.if_icmp .ne 212, 3) := by decide +kernel
theorem dL_contest_120 : decode cL_contest 120 = .ok (.aload_n 0, 1) := by decide +kernel
theorem dL_contest_121 : decode cL_contest 121 = .ok (.bipush (-2), 2) := by decide +kernel
theorem dL_contest_123 : decode cL_contest 123 = .ok (.invokevirtual 17, 3) := by decide +kernel
theorem dL_contest_126 : decode cL_contest 126 = .ok (.iconst 2, 1) := by decide +kernel
theorem dL_contest_127 : decode cL_contest 127 = .ok (.if_icmp .ne 202, 3) := by decide +kernel
theorem dL_contest_130 : decode cL_contest 130 = .ok (.aload_n 0, 1) := by decide +kernel
theorem dL_contest_131 : decode cL_contest 131 = .ok (.iconst 0, 1) := by decide +kernel
theorem dL_contest_132 : decode cL_contest 132 = .ok (.iconst 1, 1) := by decide +kernel
theorem dL_contest_133 : decode cL_contest 133 = .ok (.invokevirtual 27, 3) := by decide +kernel
theorem dL_contest_136 : decode cL_contest 136 = .ok (.iconst 1, 1) := by decide +kernel
theorem dL_contest_137 : decode cL_contest 137 = .ok (.if_icmp .ne 192, 3) := by decide +kernel
theorem dL_contest_140 : decode cL_contest 140 = .ok (.aload_n 0, 1) := by decide +kernel
theorem dL_contest_141 : decode cL_contest 141 = .ok (.iconst 0, 1) := by decide +kernel
theorem dL_contest_142 : decode cL_contest 142 = .ok (.iconst 1, 1) := by decide +kernel
theorem dL_contest_143 : decode cL_contest 143 = .ok (.iconst 0, 1) := by decide +kernel
theorem dL_contest_144 : decode cL_contest 144 = .ok (.invokevirtual 37, 3) := by decide +kernel
theorem dL_contest_147 : decode cL_contest 147 = .ok (.iconst (-1), 1) := by decide +kernel
theorem dL_contest_148 : decode cL_contest 148 = .ok (.if_icmp .ne 181, 3) := by decide +kernel
theorem dL_contest_151 : decode cL_contest 151 = .ok (.aload_n 0, 1) := by decide +kernel
theorem dL_contest_152 : decode cL_contest 152 = .ok (.iconst 5, 1) := by decide +kernel
theorem dL_contest_153 : decode cL_contest 153 = .ok (.invokevirtual 17, 3) := by decide +kernel
theorem dL_contest_156 : decode cL_contest 156 = .ok (.iconst 1, 1) := by decide +kernel
theorem dL_contest_157 : decode cL_contest 157 = .ok (.if_icmp .ne 172, 3) := by decide +kernel
theorem dL_contest_160 : decode cL_contest 160 = .ok (.aload_n 0, 1) := by decide +kernel
theorem dL_contest_161 : decode cL_contest 161 = .ok (.iconst 4, 1) := by decide +kernel
theorem dL_contest_162 : decode cL_contest 162 = .ok (.iconst 0, 1) := by decide +kernel
theorem dL_contest_163 : decode cL_contest 163 = .ok (.iconst 0, 1) := by decide +kernel
theorem dL_contest_164 : decode cL_contest 164 = .ok (.iconst 0, 1) := by decide +kernel
theorem dL_contest_165 : decode cL_contest 165 = .ok (.invokestatic 81, 3) := by decide +kernel
theorem dL_contest_168 : decode cL_contest 168 = .ok (.ldc 79, 2) := by decide +kernel
theorem dL_contest_170 : decode cL_contest 170 = .ok (.if_icmp .ne 159, 3) := by decide +kernel
theorem dL_contest_173 : decode cL_contest 173 = .ok (.aload_n 0, 1) := by decide +kernel
theorem dL_contest_174 : decode cL_contest 174 = .ok (.invokevirtual 94, 3) := by decide +kernel
theorem dL_contest_177 : decode cL_contest 177 = .ok (.ifCond .ne 152, 3) := by decide +kernel
theorem dL_contest_180 : decode cL_contest 180 = .ok (.aload_n 0, 1) := by decide +kernel
theorem dL_contest_181 : decode cL_contest 181 = .ok (.sipush 9200, 3) := by decide +kernel
theorem dL_contest_184 : decode cL_contest 184 = .ok (.iconst 4, 1) := by decide +kernel
theorem dL_contest_185 : decode cL_contest 185 = .ok (.invokestatic 90, 3) := by decide +kernel
theorem dL_contest_188 : decode cL_contest 188 = .ok (.iconst 4, 1) := by decide +kernel
theorem dL_contest_189 : decode cL_contest 189 = .ok (.if_icmp .ne 140, 3) := by decide +kernel
theorem dL_contest_192 : decode cL_contest 192 = .ok (.aload_n 0, 1) := by decide +kernel
theorem dL_contest_193 : decode cL_contest 193 = .ok (.iconst 2, 1) := by decide +kernel
theorem dL_contest_194 : decode cL_contest 194 = .ok (.iconst 0, 1) := by decide +kernel
theorem dL_contest_195 : decode cL_contest 195 = .ok (.invokevirtual 40, 3) := by decide +kernel
theorem dL_contest_198 : decode cL_contest 198 = .ok (.ifCond .ne 131, 3) := by decide +kernel
theorem dL_contest_201 : decode cL_contest 201 = .ok (.aload_n 0, 1) := by decide +kernel
theorem dL_contest_202 : decode cL_contest 202 = .ok (.bipush 10, 2) := by decide +kernel
theorem dL_contest_204 : decode cL_contest 204 = .ok (.invokevirtual 43, 3) := by decide +kernel
theorem dL_contest_207 : decode cL_contest 207 = .ok (.bipush 10, 2) := by decide +kernel
theorem dL_contest_209 : decode cL_contest 209 = .ok (.if_icmp .ne 120, 3) := by decide +kernel
theorem dL_contest_212 : decode cL_contest 212 = .ok (.aload_n 0, 1) := by decide +kernel
theorem dL_contest_213 : decode cL_contest 213 = .ok (.sipush 9300, 3) := by decide +kernel
theorem dL_contest_216 : decode cL_contest 216 = .ok (.iconst 4, 1) := by decide +kernel
theorem dL_contest_217 : decode cL_contest 217 = .ok (.invokestatic 90, 3) := by decide +kernel
theorem dL_contest_220 : decode cL_contest 220 = .ok (.iconst 4, 1) := by decide +kernel
theorem dL_contest_221 : decode cL_contest 221 = .ok (.if_icmp .ne 108, 3) := by decide +kernel
theorem dL_contest_224 : decode cL_contest 224 = .ok (.aload_n 0, 1) := by decide +kernel
theorem dL_contest_225 : decode cL_contest 225 = .ok (.iconst 3, 1) := by decide +kernel
theorem dL_contest_226 : decode cL_contest 226 = .ok (.iconst 0, 1) := by decide +kernel
theorem dL_contest_227 : decode cL_contest 227 = .ok (.invokevirtual 40, 3) := by decide +kernel
theorem dL_contest_230 : decode cL_contest 230 = .ok (.iconst 1, 1) := by decide +kernel
theorem dL_contest_231 : decode cL_contest 231 = .ok (.if_icmp .ne 98, 3) := by decide +kernel
theorem dL_contest_234 : decode cL_contest 234 = .ok (.aload_n 0, 1) := by decide +kernel
theorem dL_contest_235 : decode cL_contest 235 = .ok (.iconst 3, 1) := by decide +kernel
theorem dL_contest_236 : decode cL_contest 236 = .ok (.iconst 0, 1) := by decide +kernel
theorem dL_contest_237 : decode cL_contest 237 = .ok (.invokevirtual 40, 3) := by decide +kernel
theorem dL_contest_240 : decode cL_contest 240 = .ok (.iconst 2, 1) := by decide +kernel
theorem dL_contest_241 : decode cL_contest 241 = .ok (.if_icmp .ne 88, 3) := by decide +kernel
theorem dL_contest_244 : decode cL_contest 244 = .ok (.aload_n 0, 1) := by decide +kernel
theorem dL_contest_245 : decode cL_contest 245 = .ok (.bipush 9, 2) := by decide +kernel
theorem dL_contest_247 : decode cL_contest 247 = .ok (.iconst 1, 1) := by decide +kernel
theorem dL_contest_248 : decode cL_contest 248 = .ok (.invokestatic 90, 3) := by decide +kernel
theorem dL_contest_251 : decode cL_contest 251 = .ok (.iconst 1, 1) := by decide +kernel
theorem dL_contest_252 : decode cL_contest 252 = .ok (.if_icmp .ne 77, 3) := by decide +kernel
theorem dL_contest_255 : decode cL_contest 255 = .ok (.aload_n 0, 1) := by decide +kernel
theorem dL_contest_256 : decode cL_contest 256 = .ok (.iconst 4, 1) := by decide +kernel
theorem dL_contest_257 : decode cL_contest 257 = .ok (.iconst 0, 1) := by decide +kernel
theorem dL_contest_258 : decode cL_contest 258 = .ok (.invokevirtual 40, 3) := by decide +kernel
theorem dL_contest_261 : decode cL_contest 261 = .ok (.iconst 3, 1) := by decide +kernel
theorem dL_contest_262 : decode cL_contest 262 = .ok (.if_icmp .ne 67, 3) := by decide +kernel
theorem dL_contest_265 : decode cL_contest 265 = .ok (.aload_n 0, 1) := by decide +kernel
theorem dL_contest_266 : decode cL_contest 266 = .ok (.bipush 8, 2) := by decide +kernel
theorem dL_contest_268 : decode cL_contest 268 = .ok (.iconst 1, 1) := by decide +kernel
theorem dL_contest_269 : decode cL_contest 269 = .ok (.invokestatic 90, 3) := by decide +kernel
theorem dL_contest_272 : decode cL_contest 272 = .ok (.iconst 1, 1) := by decide +kernel
theorem dL_contest_273 : decode cL_contest 273 = .ok (.if_icmp .ne 56, 3) := by decide +kernel
theorem dL_contest_276 : decode cL_contest 276 = .ok (.aload_n 0, 1) := by decide +kernel
theorem dL_contest_277 : decode cL_contest 277 = .ok (.iconst 4, 1) := by decide +kernel
theorem dL_contest_278 : decode cL_contest 278 = .ok (.iconst 0, 1) := by decide +kernel
theorem dL_contest_279 : decode cL_contest 279 = .ok (.invokevirtual 40, 3) := by decide +kernel
theorem dL_contest_282 : decode cL_contest 282 = .ok (.iconst 4, 1) := by decide +kernel
theorem dL_contest_283 : decode cL_contest 283 = .ok (.if_icmp .ne 46, 3) := by decide +kernel
theorem dL_contest_286 : decode cL_contest 286 = .ok (.aload_n 0, 1) := by decide +kernel
theorem dL_contest_287 : decode cL_contest 287 = .ok (.iconst 0, 1) := by decide +kernel
theorem dL_contest_288 : decode cL_contest 288 = .ok (.iconst (-1), 1) := by decide +kernel
theorem dL_contest_289 : decode cL_contest 289 = .ok (.iconst (-1), 1) := by decide +kernel
theorem dL_contest_290 : decode cL_contest 290 = .ok (.iconst 0, 1) := by decide +kernel
theorem dL_contest_291 : decode cL_contest 291 = .ok (.iconst (-1), 1) := by decide +kernel
theorem dL_contest_292 : decode cL_contest 292 = .ok (.invokestatic 113, 3) := by decide +kernel
theorem dL_contest_295 : decode cL_contest 295 = .ok (.ifCond .eq 34, 3) := by decide +kernel
theorem dL_contest_298 : decode cL_contest 298 = .ok (.aload_n 0, 1) := by decide +kernel
theorem dL_contest_299 : decode cL_contest 299 = .ok (.iconst 1, 1) := by decide +kernel
theorem dL_contest_300 : decode cL_contest 300 = .ok (.iconst 4, 1) := by decide +kernel
theorem dL_contest_301 : decode cL_contest 301 = .ok (.invokevirtual 49, 3) := by decide +kernel
theorem dL_contest_304 : decode cL_contest 304 = .ok (.iconst 3, 1) := by decide +kernel
theorem dL_contest_305 : decode cL_contest 305 = .ok (.if_icmp .ne 24, 3) := by decide +kernel
theorem dL_contest_308 : decode cL_contest 308 = .ok (.aload_n 0, 1) := by decide +kernel
theorem dL_contest_309 : decode cL_contest 309 = .ok (.iconst 1, 1) := by decide +kernel
theorem dL_contest_310 : decode cL_contest 310 = .ok (.iconst 5, 1) := by decide +kernel
theorem dL_contest_311 : decode cL_contest 311 = .ok (.invokevirtual 49, 3) := by decide +kernel
theorem dL_contest_314 : decode cL_contest 314 = .ok (.ifCond .ne 15, 3) := by decide +kernel
theorem dL_contest_317 : decode cL_contest 317 = .ok (.aload_n 0, 1) := by decide +kernel
theorem dL_contest_318 : decode cL_contest 318 = .ok (.iconst 1, 1) := by decide +kernel
theorem dL_contest_319 : decode cL_contest 319 = .ok (.bipush 6, 2) := by decide +kernel
theorem dL_contest_321 : decode cL_contest 321 = .ok (.invokevirtual 49, 3) := by decide +kernel
theorem dL_contest_324 : decode cL_contest 324 = .ok (.bipush 10, 2) := by decide +kernel
theorem dL_contest_326 : decode cL_contest 326 = .ok (.if_icmp .eq 5, 3) := by decide +kernel
theorem dL_contest_329 : decode cL_contest 329 = .ok (.iconst 0, 1) := by decide +kernel
theorem dL_contest_330 : decode cL_contest 330 = .ok (.ireturn, 1) := by decide +kernel
theorem dL_contest_331 : decode cL_contest 331 = .ok (.aload_n 0, 1) := by decide +kernel
theorem dL_contest_332 : decode cL_contest 332 = .ok (.invokevirtual 107, 3) := by decide +kernel
theorem dL_contest_335 : decode cL_contest 335 = .ok (.ifCond .ne 316, 3) := by decide +kernel
theorem dL_contest_338 : decode cL_contest 338 = .ok (.aload_n 0, 1) := by decide +kernel
theorem dL_contest_339 : decode cL_contest 339 = .ok (.iconst 0, 1) := by decide +kernel
theorem dL_contest_340 : decode cL_contest 340 = .ok (.iconst 0, 1) := by decide +kernel
theorem dL_contest_341 : decode cL_contest 341 = .ok (.iconst (-1), 1) := by decide +kernel
theorem dL_contest_342 : decode cL_contest 342 = .ok (.bipush 50, 2) := by decide +kernel
theorem dL_contest_344 : decode cL_contest 344 = .ok (.iconst 2, 1) := by decide +kernel
theorem dL_contest_345 : decode cL_contest 345 = .ok (.invokestatic 113, 3) := by decide +kernel
theorem dL_contest_348 : decode cL_contest 348 = .ok (.ifCond .eq 303, 3) := by decide +kernel
theorem dL_contest_351 : decode cL_contest 351 = .ok (.aload_n 0, 1) := by decide +kernel
theorem dL_contest_352 : decode cL_contest 352 = .ok (.invokevirtual 107, 3) := by decide +kernel
theorem dL_contest_355 : decode cL_contest 355 = .ok (.iconst 1, 1) := by decide +kernel
theorem dL_contest_356 : decode cL_contest 356 = .ok (.if_icmp .ne 295, 3) := by decide +kernel
theorem dL_contest_359 : decode cL_contest 359 = .ok (.aload_n 0, 1) := by decide +kernel
theorem dL_contest_360 : decode cL_contest 360 = .ok (.iconst 1, 1) := by decide +kernel
theorem dL_contest_361 : decode cL_contest 361 = .ok (.iconst 1, 1) := by decide +kernel
theorem dL_contest_362 : decode cL_contest 362 = .ok (.iconst 0, 1) := by decide +kernel
theorem dL_contest_363 : decode cL_contest 363 = .ok (.iconst 0, 1) := by decide +kernel
theorem dL_contest_364 : decode cL_contest 364 = .ok (.iconst 2, 1) := by decide +kernel
theorem dL_contest_365 : decode cL_contest 365 = .ok (.invokestatic 113, 3) := by decide +kernel
theorem dL_contest_368 : decode cL_contest 368 = .ok (.ifCond .eq 283, 3) := by decide +kernel
theorem dL_contest_371 : decode cL_contest 371 = .ok (.aload_n 0, 1) := by decide +kernel
theorem dL_contest_372 : decode cL_contest 372 = .ok (.invokevirtual 107, 3) := by decide +kernel
theorem dL_contest_375 : decode cL_contest 375 = .ok (.iconst 3, 1) := by decide +kernel
theorem dL_contest_376 : decode cL_contest 376 = .ok (.if_icmp .ne 275, 3) := by decide +kernel
theorem dL_contest_379 : decode cL_contest 379 = .ok (.aload_n 0, 1) := by decide +kernel
theorem dL_contest_380 : decode cL_contest 380 = .ok (.iconst 3, 1) := by decide +kernel
theorem dL_contest_381 : decode cL_contest 381 = .ok (.iconst 4, 1) := by decide +kernel
theorem dL_contest_382 : decode cL_contest 382 = .ok (.iconst 0, 1) := by decide +kernel
theorem dL_contest_383 : decode cL_contest 383 = .ok (.iconst 0, 1) := by decide +kernel
theorem dL_contest_384 : decode cL_contest 384 = .ok (.iconst 2, 1) := by decide +kernel
theorem dL_contest_385 : decode cL_contest 385 = .ok (.invokestatic 113, 3) := by decide +kernel
theorem dL_contest_388 : decode cL_contest 388 = .ok (.ifCond .eq 263, 3) := by decide +kernel
theorem dL_contest_391 : decode cL_contest 391 = .ok (.aload_n 0, 1) := by decide +kernel
theorem dL_contest_392 : decode cL_contest 392 = .ok (.invokevirtual 107, 3) := by decide +kernel
theorem dL_contest_395 : decode cL_contest 395 = .ok (.iconst 2, 1) := by decide +kernel
theorem dL_contest_396 : decode cL_contest 396 = .ok (.if_icmp .ne 255, 3) := by decide +kernel
theorem dL_contest_399 : decode cL_contest 399 = .ok (.aload_n 0, 1) := by decide +kernel
theorem dL_contest_400 : decode cL_contest 400 = .ok (.iconst 2, 1) := by decide +kernel
theorem dL_contest_401 : decode cL_contest 401 = .ok (.iconst 5, 1) := by decide +kernel
theorem dL_contest_402 : decode cL_contest 402 = .ok (.iconst 0, 1) := by decide +kernel
theorem dL_contest_403 : decode cL_contest 403 = .ok (.iconst 0, 1) := by decide +kernel
theorem dL_contest_404 : decode cL_contest 404 = .ok (.iconst 2, 1) := by decide +kernel
theorem dL_contest_405 : decode cL_contest 405 = .ok (.invokestatic 113, 3) := by decide +kernel
theorem dL_contest_408 : decode cL_contest 408 = .ok (.ifCond .eq 243, 3) := by decide +kernel
theorem dL_contest_411 : decode cL_contest 411 = .ok (.aload_n 0, 1) := by decide +kernel
theorem dL_contest_412 : decode cL_contest 412 = .ok (.invokevirtual 107, 3) := by decide +kernel
theorem dL_contest_415 : decode cL_contest 415 = .ok (.iconst 4, 1) := by decide +kernel
theorem dL_contest_416 : decode cL_contest 416 = .ok (.if_icmp .ne 235, 3) := by decide +kernel
theorem dL_contest_419 : decode cL_contest 419 = .ok (.aload_n 0, 1) := by decide +kernel
theorem dL_contest_420 : decode cL_contest 420 = .ok (.iconst 4, 1) := by decide +kernel
theorem dL_contest_421 : decode cL_contest 421 = .ok (.iconst 2, 1) := by decide +kernel
theorem dL_contest_422 : decode cL_contest 422 = .ok (.iconst 0, 1) := by decide +kernel
theorem dL_contest_423 : decode cL_contest 423 = .ok (.iconst 0, 1) := by decide +kernel
theorem dL_contest_424 : decode cL_contest 424 = .ok (.iconst 2, 1) := by decide +kernel
theorem dL_contest_425 : decode cL_contest 425 = .ok (.invokestatic 113, 3) := by decide +kernel
theorem dL_contest_428 : decode cL_contest 428 = .ok (.ifCond .eq 223, 3) := by decide +kernel
theorem dL_contest_431 : decode cL_contest 431 = .ok (.aload_n 0, 1) := by decide +kernel
theorem dL_contest_432 : decode cL_contest 432 = .ok (.invokevirtual 107, 3) := by decide +kernel
theorem dL_contest_435 : decode cL_contest 435 = .ok (.iconst (-1), 1) := by decide +kernel
theorem dL_contest_436 : decode cL_contest 436 = .ok (.if_icmp .ne 215, 3) := by decide +kernel
theorem dL_contest_439 : decode cL_contest 439 = .ok (.aload_n 0, 1) := by decide +kernel
theorem dL_contest_440 : decode cL_contest 440 = .ok (.iconst 2, 1) := by decide +kernel
theorem dL_contest_441 : decode cL_contest 441 = .ok (.iconst 0, 1) := by decide +kernel
theorem dL_contest_442 : decode cL_contest 442 = .ok (.iconst 0, 1) := by decide +kernel
theorem dL_contest_443 : decode cL_contest 443 = .ok (.iconst 1, 1) := by decide +kernel
theorem dL_contest_444 : decode cL_contest 444 = .ok (.iconst 0, 1) := by decide +kernel
theorem dL_contest_445 : decode cL_contest 445 = .ok (.iconst 0, 1) := by decide +kernel
theorem dL_contest_446 : decode cL_contest 446 = .ok (.invokestatic 116, 3) := by decide +kernel
theorem dL_contest_449 : decode cL_contest 449 = .ok (.ifCond .eq 202, 3) := by decide +kernel
theorem dL_contest_452 : decode cL_contest 452 = .ok (.aload_n 0, 1) := by decide +kernel
theorem dL_contest_453 : decode cL_contest 453 = .ok (.iconst 0, 1) := by decide +kernel
theorem dL_contest_454 : decode cL_contest 454 = .ok (.iconst 0, 1) := by decide +kernel
theorem dL_contest_455 : decode cL_contest 455 = .ok (.iconst 1, 1) := by decide +kernel
theorem dL_contest_456 : decode cL_contest 456 = .ok (.iconst 0, 1) := by decide +kernel
theorem dL_contest_457 : decode cL_contest 457 = .ok (.iconst 0, 1) := by decide +kernel
theorem dL_contest_458 : decode cL_contest 458 = .ok (.iconst 0, 1) := by decide +kernel
theorem dL_contest_459 : decode cL_contest 459 = .ok (.invokestatic 116, 3) := by decide +kernel
theorem dL_contest_462 : decode cL_contest 462 = .ok (.ifCond .eq 189, 3) := by decide +kernel
theorem dL_contest_465 : decode cL_contest 465 = .ok (.aload_n 0, 1) := by decide +kernel
theorem dL_contest_466 : decode cL_contest 466 = .ok (.iconst 3, 1) := by decide +kernel
theorem dL_contest_467 : decode cL_contest 467 = .ok (.iconst 0, 1) := by decide +kernel
theorem dL_contest_468 : decode cL_contest 468 = .ok (.iconst 3, 1) := by decide +kernel
theorem dL_contest_469 : decode cL_contest 469 = .ok (.iconst 0, 1) := by decide +kernel
theorem dL_contest_470 : decode cL_contest 470 = .ok (.iconst 0, 1) := by decide +kernel
theorem dL_contest_471 : decode cL_contest 471 = .ok (.iconst 0, 1) := by decide +kernel
theorem dL_contest_472 : decode cL_contest 472 = .ok (.invokestatic 116, 3) := by decide +kernel
theorem dL_contest_475 : decode cL_contest 475 = .ok (.ifCond .eq 176, 3) := by decide +kernel
theorem dL_contest_478 : decode cL_contest 478 = .ok (.aload_n 0, 1) := by decide +kernel
theorem dL_contest_479 : decode cL_contest 479 = .ok (.bipush 7, 2) := by decide +kernel
theorem dL_contest_481 : decode cL_contest 481 = .ok (.iconst 1, 1) := by decide +kernel
theorem dL_contest_482 : decode cL_contest 482 = .ok (.bipush 7, 2) := by decide +kernel
theorem dL_contest_484 : decode cL_contest 484 = .ok (.iconst 0, 1) := by decide +kernel
theorem dL_contest_485 : decode cL_contest 485 = .ok (.iconst 0, 1) := by decide +kernel
theorem dL_contest_486 : decode cL_contest 486 = .ok (.iconst 0, 1) := by decide +kernel
theorem dL_contest_487 : decode cL_contest 487 = .ok (.invokestatic 116, 3) := by decide +kernel
theorem dL_contest_490 : decode cL_contest 490 = .ok (.ifCond .eq 161, 3) := by decide +kernel
theorem dL_contest_493 : decode cL_contest 493 = .ok (.aload_n 0, 1) := by decide +kernel
theorem dL_contest_494 : decode cL_contest 494 = .ok (.sipush 9200, 3) := by decide +kernel
theorem dL_contest_497 : decode cL_contest 497 = .ok (.iconst 4, 1) := by decide +kernel
theorem dL_contest_498 : decode cL_contest 498 = .ok (.invokestatic 90, 3) := by decide +kernel
theorem dL_contest_501 : decode cL_contest 501 = .ok (.iconst 4, 1) := by decide +kernel
theorem dL_contest_502 : decode cL_contest 502 = .ok (.if_icmp .ne 149, 3) := by decide +kernel
theorem dL_contest_505 : decode cL_contest 505 = .ok (.aload_n 0, 1) := by decide +kernel
theorem dL_contest_506 : decode cL_contest 506 = .ok (.iconst 3, 1) := by decide +kernel
theorem dL_contest_507 : decode cL_contest 507 = .ok (.iconst 0, 1) := by decide +kernel
theorem dL_contest_508 : decode cL_contest 508 = .ok (.invokevirtual 40, 3) := by decide +kernel
theorem dL_contest_511 : decode cL_contest 511 = .ok (.iconst 5, 1) := by decide +kernel
theorem dL_contest_512 : decode cL_contest 512 = .ok (.if_icmp .ne 139, 3) := by decide +kernel
theorem dL_contest_515 : decode cL_contest 515 = .ok (.aload_n 0, 1) := by decide +kernel
theorem dL_contest_516 : decode cL_contest 516 = .ok (.iconst 3, 1) := by decide +kernel
theorem dL_contest_517 : decode cL_contest 517 = .ok (.invokevirtual 64, 3) := by decide +kernel
theorem dL_contest_520 : decode cL_contest 520 = .ok (.iconst 1, 1) := by decide +kernel
theorem dL_contest_521 : decode cL_contest 521 = .ok (.if_icmp .ne 130, 3) := by decide +kernel
theorem dL_contest_524 : decode cL_contest 524 = .ok (.aload_n 0, 1) := by decide +kernel
theorem dL_contest_525 : decode cL_contest 525 = .ok (.iconst 3, 1) := by decide +kernel
theorem dL_contest_526 : decode cL_contest 526 = .ok (.iconst 0, 1) := by decide +kernel
theorem dL_contest_527 : decode cL_contest 527 = .ok (.iconst 0, 1) := by decide +kernel
theorem dL_contest_528 : decode cL_contest 528 = .ok (.invokevirtual 60, 3) := by decide +kernel
theorem dL_contest_531 : decode cL_contest 531 = .ok (.iconst 3, 1) := by decide +kernel
theorem dL_contest_532 : decode cL_contest 532 = .ok (.if_icmp .ne 119, 3) := by decide +kernel
theorem dL_contest_535 : decode cL_contest 535 = .ok (.aload_n 0, 1) := by decide +kernel
theorem dL_contest_536 : decode cL_contest 536 = .ok (.invokevirtual 107, 3) := by decide +kernel
theorem dL_contest_539 : decode cL_contest 539 = .ok (.iconst 5, 1) := by decide +kernel
theorem dL_contest_540 : decode cL_contest 540 = .ok (.if_icmp .ne 111, 3) := by decide +kernel
theorem dL_contest_543 : decode cL_contest 543 = .ok (.aload_n 0, 1) := by decide +kernel
theorem dL_contest_544 : decode cL_contest 544 = .ok (.iconst 3, 1) := by decide +kernel
theorem dL_contest_545 : decode cL_contest 545 = .ok (.iconst 0, 1) := by decide +kernel
theorem dL_contest_546 : decode cL_contest 546 = .ok (.iconst 1, 1) := by decide +kernel
theorem dL_contest_547 : decode cL_contest 547 = .ok (.iconst 1, 1) := by decide +kernel
theorem dL_contest_548 : decode cL_contest 548 = .ok (.bipush 50, 2) := by decide +kernel
theorem dL_contest_550 : decode cL_contest 550 = .ok (.bipush 10, 2) := by decide +kernel
theorem dL_contest_552 : decode cL_contest 552 = .ok (.invokestatic 116, 3) := by decide +kernel
theorem dL_contest_555 : decode cL_contest 555 = .ok (.ifCond .eq 96, 3) := by decide +kernel
theorem dL_contest_558 : decode cL_contest 558 = .ok (.aload_n 0, 1) := by decide +kernel
theorem dL_contest_559 : decode cL_contest 559 = .ok (.iconst 0, 1) := by decide +kernel
theorem dL_contest_560 : decode cL_contest 560 = .ok (.iconst 0, 1) := by decide +kernel
theorem dL_contest_561 : decode cL_contest 561 = .ok (.iconst 2, 1) := by decide +kernel
theorem dL_contest_562 : decode cL_contest 562 = .ok (.iconst 0, 1) := by decide +kernel
theorem dL_contest_563 : decode cL_contest 563 = .ok (.iconst 0, 1) := by decide +kernel
theorem dL_contest_564 : decode cL_contest 564 = .ok (.iconst 0, 1) := by decide +kernel
theorem dL_contest_565 : decode cL_contest 565 = .ok (.invokestatic 116, 3) := by decide +kernel
theorem dL_contest_568 : decode cL_contest 568 = .ok (.ifCond .eq 83, 3) := by decide +kernel
theorem dL_contest_571 : decode cL_contest 571 = .ok (.aload_n 0, 1) := by decide +kernel
theorem dL_contest_572 : decode cL_contest 572 = .ok (.iconst 5, 1) := by decide +kernel
theorem dL_contest_573 : decode cL_contest 573 = .ok (.iconst 0, 1) := by decide +kernel
theorem dL_contest_574 : decode cL_contest 574 = .ok (.iconst 1, 1) := by decide +kernel
theorem dL_contest_575 : decode cL_contest 575 = .ok (.bipush 40, 2) := by decide +kernel
theorem dL_contest_577 : decode cL_contest 577 = .ok (.invokestatic 81, 3) := by decide +kernel
theorem dL_contest_580 : decode cL_contest 580 = .ok (.bipush 25, 2) := by decide +kernel
theorem dL_contest_582 : decode cL_contest 582 = .ok (.if_icmp .ne 69, 3) := by decide +kernel
theorem dL_contest_585 : decode cL_contest 585 = .ok (.aload_n 0, 1) := by decide +kernel
theorem dL_contest_586 : decode cL_contest 586 = .ok (.iconst 5, 1) := by decide +kernel
theorem dL_contest_587 : decode cL_contest 587 = .ok (.iconst 0, 1) := by decide +kernel
theorem dL_contest_588 : decode cL_contest 588 = .ok (.iconst (-1), 1) := by decide +kernel
theorem dL_contest_589 : decode cL_contest 589 = .ok (.bipush 50, 2) := by decide +kernel
theorem dL_contest_591 : decode cL_contest 591 = .ok (.iconst 2, 1) := by decide +kernel
theorem dL_contest_592 : decode cL_contest 592 = .ok (.invokestatic 113, 3) := by decide +kernel
theorem dL_contest_595 : decode cL_contest 595 = .ok (.ifCond .eq 56, 3) := by decide +kernel
theorem dL_contest_598 : decode cL_contest 598 = .ok (.aload_n 0, 1) := by decide +kernel
theorem dL_contest_599 : decode cL_contest 599 = .ok (.iconst 0, 1) := by decide +kernel
theorem dL_contest_600 : decode cL_contest 600 = .ok (.iconst 1, 1) := by decide +kernel
theorem dL_contest_601 : decode cL_contest 601 = .ok (.invokevirtual 52, 3) := by decide +kernel
theorem dL_contest_604 : decode cL_contest 604 = .ok (.bipush 75, 2) := by decide +kernel
theorem dL_contest_606 : decode cL_contest 606 = .ok (.if_icmp .ne 45, 3) := by decide +kernel
theorem dL_contest_609 : decode cL_contest 609 = .ok (.aload_n 0, 1) := by decide +kernel
theorem dL_contest_610 : decode cL_contest 610 = .ok (.iconst 2, 1) := by decide +kernel
theorem dL_contest_611 : decode cL_contest 611 = .ok (.iconst 2, 1) := by decide +kernel
theorem dL_contest_612 : decode cL_contest 612 = .ok (.invokevirtual 52, 3) := by decide +kernel
theorem dL_contest_615 : decode cL_contest 615 = .ok (.bipush 100, 2) := by decide +kernel
theorem dL_contest_617 : decode cL_contest 617 = .ok (.if_icmp .ne 34, 3) := by decide +kernel
theorem dL_contest_620 : decode cL_contest 620 = .ok (.aload_n 0, 1) := by decide +kernel
theorem dL_contest_621 : decode cL_contest 621 = .ok (.iconst 0, 1) := by decide +kernel
theorem dL_contest_622 : decode cL_contest 622 = .ok (.iconst 2, 1) := by decide +kernel
theorem dL_contest_623 : decode cL_contest 623 = .ok (.invokevirtual 52, 3) := by decide +kernel
theorem dL_contest_626 : decode cL_contest 626 = .ok (.ifCond .ne 25, 3) := by decide +kernel
theorem dL_contest_629 : decode cL_contest 629 = .ok (.aload_n 0, 1) := by decide +kernel
theorem dL_contest_630 : decode cL_contest 630 = .ok (.iconst 0, 1) := by decide +kernel
theorem dL_contest_631 : decode cL_contest 631 = .ok (.iconst 5, 1) := by decide +kernel
theorem dL_contest_632 : decode cL_contest 632 = .ok (.invokevirtual 52, 3) := by decide +kernel
theorem dL_contest_635 : decode cL_contest 635 = .ok (.bipush 100, 2) := by decide +kernel
theorem dL_contest_637 : decode cL_contest 637 = .ok (.if_icmp .ne 14, 3) := by decide +kernel
theorem dL_contest_640 : decode cL_contest 640 = .ok (.aload_n 0, 1) := by decide +kernel
theorem dL_contest_641 : decode cL_contest 641 = .ok (.iconst 3, 1) := by decide +kernel
theorem dL_contest_642 : decode cL_contest 642 = .ok (.iconst 0, 1) := by decide +kernel
theorem dL_contest_643 : decode cL_contest 643 = .ok (.invokevirtual 52, 3) := by decide +kernel
theorem dL_contest_646 : decode cL_contest 646 = .ok (.bipush 25, 2) := by decide +kernel
theorem dL_contest_648 : decode cL_contest 648 = .ok (.if_icmp .eq 5, 3) := by decide +kernel
theorem dL_contest_651 : decode cL_contest 651 = .ok (.iconst 0, 1) := by decide +kernel
theorem dL_contest_652 : decode cL_contest 652 = .ok (.ireturn, 1) := by decide +kernel
theorem dL_contest_653 : decode cL_contest 653 = .ok (.aload_n 0, 1) := by decide +kernel
theorem dL_contest_654 : decode cL_contest 654 = .ok (.iconst 0, 1) := by decide +kernel
theorem dL_contest_655 : decode cL_contest 655 = .ok (.iconst 1, 1) := by decide +kernel
theorem dL_contest_656 : decode cL_contest 656 = .ok (.invokevirtual 34, 3) := by decide +kernel
theorem dL_contest_659 : decode cL_contest 659 = .ok (.iconst 3, 1) := by decide +kernel
theorem dL_contest_660 : decode cL_contest 660 = .ok (.if_icmp .ne 126, 3) := by decide +kernel
theorem dL_contest_663 : decode cL_contest 663 = .ok (.aload_n 0, 1) := by decide +kernel
theorem dL_contest_664 : decode cL_contest 664 = .ok (.iconst 0, 1) := by decide +kernel
theorem dL_contest_665 : decode cL_contest 665 = .ok (.invokevirtual 46, 3) := by decide +kernel
theorem dL_contest_668 : decode cL_contest 668 = .ok (.bipush 6, 2) := by decide +kernel
theorem dL_contest_670 : decode cL_contest 670 = .ok (.if_icmp .ne 116, 3) := by decide +kernel
theorem dL_contest_673 : decode cL_contest 673 = .ok (.aload_n 0, 1) := by decide +kernel
theorem dL_contest_674 : decode cL_contest 674 = .ok (.iconst 0, 1) := by decide +kernel
theorem dL_contest_675 : decode cL_contest 675 = .ok (.invokevirtual 46, 3) := by decide +kernel
theorem dL_contest_678 : decode cL_contest 678 = .ok (.ifCond .ne 108, 3) := by decide +kernel
theorem dL_contest_681 : decode cL_contest 681 = .ok (.aload_n 0, 1) := by decide +kernel
theorem dL_contest_682 : decode cL_contest 682 = .ok (.iconst 0, 1) := by decide +kernel
theorem dL_contest_683 : decode cL_contest 683 = .ok (.iconst (-1), 1) := by decide +kernel
theorem dL_contest_684 : decode cL_contest 684 = .ok (.iconst (-1), 1) := by decide +kernel
theorem dL_contest_685 : decode cL_contest 685 = .ok (.iconst 0, 1) := by decide +kernel
theorem dL_contest_686 : decode cL_contest 686 = .ok (.iconst (-1), 1) := by decide +kernel
theorem dL_contest_687 : decode cL_contest 687 = .ok (.invokestatic 113, 3) := by decide +kernel
theorem dL_contest_690 : decode cL_contest 690 = .ok (.ifCond .eq 96, 3) := by decide +kernel
theorem dL_contest_693 : decode cL_contest 693 = .ok (.aload_n 0, 1) := by decide +kernel
theorem dL_contest_694 : decode cL_contest 694 = .ok (.iconst 2, 1) := by decide +kernel
theorem dL_contest_695 : decode cL_contest 695 = .ok (.iconst 0, 1) := by decide +kernel
theorem dL_contest_696 : decode cL_contest 696 = .ok (.iconst 1, 1) := by decide +kernel
theorem dL_contest_697 : decode cL_contest 697 = .ok (.invokevirtual 60, 3) := by decide +kernel
theorem dL_contest_700 : decode cL_contest 700 = .ok (.ifCond .ne 86, 3) := by decide +kernel
theorem dL_contest_703 : decode cL_contest 703 = .ok (.aload_n 0, 1) := by decide +kernel
theorem dL_contest_704 : decode cL_contest 704 = .ok (.invokevirtual 107, 3) := by decide +kernel
theorem dL_contest_707 : decode cL_contest 707 = .ok (.ifCond .ne 79, 3) := by decide +kernel
theorem dL_contest_710 : decode cL_contest 710 = .ok (.aload_n 0, 1) := by decide +kernel
theorem dL_contest_711 : decode cL_contest 711 = .ok (.iconst 0, 1) := by decide +kernel
theorem dL_contest_712 : decode cL_contest 712 = .ok (.iconst 0, 1) := by decide +kernel
theorem dL_contest_713 : decode cL_contest 713 = .ok (.iconst (-1), 1) := by decide +kernel
theorem dL_contest_714 : decode cL_contest 714 = .ok (.bipush 65, 2) := by decide +kernel
theorem dL_contest_716 : decode cL_contest 716 = .ok (.iconst 3, 1) := by decide +kernel
theorem dL_contest_717 : decode cL_contest 717 = .ok (.invokestatic 113, 3) := by decide +kernel
theorem dL_contest_720 : decode cL_contest 720 = .ok (.ifCond .eq 66, 3) := by decide +kernel
theorem dL_contest_723 : decode cL_contest 723 = .ok (.aload_n 0, 1) := by decide +kernel
theorem dL_contest_724 : decode cL_contest 724 = .ok (.invokevirtual 107, 3) := by decide +kernel
theorem dL_contest_727 : decode cL_contest 727 = .ok (.iconst 3, 1) := by decide +kernel
theorem dL_contest_728 : decode cL_contest 728 = .ok (.if_icmp .ne 58, 3) := by decide +kernel
theorem dL_contest_731 : decode cL_contest 731 = .ok (.aload_n 0, 1) := by decide +kernel
theorem dL_contest_732 : decode cL_contest 732 = .ok (.invokevirtual 107, 3) := by decide +kernel
theorem dL_contest_735 : decode cL_contest 735 = .ok (.iconst 1, 1) := by decide +kernel
theorem dL_contest_736 : decode cL_contest 736 = .ok (.if_icmp .ne 50, 3) := by decide +kernel
theorem dL_contest_739 : decode cL_contest 739 = .ok (.aload_n 0, 1) := by decide +kernel
theorem dL_contest_740 : decode cL_contest 740 = .ok (.invokevirtual 107, 3) := by decide +kernel
theorem dL_contest_743 : decode cL_contest 743 = .ok (.iconst 4, 1) := by decide +kernel
theorem dL_contest_744 : decode cL_contest 744 = .ok (.if_icmp .ne 42, 3) := by decide +kernel
theorem dL_contest_747 : decode cL_contest 747 = .ok (.aload_n 0, 1) := by decide +kernel
theorem dL_contest_748 : decode cL_contest 748 = .ok (.invokevirtual 107, 3) := by decide +kernel
theorem dL_contest_751 : decode cL_contest 751 = .ok (.iconst 2, 1) := by decide +kernel
theorem dL_contest_752 : decode cL_contest 752 = .ok (.if_icmp .ne 34, 3) := by decide +kernel
theorem dL_contest_755 : decode cL_contest 755 = .ok (.aload_n 0, 1) := by decide +kernel
theorem dL_contest_756 : decode cL_contest 756 = .ok (.invokevirtual 107, 3) := by decide +kernel
theorem dL_contest_759 : decode cL_contest 759 = .ok (.iconst 5, 1) := by decide +kernel
theorem dL_contest_760 : decode cL_contest 760 = .ok (.if_icmp .ne 26, 3) := by decide +kernel
theorem dL_contest_763 : decode cL_contest 763 = .ok (.aload_n 0, 1) := by decide +kernel
theorem dL_contest_764 : decode cL_contest 764 = .ok (.invokevirtual 107, 3) := by decide +kernel
theorem dL_contest_767 : decode cL_contest 767 = .ok (.iconst (-1), 1) := by decide +kernel
theorem dL_contest_768 : decode cL_contest 768 = .ok (.if_icmp .ne 18, 3) := by decide +kernel
theorem dL_contest_771 : decode cL_contest 771 = .ok (.aload_n 0, 1) := by decide +kernel
theorem dL_contest_772 : decode cL_contest 772 = .ok (.iconst 3, 1) := by decide +kernel
theorem dL_contest_773 : decode cL_contest 773 = .ok (.iconst 0, 1) := by decide +kernel
theorem dL_contest_774 : decode cL_contest 774 = .ok (.iconst 1, 1) := by decide +kernel
theorem dL_contest_775 : decode cL_contest 775 = .ok (.iconst 1, 1) := by decide +kernel
theorem dL_contest_776 : decode cL_contest 776 = .ok (.bipush 50, 2) := by decide +kernel
theorem dL_contest_778 : decode cL_contest 778 = .ok (.bipush 10, 2) := by decide +kernel
theorem dL_contest_780 : decode cL_contest 780 = .ok (.invokestatic 116, 3) := by decide +kernel
theorem dL_contest_783 : decode cL_contest 783 = .ok (.ifCond .ne 5, 3) := by decide +kernel
theorem dL_contest_786 : decode cL_contest 786 = .ok (.iconst 0, 1) := by decide +kernel
theorem dL_contest_787 : decode cL_contest 787 = .ok (.ireturn, 1) := by decide +kernel
theorem dL_contest_788 : decode cL_contest 788 = .ok (.aload_n 0, 1) := by decide +kernel
theorem dL_contest_789 : decode cL_contest 789 = .ok (.bipush 50, 2) := by decide +kernel
theorem dL_contest_791 : decode cL_contest 791 = .ok (.iconst 2, 1) := by decide +kernel
theorem dL_contest_792 : decode cL_contest 792 = .ok (.invokestatic 90, 3) := by decide +kernel
theorem dL_contest_795 : decode cL_contest 795 = .ok (.iconst 2, 1) := by decide +kernel
theorem dL_contest_796 : decode cL_contest 796 = .ok (.if_icmp .ne 326, 3) := by decide +kernel
theorem dL_contest_799 : decode cL_contest 799 = .ok (.aload_n 0, 1) := by decide +kernel
theorem dL_contest_800 : decode cL_contest 800 = .ok (.bipush 7, 2) := by decide +kernel
theorem dL_contest_802 : decode cL_contest 802 = .ok (.bipush (-9), 2) := by decide +kernel
theorem dL_contest_804 : decode cL_contest 804 = .ok (.invokevirtual 13, 3) := by decide +kernel
theorem dL_contest_807 : decode cL_contest 807 = .ok (.iconst 3, 1) := by decide +kernel
theorem dL_contest_808 : decode cL_contest 808 = .ok (.if_icmp .ne 314, 3) := by decide +kernel
theorem dL_contest_811 : decode cL_contest 811 = .ok (.aload_n 0, 1) := by decide +kernel
theorem dL_contest_812 : decode cL_contest 812 = .ok (.sipush 920, 3) := by decide +kernel
theorem dL_contest_815 : decode cL_contest 815 = .ok (.iconst 3, 1) := by decide +kernel
theorem dL_contest_816 : decode cL_contest 816 = .ok (.invokestatic 90, 3) := by decide +kernel
theorem dL_contest_819 : decode cL_contest 819 = .ok (.bipush 6, 2) := by decide +kernel
theorem dL_contest_821 : decode cL_contest 821 = .ok (.if_icmp .ne 301, 3) := by decide +kernel
theorem dL_contest_824 : decode cL_contest 824 = .ok (.aload_n 0, 1) := by decide +kernel
theorem dL_contest_825 : decode cL_contest 825 = .ok (.iconst 5, 1) := by decide +kernel
theorem dL_contest_826 : decode cL_contest 826 = .ok (.iconst 0, 1) := by decide +kernel
theorem dL_contest_827 : decode cL_contest 827 = .ok (.invokevirtual 40, 3) := by decide +kernel
theorem dL_contest_830 : decode cL_contest 830 = .ok (.bipush 6, 2) := by decide +kernel
theorem dL_contest_832 : decode cL_contest 832 = .ok (.if_icmp .ne 290, 3) := by decide +kernel
theorem dL_contest_835 : decode cL_contest 835 = .ok (.aload_n 0, 1) := by decide +kernel
theorem dL_contest_836 : decode cL_contest 836 = .ok (.invokevirtual 107, 3) := by decide +kernel
theorem dL_contest_839 : decode cL_contest 839 = .ok (.bipush 6, 2) := by decide +kernel
theorem dL_contest_841 : decode cL_contest 841 = .ok (.if_icmp .ne 281, 3) := by decide +kernel
theorem dL_contest_844 : decode cL_contest 844 = .ok (.aload_n 0, 1) := by decide +kernel
theorem dL_contest_845 : decode cL_contest 845 = .ok (.bipush 6, 2) := by decide +kernel
theorem dL_contest_847 : decode cL_contest 847 = .ok (.iconst 0, 1) := by decide +kernel
theorem dL_contest_848 : decode cL_contest 848 = .ok (.iconst (-1), 1) := by decide +kernel
theorem dL_contest_849 : decode cL_contest 849 = .ok (.bipush 65, 2) := by decide +kernel
theorem dL_contest_851 : decode cL_contest 851 = .ok (.iconst 3, 1) := by decide +kernel
theorem dL_contest_852 : decode cL_contest 852 = .ok (.invokestatic 113, 3) := by decide +kernel
theorem dL_contest_855 : decode cL_contest 855 = .ok (.ifCond .eq 267, 3) := by decide +kernel
theorem dL_contest_858 : decode cL_contest 858 = .ok (.aload_n 0, 1) := by decide +kernel
theorem dL_contest_859 : decode cL_contest 859 = .ok (.bipush 16, 2) := by decide +kernel
theorem dL_contest_861 : decode cL_contest 861 = .ok (.iconst 2, 1) := by decide +kernel
theorem dL_contest_862 : decode cL_contest 862 = .ok (.bipush 6, 2) := by decide +kernel
theorem dL_contest_864 : decode cL_contest 864 = .ok (.iconst 0, 1) := by decide +kernel
theorem dL_contest_865 : decode cL_contest 865 = .ok (.invokestatic 81, 3) := by decide +kernel
theorem dL_contest_868 : decode cL_contest 868 = .ok (.ldc 79, 2) := by decide +kernel
theorem dL_contest_870 : decode cL_contest 870 = .ok (.if_icmp .ne 252, 3) := by decide +kernel
theorem dL_contest_873 : decode cL_contest 873 = .ok (.aload_n 0, 1) := by decide +kernel
theorem dL_contest_874 : decode cL_contest 874 = .ok (.iconst 1, 1) := by decide +kernel
theorem dL_contest_875 : decode cL_contest 875 = .ok (.invokevirtual 17, 3) := by decide +kernel
theorem dL_contest_878 : decode cL_contest 878 = .ok (.iconst 1, 1) := by decide +kernel
theorem dL_contest_879 : decode cL_contest 879 = .ok (.if_icmp .ne 243, 3) := by decide +kernel
theorem dL_contest_882 : decode cL_contest 882 = .ok (.aload_n 0, 1) := by decide +kernel
theorem dL_contest_883 : decode cL_contest 883 = .ok (.iconst 1, 1) := by decide +kernel
theorem dL_contest_884 : decode cL_contest 884 = .ok (.invokevirtual 17, 3) := by decide +kernel
theorem dL_contest_887 : decode cL_contest 887 = .ok (.iconst 2, 1) := by decide +kernel
theorem dL_contest_888 : decode cL_contest 888 = .ok (.if_icmp .ne 234, 3) := by decide +kernel
theorem dL_contest_891 : decode cL_contest 891 = .ok (.aload_n 0, 1) := by decide +kernel
theorem dL_contest_892 : decode cL_contest 892 = .ok (.bipush 16, 2) := by decide +kernel
theorem dL_contest_894 : decode cL_contest 894 = .ok (.iconst 4, 1) := by decide +kernel
theorem dL_contest_895 : decode cL_contest 895 = .ok (.bipush 6, 2) := by decide +kernel
theorem dL_contest_897 : decode cL_contest 897 = .ok (.iconst 0, 1) := by decide +kernel
theorem dL_contest_898 : decode cL_contest 898 = .ok (.invokestatic 81, 3) := by decide +kernel
theorem dL_contest_901 : decode cL_contest 901 = .ok (.ldc 79, 2) := by decide +kernel
theorem dL_contest_903 : decode cL_contest 903 = .ok (.if_icmp .ne 219, 3) := by decide +kernel
theorem dL_contest_906 : decode cL_contest 906 = .ok (.aload_n 0, 1) := by decide +kernel
theorem dL_contest_907 : decode cL_contest 907 = .ok (.bipush 16, 2) := by decide +kernel
theorem dL_contest_909 : decode cL_contest 909 = .ok (.iconst 5, 1) := by decide +kernel
theorem dL_contest_910 : decode cL_contest 910 = .ok (.bipush 6, 2) := by decide +kernel
theorem dL_contest_912 : decode cL_contest 912 = .ok (.iconst 0, 1) := by decide +kernel
theorem dL_contest_913 : decode cL_contest 913 = .ok (.invokestatic 81, 3) := by decide +kernel
theorem dL_contest_916 : decode cL_contest 916 = .ok (.ldc 79, 2) := by decide +kernel
theorem dL_contest_918 : decode cL_contest 918 = .ok (.if_icmp .ne 204, 3) := by decide +kernel
theorem dL_contest_921 : decode cL_contest 921 = .ok (.aload_n 0, 1) := by decide +kernel
theorem dL_contest_922 : decode cL_contest 922 = .ok (.bipush 16, 2) := by decide +kernel
theorem dL_contest_924 : decode cL_contest 924 = .ok (.iconst 2, 1) := by decide +kernel
theorem dL_contest_925 : decode cL_contest 925 = .ok (.iconst 1, 1) := by decide +kernel
theorem dL_contest_926 : decode cL_contest 926 = .ok (.iconst 0, 1) := by decide +kernel
theorem dL_contest_927 : decode cL_contest 927 = .ok (.invokestatic 81, 3) := by decide +kernel
theorem dL_contest_930 : decode cL_contest 930 = .ok (.ldc 79, 2) := by decide +kernel
theorem dL_contest_932 : decode cL_contest 932 = .ok (.if_icmp .ne 190, 3) := by decide +kernel
theorem dL_contest_935 : decode cL_contest 935 = .ok (.aload_n 0, 1) := by decide +kernel
theorem dL_contest_936 : decode cL_contest 936 = .ok (.iconst 2, 1) := by decide +kernel
theorem dL_contest_937 : decode cL_contest 937 = .ok (.bipush 6, 2) := by decide +kernel
theorem dL_contest_939 : decode cL_contest 939 = .ok (.invokevirtual 67, 3) := by decide +kernel
theorem dL_contest_942 : decode cL_contest 942 = .ok (.ifCond .ne 180, 3) := by decide +kernel
theorem dL_contest_945 : decode cL_contest 945 = .ok (.aload_n 0, 1) := by decide +kernel
theorem dL_contest_946 : decode cL_contest 946 = .ok (.iconst 2, 1) := by decide +kernel
theorem dL_contest_947 : decode cL_contest 947 = .ok (.iconst 0, 1) := by decide +kernel
theorem dL_contest_948 : decode cL_contest 948 = .ok (.iconst 4, 1) := by decide +kernel
theorem dL_contest_949 : decode cL_contest 949 = .ok (.invokevirtual 60, 3) := by decide +kernel
theorem dL_contest_952 : decode cL_contest 952 = .ok (.iconst (-1), 1) := by decide +kernel
theorem dL_contest_953 : decode cL_contest 953 = .ok (.if_icmp .ne 169, 3) := by decide +kernel
theorem dL_contest_956 : decode cL_contest 956 = .ok (.aload_n 0, 1) := by decide +kernel
theorem dL_contest_957 : decode cL_contest 957 = .ok (.iconst 0, 1) := by decide +kernel
theorem dL_contest_958 : decode cL_contest 958 = .ok (.iconst 1, 1) := by decide +kernel
theorem dL_contest_959 : decode cL_contest 959 = .ok (.iconst 0, 1) := by decide +kernel
theorem dL_contest_960 : decode cL_contest 960 = .ok (.invokevirtual 37, 3) := by decide +kernel
theorem dL_contest_963 : decode cL_contest 963 = .ok (.iconst (-1), 1) := by decide +kernel
theorem dL_contest_964 : decode cL_contest 964 = .ok (.if_icmp .ne 158, 3) := by decide +kernel
theorem dL_contest_967 : decode cL_contest 967 = .ok (.aload_n 0, 1) := by decide +kernel
theorem dL_contest_968 : decode cL_contest 968 = .ok (.bipush 7, 2) := by decide +kernel
theorem dL_contest_970 : decode cL_contest 970 = .ok (.iconst 0, 1) := by decide +kernel
theorem dL_contest_971 : decode cL_contest 971 = .ok (.iconst 2, 1) := by decide +kernel
theorem dL_contest_972 : decode cL_contest 972 = .ok (.iconst 0, 1) := by decide +kernel
theorem dL_contest_973 : decode cL_contest 973 = .ok (.invokestatic 81, 3) := by decide +kernel
theorem dL_contest_976 : decode cL_contest 976 = .ok (.ldc 73, 2) := by decide +kernel
theorem dL_contest_978 : decode cL_contest 978 = .ok (.if_icmp .ne 144, 3) := by decide +kernel
theorem dL_contest_981 : decode cL_contest 981 = .ok (.aload_n 0, 1) := by decide +kernel
theorem dL_contest_982 : decode cL_contest 982 = .ok (.iconst 0, 1) := by decide +kernel
theorem dL_contest_983 : decode cL_contest 983 = .ok (.invokevirtual 17, 3) := by decide +kernel
theorem dL_contest_986 : decode cL_contest 986 = .ok (.iconst 1, 1) := by decide +kernel
theorem dL_contest_987 : decode cL_contest 987 = .ok (.if_icmp .ne 135, 3) := by decide +kernel
theorem dL_contest_990 : decode cL_contest 990 = .ok (.aload_n 0, 1) := by decide +kernel
theorem dL_contest_991 : decode cL_contest 991 = .ok (.iconst 5, 1) := by decide +kernel
theorem dL_contest_992 : decode cL_contest 992 = .ok (.invokevirtual 17, 3) := by decide +kernel
theorem dL_contest_995 : decode cL_contest 995 = .ok (.iconst 2, 1) := by decide +kernel
theorem dL_contest_996 : decode cL_contest 996 = .ok (.if_icmp .ne 126, 3) := by decide +kernel
theorem dL_contest_999 : decode cL_contest 999 = .ok (.aload_n 0, 1) := by decide +kernel
theorem dL_contest_1000 : decode cL_contest 1000 = .ok (.iconst 2, 1) := by decide +kernel
theorem dL_contest_1001 : decode cL_contest 1001 = .ok (.bipush 6, 2) := by decide +kernel
theorem dL_contest_1003 : decode cL_contest 1003 = .ok (.invokevirtual 67, 3) := by decide +kernel
theorem dL_contest_1006 : decode cL_contest 1006 = .ok (.ifCond .eq 116, 3) := by decide +kernel
theorem dL_contest_1009 : decode cL_contest 1009 = .ok (.aload_n 0, 1) := by decide +kernel
theorem dL_contest_1010 : decode cL_contest 1010 = .ok (.iconst 2, 1) := by decide +kernel
theorem dL_contest_1011 : decode cL_contest 1011 = .ok (.iconst 1, 1) := by decide +kernel
theorem dL_contest_1012 : decode cL_contest 1012 = .ok (.iconst 4, 1) := by decide +kernel
theorem dL_contest_1013 : decode cL_contest 1013 = .ok (.invokevirtual 60, 3) := by decide +kernel
theorem dL_contest_1016 : decode cL_contest 1016 = .ok (.ifCond .ne 106, 3) := by decide +kernel
theorem dL_contest_1019 : decode cL_contest 1019 = .ok (.aload_n 0, 1) := by decide +kernel
theorem dL_contest_1020 : decode cL_contest 1020 = .ok (.iconst 0, 1) := by decide +kernel
theorem dL_contest_1021 : decode cL_contest 1021 = .ok (.iconst 2, 1) := by decide +kernel
theorem dL_contest_1022 : decode cL_contest 1022 = .ok (.iconst 0, 1) := by decide +kernel
theorem dL_contest_1023 : decode cL_contest 1023 = .ok (.invokevirtual 37, 3) := by decide +kernel
theorem dL_contest_1026 : decode cL_contest 1026 = .ok (.iconst 5, 1) := by decide +kernel
theorem dL_contest_1027 : decode cL_contest 1027 = .ok (.if_icmp .ne 95, 3) := by decide +kernel
theorem dL_contest_1030 : decode cL_contest 1030 = .ok (.aload_n 0, 1) := by decide +kernel
theorem dL_contest_1031 : decode cL_contest 1031 = .ok (.bipush 6, 2) := by decide +kernel
theorem dL_contest_1033 : decode cL_contest 1033 = .ok (.iconst 4, 1) := by decide +kernel
theorem dL_contest_1034 : decode cL_contest 1034 = .ok (.iconst 2, 1) := by decide +kernel
theorem dL_contest_1035 : decode cL_contest 1035 = .ok (.bipush 65, 2) := by decide +kernel
theorem dL_contest_1037 : decode cL_contest 1037 = .ok (.iconst 4, 1) := by decide +kernel
theorem dL_contest_1038 : decode cL_contest 1038 = .ok (.invokestatic 113, 3) := by decide +kernel
theorem dL_contest_1041 : decode cL_contest 1041 = .ok (.ifCond .eq 81, 3) := by decide +kernel
theorem dL_contest_1044 : decode cL_contest 1044 = .ok (.aload_n 0, 1) := by decide +kernel
theorem dL_contest_1045 : decode cL_contest 1045 = .ok (.iconst 0, 1) := by decide +kernel
theorem dL_contest_1046 : decode cL_contest 1046 = .ok (.iconst 0, 1) := by decide +kernel
theorem dL_contest_1047 : decode cL_contest 1047 = .ok (.iconst (-1), 1) := by decide +kernel
theorem dL_contest_1048 : decode cL_contest 1048 = .ok (.bipush 65, 2) := by decide +kernel
theorem dL_contest_1050 : decode cL_contest 1050 = .ok (.iconst 3, 1) := by decide +kernel
theorem dL_contest_1051 : decode cL_contest 1051 = .ok (.invokestatic 113, 3) := by decide +kernel
theorem dL_contest_1054 : decode cL_contest 1054 = .ok (.ifCond .eq 68, 3) := by decide +kernel
theorem dL_contest_1057 : decode cL_contest 1057 = .ok (.aload_n 0, 1) := by decide +kernel
theorem dL_contest_1058 : decode cL_contest 1058 = .ok (.iconst 5, 1) := by decide +kernel
theorem dL_contest_1059 : decode cL_contest 1059 = .ok (.iconst 0, 1) := by decide +kernel
theorem dL_contest_1060 : decode cL_contest 1060 = .ok (.iconst 5, 1) := by decide +kernel
theorem dL_contest_1061 : decode cL_contest 1061 = .ok (.iconst 0, 1) := by decide +kernel
theorem dL_contest_1062 : decode cL_contest 1062 = .ok (.iconst 0, 1) := by decide +kernel
theorem dL_contest_1063 : decode cL_contest 1063 = .ok (.iconst 0, 1) := by decide +kernel
theorem dL_contest_1064 : decode cL_contest 1064 = .ok (.invokestatic 116, 3) := by decide +kernel
theorem dL_contest_1067 : decode cL_contest 1067 = .ok (.ifCond .eq 55, 3) := by decide +kernel
theorem dL_contest_1070 : decode cL_contest 1070 = .ok (.aload_n 0, 1) := by decide +kernel
theorem dL_contest_1071 : decode cL_contest 1071 = .ok (.bipush 7, 2) := by decide +kernel
theorem dL_contest_1073 : decode cL_contest 1073 = .ok (.invokevirtual 17, 3) := by decide +kernel
theorem dL_contest_1076 : decode cL_contest 1076 = .ok (.iconst 1, 1) := by decide +kernel
theorem dL_contest_1077 : decode cL_contest 1077 = .ok (.if_icmp .ne 45, 3) := by decide +kernel
theorem dL_contest_1080 : decode cL_contest 1080 = .ok (.aload_n 0, 1) := by decide +kernel
theorem dL_contest_1081 : decode cL_contest 1081 = .ok (.invokevirtual 94, 3) := by decide +kernel
theorem dL_contest_1084 : decode cL_contest 1084 = .ok (.ifCond .ne 38, 3) := by decide +kernel
theorem dL_contest_1087 : decode cL_contest 1087 = .ok (.aload_n 0, 1) := by decide +kernel
theorem dL_contest_1088 : decode cL_contest 1088 = .ok (.bipush 16, 2) := by decide +kernel
theorem dL_contest_1090 : decode cL_contest 1090 = .ok (.iconst 2, 1) := by decide +kernel
theorem dL_contest_1091 : decode cL_contest 1091 = .ok (.bipush 6, 2) := by decide +kernel
theorem dL_contest_1093 : decode cL_contest 1093 = .ok (.iconst 0, 1) := by decide +kernel
theorem dL_contest_1094 : decode cL_contest 1094 = .ok (.invokestatic 81, 3) := by decide +kernel
theorem dL_contest_1097 : decode cL_contest 1097 = .ok (.ldc 79, 2) := by decide +kernel
theorem dL_contest_1099 : decode cL_contest 1099 = .ok (.if_icmp .ne 23, 3) := by decide +kernel
theorem dL_contest_1102 : decode cL_contest 1102 = .ok (.aload_n 0, 1) := by decide +kernel
theorem dL_contest_1103 : decode cL_contest 1103 = .ok (.iconst 0, 1) := by decide +kernel
theorem dL_contest_1104 : decode cL_contest 1104 = .ok (.invokevirtual 46, 3) := by decide +kernel
theorem dL_contest_1107 : decode cL_contest 1107 = .ok (.bipush 6, 2) := by decide +kernel
theorem dL_contest_1109 : decode cL_contest 1109 = .ok (.if_icmp .ne 13, 3) := by decide +kernel
theorem dL_contest_1112 : decode cL_contest 1112 = .ok (.aload_n 0, 1) := by decide +kernel
theorem dL_contest_1113 : decode cL_contest 1113 = .ok (.iconst 1, 1) := by decide +kernel
theorem dL_contest_1114 : decode cL_contest 1114 = .ok (.bipush 7, 2) := by decide +kernel
theorem dL_contest_1116 : decode cL_contest 1116 = .ok (.invokestatic 99, 3) := by decide +kernel
theorem dL_contest_1119 : decode cL_contest 1119 = .ok (.ifCond .ne 5, 3) := by decide +kernel
theorem dL_contest_1122 : decode cL_contest 1122 = .ok (.iconst 0, 1) := by decide +kernel
theorem dL_contest_1123 : decode cL_contest 1123 = .ok (.ireturn, 1) := by decide +kernel
theorem dL_contest_1124 : decode cL_contest 1124 = .ok (.aload_n 0, 1) := by decide +kernel
theorem dL_contest_1125 : decode cL_contest 1125 = .ok (.invokestatic 119, 3) := by decide +kernel
theorem dL_contest_1128 : decode cL_contest 1128 = .ok (.ifCond .eq 19, 3) := by decide +kernel
theorem dL_contest_1131 : decode cL_contest 1131 = .ok (.invokestatic 123, 3) := by decide +kernel
theorem dL_contest_1134 : decode cL_contest 1134 = .ok (.ifCond .eq 13, 3) := by decide +kernel
theorem dL_contest_1137 : decode cL_contest 1137 = .ok (.invokestatic 126, 3) := by decide +kernel
theorem dL_contest_1140 : decode cL_contest 1140 = .ok (.ifCond .eq 7, 3) := by decide +kernel
theorem dL_contest_1143 : decode cL_contest 1143 = .ok (.iconst 1, 1) := by decide +kernel
theorem dL_contest_1144 : decode cL_contest 1144 = .ok (.goto 4, 3) := by decide +kernel
theorem dL_contest_1147 : decode cL_contest 1147 = .ok (.iconst 0, 1) := by decide +kernel
theorem dL_contest_1148 : decode cL_contest 1148 = .ok (.ireturn, 1) := by decide +kernel
