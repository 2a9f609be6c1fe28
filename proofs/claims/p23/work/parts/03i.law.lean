theorem dL_most_0 : decode cL_most 0 = .ok (.new 8, 3) := by decide +kernel
theorem dL_most_3 : decode cL_most 3 = .ok (.dup, 1) := by decide +kernel
theorem dL_most_4 : decode cL_most 4 = .ok (.invokespecial 85, 3) := by decide +kernel
theorem dL_most_7 : decode cL_most 7 = .ok (.astore_n 0, 1) := by decide +kernel
theorem dL_most_8 : decode cL_most 8 = .ok (.iconst 0, 1) := by decide +kernel
theorem dL_most_9 : decode cL_most 9 = .ok (.istore_n 1, 1) := by decide +kernel
theorem dL_most_10 : decode cL_most 10 = .ok (.iload_n 1, 1) := by decide +kernel
theorem dL_most_11 : decode cL_most 11 = .ok (.bipush 7, 2) := by decide +kernel
theorem dL_most_13 : decode cL_most 13 = .ok (.if_icmp .ge 38, 3) := by decide +kernel
theorem dL_most_16 : decode cL_most 16 = .ok (.aload_n 0, 1) := by decide +kernel
theorem dL_most_17 : decode cL_most 17 = .ok (.iconst 3, 1) := by decide +kernel
theorem dL_most_18 : decode cL_most 18 = .ok (.sipush 500, 3) := by decide +kernel
theorem dL_most_21 : decode cL_most 21 = .ok (.iload_n 1, 1) := by decide +kernel
theorem dL_most_22 : decode cL_most 22 = .ok (.iconst 2, 1) := by decide +kernel
theorem dL_most_23 : decode cL_most 23 = .ok (.irem, 1) := by decide +kernel
theorem dL_most_24 : decode cL_most 24 = .ok (.iconst 0, 1) := by decide +kernel
theorem dL_most_25 : decode cL_most 25 = .ok (.invokestatic 81, 3) := by decide +kernel
theorem dL_most_28 : decode cL_most 28 = .ok (.iload_n 1, 1) := by decide +kernel
theorem dL_most_29 : decode cL_most 29 = .ok (.bipush 6, 2) := by decide +kernel
theorem dL_most_31 : decode cL_most 31 = .ok (.if_icmp .ge 7, 3) := by decide +kernel
theorem dL_most_34 : decode cL_most 34 = .ok (.iload_n 1, 1) := by decide +kernel
theorem dL_most_35 : decode cL_most 35 = .ok (.goto 5, 3) := by decide +kernel
theorem dL_most_38 : decode cL_most 38 = .ok (.ldc 79, 2) := by decide +kernel
theorem dL_most_40 : decode cL_most 40 = .ok (.if_icmp .eq 5, 3) := by decide +kernel
theorem dL_most_43 : decode cL_most 43 = .ok (.iconst 0, 1) := by decide +kernel
theorem dL_most_44 : decode cL_most 44 = .ok (.ireturn, 1) := by decide +kernel
theorem dL_most_45 : decode cL_most 45 = .ok (.iinc 1 1, 3) := by decide +kernel
theorem dL_most_48 : decode cL_most 48 = .ok (.goto (-38), 3) := by decide +kernel
theorem dL_most_51 : decode cL_most 51 = .ok (.iconst 0, 1) := by decide +kernel
theorem dL_most_52 : decode cL_most 52 = .ok (.istore_n 1, 1) := by decide +kernel
theorem dL_most_53 : decode cL_most 53 = .ok (.iload_n 1, 1) := by decide +kernel
theorem dL_most_54 : decode cL_most 54 = .ok (.bipush 13, 2) := by decide +kernel
theorem dL_most_56 : decode cL_most 56 = .ok (.if_icmp .ge 48, 3) := by decide +kernel
theorem dL_most_59 : decode cL_most 59 = .ok (.aload_n 0, 1) := by decide +kernel
theorem dL_most_60 : decode cL_most 60 = .ok (.iload_n 1, 1) := by decide +kernel
theorem dL_most_61 : decode cL_most 61 = .ok (.bipush 9, 2) := by decide +kernel
theorem dL_most_63 : decode cL_most 63 = .ok (.irem, 1) := by decide +kernel
theorem dL_most_64 : decode cL_most 64 = .ok (.invokevirtual 17, 3) := by decide +kernel
theorem dL_most_67 : decode cL_most 67 = .ok (.iconst 1, 1) := by decide +kernel
theorem dL_most_68 : decode cL_most 68 = .ok (.if_icmp .ne 28, 3) := by decide +kernel
theorem dL_most_71 : decode cL_most 71 = .ok (.aload_n 0, 1) := by decide +kernel
theorem dL_most_72 : decode cL_most 72 = .ok (.iconst 4, 1) := by decide +kernel
theorem dL_most_73 : decode cL_most 73 = .ok (.iconst 5, 1) := by decide +kernel
theorem dL_most_74 : decode cL_most 74 = .ok (.iload_n 1, 1) := by decide +kernel
theorem dL_most_75 : decode cL_most 75 = .ok (.iconst 4, 1) := by decide +kernel
theorem dL_most_76 : decode cL_most 76 = .ok (.irem, 1) := by decide +kernel
theorem dL_most_77 : decode cL_most 77 = .ok (.iconst 0, 1) := by decide +kernel
theorem dL_most_78 : decode cL_most 78 = .ok (.invokestatic 81, 3) := by decide +kernel
theorem dL_most_81 : decode cL_most 81 = .ok (.iload_n 1, 1) := by decide +kernel
theorem dL_most_82 : decode cL_most 82 = .ok (.bipush 12, 2) := by decide +kernel
theorem dL_most_84 : decode cL_most 84 = .ok (.if_icmp .ge 7, 3) := by decide +kernel
theorem dL_most_87 : decode cL_most 87 = .ok (.iload_n 1, 1) := by decide +kernel
theorem dL_most_88 : decode cL_most 88 = .ok (.goto 5, 3) := by decide +kernel
theorem dL_most_91 : decode cL_most 91 = .ok (.ldc 79, 2) := by decide +kernel
theorem dL_most_93 : decode cL_most 93 = .ok (.if_icmp .eq 5, 3) := by decide +kernel
theorem dL_most_96 : decode cL_most 96 = .ok (.iconst 0, 1) := by decide +kernel
theorem dL_most_97 : decode cL_most 97 = .ok (.ireturn, 1) := by decide +kernel
theorem dL_most_98 : decode cL_most 98 = .ok (.iinc 1 1, 3) := by decide +kernel
theorem dL_most_101 : decode cL_most 101 = .ok (.goto (-48), 3) := by decide +kernel
theorem dL_most_104 : decode cL_most 104 = .ok (.iconst 0, 1) := by decide +kernel
theorem dL_most_105 : decode cL_most 105 = .ok (.istore_n 1, 1) := by decide +kernel
theorem dL_most_106 : decode cL_most 106 = .ok (.iload_n 1, 1) := by decide +kernel
theorem dL_most_107 : decode cL_most 107 = .ok (.bipush 61, 2) := by decide +kernel
theorem dL_most_109 : decode cL_most 109 = .ok (.if_icmp .ge 41, 3) := by decide +kernel
theorem dL_most_112 : decode cL_most 112 = .ok (.aload_n 0, 1) := by decide +kernel
theorem dL_most_113 : decode cL_most 113 = .ok (.bipush 8, 2) := by decide +kernel
theorem dL_most_115 : decode cL_most 115 = .ok (.iload_n 1, 1) := by decide +kernel
theorem dL_most_116 : decode cL_most 116 = .ok (.bipush 8, 2) := by decide +kernel
theorem dL_most_118 : decode cL_most 118 = .ok (.irem, 1) := by decide +kernel
theorem dL_most_119 : decode cL_most 119 = .ok (.iload_n 1, 1) := by decide +kernel
theorem dL_most_120 : decode cL_most 120 = .ok (.bipush 6, 2) := by decide +kernel
theorem dL_most_122 : decode cL_most 122 = .ok (.irem, 1) := by decide +kernel
theorem dL_most_123 : decode cL_most 123 = .ok (.iconst 0, 1) := by decide +kernel
theorem dL_most_124 : decode cL_most 124 = .ok (.invokestatic 81, 3) := by decide +kernel
theorem dL_most_127 : decode cL_most 127 = .ok (.iload_n 1, 1) := by decide +kernel
theorem dL_most_128 : decode cL_most 128 = .ok (.bipush 60, 2) := by decide +kernel
theorem dL_most_130 : decode cL_most 130 = .ok (.if_icmp .ge 7, 3) := by decide +kernel
theorem dL_most_133 : decode cL_most 133 = .ok (.iload_n 1, 1) := by decide +kernel
theorem dL_most_134 : decode cL_most 134 = .ok (.goto 5, 3) := by decide +kernel
theorem dL_most_137 : decode cL_most 137 = .ok (.ldc 79, 2) := by decide +kernel
theorem dL_most_139 : decode cL_most 139 = .ok (.if_icmp .eq 5, 3) := by decide +kernel
theorem dL_most_142 : decode cL_most 142 = .ok (.iconst 0, 1) := by decide +kernel
theorem dL_most_143 : decode cL_most 143 = .ok (.ireturn, 1) := by decide +kernel
theorem dL_most_144 : decode cL_most 144 = .ok (.iinc 1 1, 3) := by decide +kernel
theorem dL_most_147 : decode cL_most 147 = .ok (.goto (-41), 3) := by decide +kernel
theorem dL_most_150 : decode cL_most 150 = .ok (.iconst 0, 1) := by decide +kernel
theorem dL_most_151 : decode cL_most 151 = .ok (.istore_n 1, 1) := by decide +kernel
theorem dL_most_152 : decode cL_most 152 = .ok (.iload_n 1, 1) := by decide +kernel
theorem dL_most_153 : decode cL_most 153 = .ok (.bipush 60, 2) := by decide +kernel
theorem dL_most_155 : decode cL_most 155 = .ok (.if_icmp .ge 19, 3) := by decide +kernel
theorem dL_most_158 : decode cL_most 158 = .ok (.aload_n 0, 1) := by decide +kernel
theorem dL_most_159 : decode cL_most 159 = .ok (.invokevirtual 107, 3) := by decide +kernel
theorem dL_most_162 : decode cL_most 162 = .ok (.iload_n 1, 1) := by decide +kernel
theorem dL_most_163 : decode cL_most 163 = .ok (.if_icmp .eq 5, 3) := by decide +kernel
theorem dL_most_166 : decode cL_most 166 = .ok (.iconst 0, 1) := by decide +kernel
theorem dL_most_167 : decode cL_most 167 = .ok (.ireturn, 1) := by decide +kernel
theorem dL_most_168 : decode cL_most 168 = .ok (.iinc 1 1, 3) := by decide +kernel
theorem dL_most_171 : decode cL_most 171 = .ok (.goto (-19), 3) := by decide +kernel
theorem dL_most_174 : decode cL_most 174 = .ok (.aload_n 0, 1) := by decide +kernel
theorem dL_most_175 : decode cL_most 175 = .ok (.iconst 5, 1) := by decide +kernel
theorem dL_most_176 : decode cL_most 176 = .ok (.iconst 0, 1) := by decide +kernel
theorem dL_most_177 : decode cL_most 177 = .ok (.iconst (-1), 1) := by decide +kernel
theorem dL_most_178 : decode cL_most 178 = .ok (.bipush 100, 2) := by decide +kernel
theorem dL_most_180 : decode cL_most 180 = .ok (.bipush 12, 2) := by decide +kernel
theorem dL_most_182 : decode cL_most 182 = .ok (.invokestatic 113, 3) := by decide +kernel
theorem dL_most_185 : decode cL_most 185 = .ok (.ifCond .eq 72, 3) := by decide +kernel
theorem dL_most_188 : decode cL_most 188 = .ok (.aload_n 0, 1) := by decide +kernel
theorem dL_most_189 : decode cL_most 189 = .ok (.iconst 4, 1) := by decide +kernel
theorem dL_most_190 : decode cL_most 190 = .ok (.iconst 0, 1) := by decide +kernel
theorem dL_most_191 : decode cL_most 191 = .ok (.iconst (-1), 1) := by decide +kernel
theorem dL_most_192 : decode cL_most 192 = .ok (.iconst 0, 1) := by decide +kernel
theorem dL_most_193 : decode cL_most 193 = .ok (.iconst 0, 1) := by decide +kernel
theorem dL_most_194 : decode cL_most 194 = .ok (.invokestatic 113, 3) := by decide +kernel
theorem dL_most_197 : decode cL_most 197 = .ok (.ifCond .eq 60, 3) := by decide +kernel
theorem dL_most_200 : decode cL_most 200 = .ok (.aload_n 0, 1) := by decide +kernel
theorem dL_most_201 : decode cL_most 201 = .ok (.bipush 16, 2) := by decide +kernel
theorem dL_most_203 : decode cL_most 203 = .ok (.iconst 2, 1) := by decide +kernel
theorem dL_most_204 : decode cL_most 204 = .ok (.iconst 5, 1) := by decide +kernel
theorem dL_most_205 : decode cL_most 205 = .ok (.iconst 0, 1) := by decide +kernel
theorem dL_most_206 : decode cL_most 206 = .ok (.invokestatic 81, 3) := by decide +kernel
theorem dL_most_209 : decode cL_most 209 = .ok (.ldc 79, 2) := by decide +kernel
theorem dL_most_211 : decode cL_most 211 = .ok (.if_icmp .ne 46, 3) := by decide +kernel
theorem dL_most_214 : decode cL_most 214 = .ok (.aload_n 0, 1) := by decide +kernel
theorem dL_most_215 : decode cL_most 215 = .ok (.bipush 16, 2) := by decide +kernel
theorem dL_most_217 : decode cL_most 217 = .ok (.iconst 5, 1) := by decide +kernel
theorem dL_most_218 : decode cL_most 218 = .ok (.bipush 53, 2) := by decide +kernel
theorem dL_most_220 : decode cL_most 220 = .ok (.iconst 0, 1) := by decide +kernel
theorem dL_most_221 : decode cL_most 221 = .ok (.invokestatic 81, 3) := by decide +kernel
theorem dL_most_224 : decode cL_most 224 = .ok (.ldc 79, 2) := by decide +kernel
theorem dL_most_226 : decode cL_most 226 = .ok (.if_icmp .ne 31, 3) := by decide +kernel
theorem dL_most_229 : decode cL_most 229 = .ok (.aload_n 0, 1) := by decide +kernel
theorem dL_most_230 : decode cL_most 230 = .ok (.iconst 0, 1) := by decide +kernel
theorem dL_most_231 : decode cL_most 231 = .ok (.iconst 0, 1) := by decide +kernel
theorem dL_most_232 : decode cL_most 232 = .ok (.iconst 0, 1) := by decide +kernel
theorem dL_most_233 : decode cL_most 233 = .ok (.iconst 3, 1) := by decide +kernel
theorem dL_most_234 : decode cL_most 234 = .ok (.iconst 0, 1) := by decide +kernel
theorem dL_most_235 : decode cL_most 235 = .ok (.iconst 0, 1) := by decide +kernel
theorem dL_most_236 : decode cL_most 236 = .ok (.invokestatic 116, 3) := by decide +kernel
theorem dL_most_239 : decode cL_most 239 = .ok (.ifCond .eq 18, 3) := by decide +kernel
theorem dL_most_242 : decode cL_most 242 = .ok (.aload_n 0, 1) := by decide +kernel
theorem dL_most_243 : decode cL_most 243 = .ok (.bipush 7, 2) := by decide +kernel
theorem dL_most_245 : decode cL_most 245 = .ok (.iconst 1, 1) := by decide +kernel
theorem dL_most_246 : decode cL_most 246 = .ok (.bipush 7, 2) := by decide +kernel
theorem dL_most_248 : decode cL_most 248 = .ok (.iconst 3, 1) := by decide +kernel
theorem dL_most_249 : decode cL_most 249 = .ok (.iconst 0, 1) := by decide +kernel
theorem dL_most_250 : decode cL_most 250 = .ok (.iconst 0, 1) := by decide +kernel
theorem dL_most_251 : decode cL_most 251 = .ok (.invokestatic 116, 3) := by decide +kernel
theorem dL_most_254 : decode cL_most 254 = .ok (.ifCond .ne 5, 3) := by decide +kernel
theorem dL_most_257 : decode cL_most 257 = .ok (.iconst 0, 1) := by decide +kernel
theorem dL_most_258 : decode cL_most 258 = .ok (.ireturn, 1) := by decide +kernel
theorem dL_most_259 : decode cL_most 259 = .ok (.iconst 1, 1) := by decide +kernel
theorem dL_most_260 : decode cL_most 260 = .ok (.istore_n 1, 1) := by decide +kernel
theorem dL_most_261 : decode cL_most 261 = .ok (.iload_n 1, 1) := by decide +kernel
theorem dL_most_262 : decode cL_most 262 = .ok (.bipush 34, 2) := by decide +kernel
theorem dL_most_264 : decode cL_most 264 = .ok (.if_icmp .ge 26, 3) := by decide +kernel
theorem dL_most_267 : decode cL_most 267 = .ok (.aload_n 0, 1) := by decide +kernel
theorem dL_most_268 : decode cL_most 268 = .ok (.sipush 300, 3) := by decide +kernel
theorem dL_most_271 : decode cL_most 271 = .ok (.invokevirtual 43, 3) := by decide +kernel
theorem dL_most_274 : decode cL_most 274 = .ok (.sipush 300, 3) := by decide +kernel
theorem dL_most_277 : decode cL_most 277 = .ok (.iload_n 1, 1) := by decide +kernel
theorem dL_most_278 : decode cL_most 278 = .ok (.imul, 1) := by decide +kernel
theorem dL_most_279 : decode cL_most 279 = .ok (.if_icmp .eq 5, 3) := by decide +kernel
theorem dL_most_282 : decode cL_most 282 = .ok (.iconst 0, 1) := by decide +kernel
theorem dL_most_283 : decode cL_most 283 = .ok (.ireturn, 1) := by decide +kernel
theorem dL_most_284 : decode cL_most 284 = .ok (.iinc 1 1, 3) := by decide +kernel
theorem dL_most_287 : decode cL_most 287 = .ok (.goto (-26), 3) := by decide +kernel
theorem dL_most_290 : decode cL_most 290 = .ok (.aload_n 0, 1) := by decide +kernel
theorem dL_most_291 : decode cL_most 291 = .ok (.bipush 9, 2) := by decide +kernel
theorem dL_most_293 : decode cL_most 293 = .ok (.bipush 100, 2) := by decide +kernel
theorem dL_most_295 : decode cL_most 295 = .ok (.iconst 0, 1) := by decide +kernel
theorem dL_most_296 : decode cL_most 296 = .ok (.iconst 0, 1) := by decide +kernel
theorem dL_most_297 : decode cL_most 297 = .ok (.invokestatic 81, 3) := by decide +kernel
theorem dL_most_300 : decode cL_most 300 = .ok (.ldc 79, 2) := by decide +kernel
theorem dL_most_302 : decode cL_most 302 = .ok (.if_icmp .ne 44, 3) := by decide +kernel
theorem dL_most_305 : decode cL_most 305 = .ok (.aload_n 0, 1) := by decide +kernel
theorem dL_most_306 : decode cL_most 306 = .ok (.bipush 99, 2) := by decide +kernel
theorem dL_most_308 : decode cL_most 308 = .ok (.invokevirtual 43, 3) := by decide +kernel
theorem dL_most_311 : decode cL_most 311 = .ok (.sipush 9999, 3) := by decide +kernel
theorem dL_most_314 : decode cL_most 314 = .ok (.if_icmp .ne 32, 3) := by decide +kernel
theorem dL_most_317 : decode cL_most 317 = .ok (.aload_n 0, 1) := by decide +kernel
theorem dL_most_318 : decode cL_most 318 = .ok (.bipush 9, 2) := by decide +kernel
theorem dL_most_320 : decode cL_most 320 = .ok (.iconst 1, 1) := by decide +kernel
theorem dL_most_321 : decode cL_most 321 = .ok (.iconst 0, 1) := by decide +kernel
theorem dL_most_322 : decode cL_most 322 = .ok (.iconst 0, 1) := by decide +kernel
theorem dL_most_323 : decode cL_most 323 = .ok (.invokestatic 81, 3) := by decide +kernel
theorem dL_most_326 : decode cL_most 326 = .ok (.ldc 79, 2) := by decide +kernel
theorem dL_most_328 : decode cL_most 328 = .ok (.if_icmp .ne 18, 3) := by decide +kernel
theorem dL_most_331 : decode cL_most 331 = .ok (.aload_n 0, 1) := by decide +kernel
theorem dL_most_332 : decode cL_most 332 = .ok (.bipush 6, 2) := by decide +kernel
theorem dL_most_334 : decode cL_most 334 = .ok (.bipush 60, 2) := by decide +kernel
theorem dL_most_336 : decode cL_most 336 = .ok (.invokestatic 99, 3) := by decide +kernel
theorem dL_most_339 : decode cL_most 339 = .ok (.ifCond .eq 7, 3) := by decide +kernel
theorem dL_most_342 : decode cL_most 342 = .ok (.iconst 1, 1) := by decide +kernel
theorem dL_most_343 : decode cL_most 343 = .ok (.goto 4, 3) := by decide +kernel
theorem dL_most_346 : decode cL_most 346 = .ok (.iconst 0, 1) := by decide +kernel
theorem dL_most_347 : decode cL_most 347 = .ok (.ireturn, 1) := by decide +kernel
theorem dL_law_0 : decode cL_law 0 = .ok (.invokestatic 130, 3) := by decide +kernel
theorem dL_law_3 : decode cL_law 3 = .ok (.ifCond .ne 5, 3) := by decide +kernel
theorem dL_law_6 : decode cL_law 6 = .ok (.iconst 0, 1) := by decide +kernel
theorem dL_law_7 : decode cL_law 7 = .ok (.ireturn, 1) := by decide +kernel
theorem dL_law_8 : decode cL_law 8 = .ok (.new 8, 3) := by decide +kernel
theorem dL_law_11 : decode cL_law 11 = .ok (.dup, 1) := by decide +kernel
theorem dL_law_12 : decode cL_law 12 = .ok (.invokespecial 85, 3) := by decide +kernel
theorem dL_law_15 : decode cL_law 15 = .ok (.astore_n 1, 1) := by decide +kernel
theorem dL_law_16 : decode cL_law 16 = .ok (.iconst 0, 1) := by decide +kernel
theorem dL_law_17 : decode cL_law 17 = .ok (.istore_n 2, 1) := by decide +kernel
theorem dL_law_18 : decode cL_law 18 = .ok (.iconst 0, 1) := by decide +kernel
theorem dL_law_19 : decode cL_law 19 = .ok (.istore_n 3, 1) := by decide +kernel
theorem dL_law_20 : decode cL_law 20 = .ok (.iconst 0, 1) := by decide +kernel
theorem dL_law_21 : decode cL_law 21 = .ok (.istore 4, 2) := by decide +kernel
theorem dL_law_23 : decode cL_law 23 = .ok (.iconst 0, 1) := by decide +kernel
theorem dL_law_24 : decode cL_law 24 = .ok (.istore 5, 2) := by decide +kernel
theorem dL_law_26 : decode cL_law 26 = .ok (.iload 5, 2) := by decide +kernel
theorem dL_law_28 : decode cL_law 28 = .ok (.bipush 80, 2) := by decide +kernel
theorem dL_law_30 : decode cL_law 30 = .ok (.if_icmp .ge 769, 3) := by decide +kernel
theorem dL_law_33 : decode cL_law 33 = .ok (.aload_n 0, 1) := by decide +kernel
theorem dL_law_34 : decode cL_law 34 = .ok (.arraylength, 1) := by decide +kernel
theorem dL_law_35 : decode cL_law 35 = .ok (.ifCond .ne 11, 3) := by decide +kernel
theorem dL_law_38 : decode cL_law 38 = .ok (.bipush 103, 2) := by decide +kernel
theorem dL_law_40 : decode cL_law 40 = .ok (.iload 5, 2) := by decide +kernel
theorem dL_law_42 : decode cL_law 42 = .ok (.imul, 1) := by decide +kernel
theorem dL_law_43 : decode cL_law 43 = .ok (.goto 13, 3) := by decide +kernel
theorem dL_law_46 : decode cL_law 46 = .ok (.aload_n 0, 1) := by decide +kernel
theorem dL_law_47 : decode cL_law 47 = .ok (.iload 5, 2) := by decide +kernel
theorem dL_law_49 : decode cL_law 49 = .ok (.aload_n 0, 1) := by decide +kernel
theorem dL_law_50 : decode cL_law 50 = .ok (.arraylength, 1) := by decide +kernel
theorem dL_law_51 : decode cL_law 51 = .ok (.irem, 1) := by decide +kernel
theorem dL_law_52 : decode cL_law 52 = .ok (.iaload, 1) := by decide +kernel
theorem dL_law_53 : decode cL_law 53 = .ok (.bipush 8, 2) := by decide +kernel
theorem dL_law_55 : decode cL_law 55 = .ok (.iushr, 1) := by decide +kernel
theorem dL_law_56 : decode cL_law 56 = .ok (.istore 6, 2) := by decide +kernel
theorem dL_law_58 : decode cL_law 58 = .ok (.iload 6, 2) := by decide +kernel
theorem dL_law_60 : decode cL_law 60 = .ok (.bipush 16, 2) := by decide +kernel
theorem dL_law_62 : decode cL_law 62 = .ok (.irem, 1) := by decide +kernel
theorem dL_law_63 : decode cL_law 63 = .ok (.istore 7, 2) := by decide +kernel
theorem dL_law_65 : decode cL_law 65 = .ok (.iload 6, 2) := by decide +kernel
theorem dL_law_67 : decode cL_law 67 = .ok (.bipush 16, 2) := by decide +kernel
theorem dL_law_69 : decode cL_law 69 = .ok (.idiv, 1) := by decide +kernel
theorem dL_law_70 : decode cL_law 70 = .ok (.istore 8, 2) := by decide +kernel
theorem dL_law_72 : decode cL_law 72 = .ok (.iload 8, 2) := by decide +kernel
theorem dL_law_74 : decode cL_law 74 = .ok (.bipush 20, 2) := by decide +kernel
theorem dL_law_76 : decode cL_law 76 = .ok (.idiv, 1) := by decide +kernel
theorem dL_law_77 : decode cL_law 77 = .ok (.istore 9, 2) := by decide +kernel
theorem dL_law_79 : decode cL_law 79 = .ok (.iload 7, 2) := by decide +kernel
theorem dL_law_81 : decode cL_law 81 = .ok (.iconst 3, 1) := by decide +kernel
theorem dL_law_82 : decode cL_law 82 = .ok (.if_icmp .lt 7, 3) := by decide +kernel
theorem dL_law_85 : decode cL_law 85 = .ok (.iload_n 2, 1) := by decide +kernel
theorem dL_law_86 : decode cL_law 86 = .ok (.ifCond .ne 170, 3) := by decide +kernel
theorem dL_law_89 : decode cL_law 89 = .ok (.aload_n 1, 1) := by decide +kernel
theorem dL_law_90 : decode cL_law 90 = .ok (.invokevirtual 94, 3) := by decide +kernel
theorem dL_law_93 : decode cL_law 93 = .ok (.pop, 1) := by decide +kernel
theorem dL_law_94 : decode cL_law 94 = .ok (.iload 8, 2) := by decide +kernel
theorem dL_law_96 : decode cL_law 96 = .ok (.bipush 9, 2) := by decide +kernel
theorem dL_law_98 : decode cL_law 98 = .ok (.irem, 1) := by decide +kernel
theorem dL_law_99 : decode cL_law 99 = .ok (.istore 10, 2) := by decide +kernel
theorem dL_law_101 : decode cL_law 101 = .ok (.iconst 0, 1) := by decide +kernel
theorem dL_law_102 : decode cL_law 102 = .ok (.istore 11, 2) := by decide +kernel
theorem dL_law_104 : decode cL_law 104 = .ok (.iload 11, 2) := by decide +kernel
theorem dL_law_106 : decode cL_law 106 = .ok (.iload 10, 2) := by decide +kernel
theorem dL_law_108 : decode cL_law 108 = .ok (.if_icmp .ge 46, 3) := by decide +kernel
theorem dL_law_111 : decode cL_law 111 = .ok (.aload_n 1, 1) := by decide +kernel
theorem dL_law_112 : decode cL_law 112 = .ok (.iload 9, 2) := by decide +kernel
theorem dL_law_114 : decode cL_law 114 = .ok (.bipush 7, 2) := by decide +kernel
theorem dL_law_116 : decode cL_law 116 = .ok (.iload 11, 2) := by decide +kernel
theorem dL_law_118 : decode cL_law 118 = .ok (.imul, 1) := by decide +kernel
theorem dL_law_119 : decode cL_law 119 = .ok (.iload 11, 2) := by decide +kernel
theorem dL_law_121 : decode cL_law 121 = .ok (.imul, 1) := by decide +kernel
theorem dL_law_122 : decode cL_law 122 = .ok (.iadd, 1) := by decide +kernel
theorem dL_law_123 : decode cL_law 123 = .ok (.bipush 10, 2) := by decide +kernel
theorem dL_law_125 : decode cL_law 125 = .ok (.irem, 1) := by decide +kernel
theorem dL_law_126 : decode cL_law 126 = .ok (.iload 8, 2) := by decide +kernel
theorem dL_law_128 : decode cL_law 128 = .ok (.iload 11, 2) := by decide +kernel
theorem dL_law_130 : decode cL_law 130 = .ok (.iushr, 1) := by decide +kernel
theorem dL_law_131 : decode cL_law 131 = .ok (.bipush 12, 2) := by decide +kernel
theorem dL_law_133 : decode cL_law 133 = .ok (.irem, 1) := by decide +kernel
theorem dL_law_134 : decode cL_law 134 = .ok (.iconst 1, 1) := by decide +kernel
theorem dL_law_135 : decode cL_law 135 = .ok (.isub, 1) := by decide +kernel
theorem dL_law_136 : decode cL_law 136 = .ok (.invokevirtual 13, 3) := by decide +kernel
theorem dL_law_139 : decode cL_law 139 = .ok (.iload 11, 2) := by decide +kernel
theorem dL_law_141 : decode cL_law 141 = .ok (.iconst 1, 1) := by decide +kernel
theorem dL_law_142 : decode cL_law 142 = .ok (.iadd, 1) := by decide +kernel
theorem dL_law_143 : decode cL_law 143 = .ok (.if_icmp .eq 5, 3) := by decide +kernel
theorem dL_law_146 : decode cL_law 146 = .ok (.iconst 0, 1) := by decide +kernel
theorem dL_law_147 : decode cL_law 147 = .ok (.ireturn, 1) := by decide +kernel
theorem dL_law_148 : decode cL_law 148 = .ok (.iinc 11 1, 3) := by decide +kernel
theorem dL_law_151 : decode cL_law 151 = .ok (.goto (-47), 3) := by decide +kernel
theorem dL_law_154 : decode cL_law 154 = .ok (.iconst 0, 1) := by decide +kernel
theorem dL_law_155 : decode cL_law 155 = .ok (.istore 11, 2) := by decide +kernel
theorem dL_law_157 : decode cL_law 157 = .ok (.iload 11, 2) := by decide +kernel
theorem dL_law_159 : decode cL_law 159 = .ok (.iload 9, 2) := by decide +kernel
theorem dL_law_161 : decode cL_law 161 = .ok (.iconst 5, 1) := by decide +kernel
theorem dL_law_162 : decode cL_law 162 = .ok (.irem, 1) := by decide +kernel
theorem dL_law_163 : decode cL_law 163 = .ok (.if_icmp .ge 33, 3) := by decide +kernel
theorem dL_law_166 : decode cL_law 166 = .ok (.aload_n 1, 1) := by decide +kernel
theorem dL_law_167 : decode cL_law 167 = .ok (.iload 8, 2) := by decide +kernel
theorem dL_law_169 : decode cL_law 169 = .ok (.iload 11, 2) := by decide +kernel
theorem dL_law_171 : decode cL_law 171 = .ok (.iadd, 1) := by decide +kernel
theorem dL_law_172 : decode cL_law 172 = .ok (.bipush 19, 2) := by decide +kernel
theorem dL_law_174 : decode cL_law 174 = .ok (.irem, 1) := by decide +kernel
theorem dL_law_175 : decode cL_law 175 = .ok (.bipush 9, 2) := by decide +kernel
theorem dL_law_177 : decode cL_law 177 = .ok (.isub, 1) := by decide +kernel
theorem dL_law_178 : decode cL_law 178 = .ok (.invokevirtual 17, 3) := by decide +kernel
theorem dL_law_181 : decode cL_law 181 = .ok (.iload 11, 2) := by decide +kernel
theorem dL_law_183 : decode cL_law 183 = .ok (.iconst 1, 1) := by decide +kernel
theorem dL_law_184 : decode cL_law 184 = .ok (.iadd, 1) := by decide +kernel
theorem dL_law_185 : decode cL_law 185 = .ok (.if_icmp .eq 5, 3) := by decide +kernel
theorem dL_law_188 : decode cL_law 188 = .ok (.iconst 0, 1) := by decide +kernel
theorem dL_law_189 : decode cL_law 189 = .ok (.ireturn, 1) := by decide +kernel
theorem dL_law_190 : decode cL_law 190 = .ok (.iinc 11 1, 3) := by decide +kernel
theorem dL_law_193 : decode cL_law 193 = .ok (.goto (-36), 3) := by decide +kernel
theorem dL_law_196 : decode cL_law 196 = .ok (.iload 7, 2) := by decide +kernel
theorem dL_law_198 : decode cL_law 198 = .ok (.ifCond .eq 7, 3) := by decide +kernel
theorem dL_law_201 : decode cL_law 201 = .ok (.iload_n 2, 1) := by decide +kernel
theorem dL_law_202 : decode cL_law 202 = .ok (.ifCond .ne 51, 3) := by decide +kernel
theorem dL_law_205 : decode cL_law 205 = .ok (.aload_n 1, 1) := by decide +kernel
theorem dL_law_206 : decode cL_law 206 = .ok (.iconst 3, 1) := by decide +kernel
theorem dL_law_207 : decode cL_law 207 = .ok (.iconst 1, 1) := by decide +kernel
theorem dL_law_208 : decode cL_law 208 = .ok (.iload 8, 2) := by decide +kernel
theorem dL_law_210 : decode cL_law 210 = .ok (.bipush 60, 2) := by decide +kernel
theorem dL_law_212 : decode cL_law 212 = .ok (.irem, 1) := by decide +kernel
theorem dL_law_213 : decode cL_law 213 = .ok (.iadd, 1) := by decide +kernel
theorem dL_law_214 : decode cL_law 214 = .ok (.iload 9, 2) := by decide +kernel
theorem dL_law_216 : decode cL_law 216 = .ok (.iconst 2, 1) := by decide +kernel
theorem dL_law_217 : decode cL_law 217 = .ok (.irem, 1) := by decide +kernel
theorem dL_law_218 : decode cL_law 218 = .ok (.iconst 0, 1) := by decide +kernel
theorem dL_law_219 : decode cL_law 219 = .ok (.invokestatic 81, 3) := by decide +kernel
theorem dL_law_222 : decode cL_law 222 = .ok (.iload_n 2, 1) := by decide +kernel
theorem dL_law_223 : decode cL_law 223 = .ok (.bipush 6, 2) := by decide +kernel
theorem dL_law_225 : decode cL_law 225 = .ok (.if_icmp .ge 7, 3) := by decide +kernel
theorem dL_law_228 : decode cL_law 228 = .ok (.iload_n 2, 1) := by decide +kernel
theorem dL_law_229 : decode cL_law 229 = .ok (.goto 5, 3) := by decide +kernel
theorem dL_law_232 : decode cL_law 232 = .ok (.ldc 79, 2) := by decide +kernel
theorem dL_law_234 : decode cL_law 234 = .ok (.if_icmp .eq 5, 3) := by decide +kernel
theorem dL_law_237 : decode cL_law 237 = .ok (.iconst 0, 1) := by decide +kernel
theorem dL_law_238 : decode cL_law 238 = .ok (.ireturn, 1) := by decide +kernel
theorem dL_law_239 : decode cL_law 239 = .ok (.iload_n 2, 1) := by decide +kernel
theorem dL_law_240 : decode cL_law 240 = .ok (.iload_n 2, 1) := by decide +kernel
theorem dL_law_241 : decode cL_law 241 = .ok (.bipush 6, 2) := by decide +kernel
theorem dL_law_243 : decode cL_law 243 = .ok (.if_icmp .ge 7, 3) := by decide +kernel
theorem dL_law_246 : decode cL_law 246 = .ok (.iconst 1, 1) := by decide +kernel
theorem dL_law_247 : decode cL_law 247 = .ok (.goto 4, 3) := by decide +kernel
theorem dL_law_250 : decode cL_law 250 = .ok (.iconst 0, 1) := by decide +kernel
theorem dL_law_251 : decode cL_law 251 = .ok (.iadd, 1) := by decide +kernel
theorem dL_law_252 : decode cL_law 252 = .ok (.istore_n 2, 1) := by decide +kernel
theorem dL_law_253 : decode cL_law 253 = .ok (.goto 381, 3) := by decide +kernel
theorem dL_law_256 : decode cL_law 256 = .ok (.iload 7, 2) := by decide +kernel
theorem dL_law_258 : decode cL_law 258 = .ok (.bipush 6, 2) := by decide +kernel
theorem dL_law_260 : decode cL_law 260 = .ok (.if_icmp .ge 47, 3) := by decide +kernel
theorem dL_law_263 : decode cL_law 263 = .ok (.iload 9, 2) := by decide +kernel
theorem dL_law_265 : decode cL_law 265 = .ok (.iload_n 2, 1) := by decide +kernel
theorem dL_law_266 : decode cL_law 266 = .ok (.irem, 1) := by decide +kernel
theorem dL_law_267 : decode cL_law 267 = .ok (.istore 10, 2) := by decide +kernel
theorem dL_law_269 : decode cL_law 269 = .ok (.aload_n 1, 1) := by decide +kernel
theorem dL_law_270 : decode cL_law 270 = .ok (.iconst 4, 1) := by decide +kernel
theorem dL_law_271 : decode cL_law 271 = .ok (.iload 10, 2) := by decide +kernel
theorem dL_law_273 : decode cL_law 273 = .ok (.iload 8, 2) := by decide +kernel
theorem dL_law_275 : decode cL_law 275 = .ok (.iconst 4, 1) := by decide +kernel
theorem dL_law_276 : decode cL_law 276 = .ok (.irem, 1) := by decide +kernel
theorem dL_law_277 : decode cL_law 277 = .ok (.iconst 0, 1) := by decide +kernel
theorem dL_law_278 : decode cL_law 278 = .ok (.invokestatic 81, 3) := by decide +kernel
theorem dL_law_281 : decode cL_law 281 = .ok (.istore 11, 2) := by decide +kernel
theorem dL_law_283 : decode cL_law 283 = .ok (.iload 11, 2) := by decide +kernel
theorem dL_law_285 : decode cL_law 285 = .ok (.ldc 79, 2) := by decide +kernel
theorem dL_law_287 : decode cL_law 287 = .ok (.if_icmp .eq 17, 3) := by decide +kernel
theorem dL_law_290 : decode cL_law 290 = .ok (.iload 11, 2) := by decide +kernel
theorem dL_law_292 : decode cL_law 292 = .ok (.ifCond .lt 10, 3) := by decide +kernel
theorem dL_law_295 : decode cL_law 295 = .ok (.iload 11, 2) := by decide +kernel
theorem dL_law_297 : decode cL_law 297 = .ok (.bipush 11, 2) := by decide +kernel
theorem dL_law_299 : decode cL_law 299 = .ok (.if_icmp .le 5, 3) := by decide +kernel
theorem dL_law_302 : decode cL_law 302 = .ok (.iconst 0, 1) := by decide +kernel
theorem dL_law_303 : decode cL_law 303 = .ok (.ireturn, 1) := by decide +kernel
theorem dL_law_304 : decode cL_law 304 = .ok (.goto 330, 3) := by decide +kernel
theorem dL_law_307 : decode cL_law 307 = .ok (.iload 7, 2) := by decide +kernel
theorem dL_law_309 : decode cL_law 309 = .ok (.bipush 10, 2) := by decide +kernel
theorem dL_law_311 : decode cL_law 311 = .ok (.if_icmp .ge 53, 3) := by decide +kernel
theorem dL_law_314 : decode cL_law 314 = .ok (.aload_n 1, 1) := by decide +kernel
theorem dL_law_315 : decode cL_law 315 = .ok (.bipush 8, 2) := by decide +kernel
theorem dL_law_317 : decode cL_law 317 = .ok (.iload 8, 2) := by decide +kernel
theorem dL_law_319 : decode cL_law 319 = .ok (.bipush 8, 2) := by decide +kernel
theorem dL_law_321 : decode cL_law 321 = .ok (.irem, 1) := by decide +kernel
theorem dL_law_322 : decode cL_law 322 = .ok (.iload 9, 2) := by decide +kernel
theorem dL_law_324 : decode cL_law 324 = .ok (.iload_n 2, 1) := by decide +kernel
theorem dL_law_325 : decode cL_law 325 = .ok (.irem, 1) := by decide +kernel
theorem dL_law_326 : decode cL_law 326 = .ok (.iconst 0, 1) := by decide +kernel
theorem dL_law_327 : decode cL_law 327 = .ok (.invokestatic 81, 3) := by decide +kernel
theorem dL_law_330 : decode cL_law 330 = .ok (.iload_n 3, 1) := by decide +kernel
theorem dL_law_331 : decode cL_law 331 = .ok (.bipush 60, 2) := by decide +kernel
theorem dL_law_333 : decode cL_law 333 = .ok (.if_icmp .ge 7, 3) := by decide +kernel
theorem dL_law_336 : decode cL_law 336 = .ok (.iload_n 3, 1) := by decide +kernel
theorem dL_law_337 : decode cL_law 337 = .ok (.goto 5, 3) := by decide +kernel
theorem dL_law_340 : decode cL_law 340 = .ok (.ldc 79, 2) := by decide +kernel
theorem dL_law_342 : decode cL_law 342 = .ok (.if_icmp .eq 5, 3) := by decide +kernel
theorem dL_law_345 : decode cL_law 345 = .ok (.iconst 0, 1) := by decide +kernel
theorem dL_law_346 : decode cL_law 346 = .ok (.ireturn, 1) := by decide +kernel
theorem dL_law_347 : decode cL_law 347 = .ok (.iload_n 3, 1) := by decide +kernel
theorem dL_law_348 : decode cL_law 348 = .ok (.iload_n 3, 1) := by decide +kernel
theorem dL_law_349 : decode cL_law 349 = .ok (.bipush 60, 2) := by decide +kernel
theorem dL_law_351 : decode cL_law 351 = .ok (.if_icmp .ge 7, 3) := by decide +kernel
theorem dL_law_354 : decode cL_law 354 = .ok (.iconst 1, 1) := by decide +kernel
theorem dL_law_355 : decode cL_law 355 = .ok (.goto 4, 3) := by decide +kernel
theorem dL_law_358 : decode cL_law 358 = .ok (.iconst 0, 1) := by decide +kernel
theorem dL_law_359 : decode cL_law 359 = .ok (.iadd, 1) := by decide +kernel
theorem dL_law_360 : decode cL_law 360 = .ok (.istore_n 3, 1) := by decide +kernel
theorem dL_law_361 : decode cL_law 361 = .ok (.goto 273, 3) := by decide +kernel
theorem dL_law_364 : decode cL_law 364 = .ok (.iload 7, 2) := by decide +kernel
theorem dL_law_366 : decode cL_law 366 = .ok (.bipush 13, 2) := by decide +kernel
theorem dL_law_368 : decode cL_law 368 = .ok (.if_icmp .ge 108, 3) := by decide +kernel
theorem dL_law_371 : decode cL_law 371 = .ok (.aload_n 1, 1) := by decide +kernel
theorem dL_law_372 : decode cL_law 372 = .ok (.invokevirtual 107, 3) := by decide +kernel
theorem dL_law_375 : decode cL_law 375 = .ok (.istore 10, 2) := by decide +kernel
theorem dL_law_377 : decode cL_law 377 = .ok (.iload 10, 2) := by decide +kernel
theorem dL_law_379 : decode cL_law 379 = .ok (.ifCond .lt 71, 3) := by decide +kernel
theorem dL_law_382 : decode cL_law 382 = .ok (.aload_n 1, 1) := by decide +kernel
theorem dL_law_383 : decode cL_law 383 = .ok (.iload 10, 2) := by decide +kernel
theorem dL_law_385 : decode cL_law 385 = .ok (.iconst 0, 1) := by decide +kernel
theorem dL_law_386 : decode cL_law 386 = .ok (.invokevirtual 49, 3) := by decide +kernel
theorem dL_law_389 : decode cL_law 389 = .ok (.ifCond .lt 59, 3) := by decide +kernel
theorem dL_law_392 : decode cL_law 392 = .ok (.aload_n 1, 1) := by decide +kernel
theorem dL_law_393 : decode cL_law 393 = .ok (.iload 10, 2) := by decide +kernel
theorem dL_law_395 : decode cL_law 395 = .ok (.iconst 0, 1) := by decide +kernel
theorem dL_law_396 : decode cL_law 396 = .ok (.invokevirtual 49, 3) := by decide +kernel
theorem dL_law_399 : decode cL_law 399 = .ok (.ifCond .ne 7, 3) := by decide +kernel
theorem dL_law_402 : decode cL_law 402 = .ok (.iconst 1, 1) := by decide +kernel
theorem dL_law_403 : decode cL_law 403 = .ok (.goto 4, 3) := by decide +kernel
theorem dL_law_406 : decode cL_law 406 = .ok (.iconst 0, 1) := by decide +kernel
theorem dL_law_407 : decode cL_law 407 = .ok (.aload_n 1, 1) := by decide +kernel
theorem dL_law_408 : decode cL_law 408 = .ok (.iload 10, 2) := by decide +kernel
theorem dL_law_410 : decode cL_law 410 = .ok (.iconst 1, 1) := by decide +kernel
theorem dL_law_411 : decode cL_law 411 = .ok (.invokevirtual 49, 3) := by decide +kernel
theorem dL_law_414 : decode cL_law 414 = .ok (.ifCond .ge 7, 3) := by decide +kernel
theorem dL_law_417 : decode cL_law 417 = .ok (.iconst 1, 1) := by decide +kernel
theorem dL_law_418 : decode cL_law 418 = .ok (.goto 4, 3) := by decide +kernel
theorem dL_law_421 : decode cL_law 421 = .ok (.iconst 0, 1) := by decide +kernel
theorem dL_law_422 : decode cL_law 422 = .ok (.if_icmp .ne 26, 3) := by decide +kernel
theorem dL_law_425 : decode cL_law 425 = .ok (.aload_n 1, 1) := by decide +kernel
theorem dL_law_426 : decode cL_law 426 = .ok (.iload 10, 2) := by decide +kernel
theorem dL_law_428 : decode cL_law 428 = .ok (.iconst 0, 1) := by decide +kernel
theorem dL_law_429 : decode cL_law 429 = .ok (.invokevirtual 49, 3) := by decide +kernel
theorem dL_law_432 : decode cL_law 432 = .ok (.ifCond .le 18, 3) := by decide +kernel
theorem dL_law_435 : decode cL_law 435 = .ok (.aload_n 1, 1) := by decide +kernel
theorem dL_law_436 : decode cL_law 436 = .ok (.iload 10, 2) := by decide +kernel
theorem dL_law_438 : decode cL_law 438 = .ok (.iconst 2, 1) := by decide +kernel
theorem dL_law_439 : decode cL_law 439 = .ok (.invokevirtual 49, 3) := by decide +kernel
theorem dL_law_442 : decode cL_law 442 = .ok (.sipush 300, 3) := by decide +kernel
theorem dL_law_445 : decode cL_law 445 = .ok (.if_icmp .le 5, 3) := by decide +kernel
theorem dL_law_448 : decode cL_law 448 = .ok (.iconst 0, 1) := by decide +kernel
theorem dL_law_449 : decode cL_law 449 = .ok (.ireturn, 1) := by decide +kernel
theorem dL_law_450 : decode cL_law 450 = .ok (.iload 10, 2) := by decide +kernel
theorem dL_law_452 : decode cL_law 452 = .ok (.ifCond .ge 21, 3) := by decide +kernel
theorem dL_law_455 : decode cL_law 455 = .ok (.iload_n 3, 1) := by decide +kernel
theorem dL_law_456 : decode cL_law 456 = .ok (.ifCond .le 17, 3) := by decide +kernel
theorem dL_law_459 : decode cL_law 459 = .ok (.aload_n 1, 1) := by decide +kernel
theorem dL_law_460 : decode cL_law 460 = .ok (.iload 8, 2) := by decide +kernel
theorem dL_law_462 : decode cL_law 462 = .ok (.iload_n 3, 1) := by decide +kernel
theorem dL_law_463 : decode cL_law 463 = .ok (.irem, 1) := by decide +kernel
theorem dL_law_464 : decode cL_law 464 = .ok (.iconst 0, 1) := by decide +kernel
theorem dL_law_465 : decode cL_law 465 = .ok (.invokevirtual 49, 3) := by decide +kernel
theorem dL_law_468 : decode cL_law 468 = .ok (.ifCond .ge 5, 3) := by decide +kernel
theorem dL_law_471 : decode cL_law 471 = .ok (.iconst 0, 1) := by decide +kernel
theorem dL_law_472 : decode cL_law 472 = .ok (.ireturn, 1) := by decide +kernel
theorem dL_law_473 : decode cL_law 473 = .ok (.goto 161, 3) := by decide +kernel
theorem dL_law_476 : decode cL_law 476 = .ok (.iload 7, 2) := by decide +kernel
theorem dL_law_478 : decode cL_law 478 = .ok (.bipush 13, 2) := by decide +kernel
theorem dL_law_480 : decode cL_law 480 = .ok (.if_icmp .ne 45, 3) := by decide +kernel
theorem dL_law_483 : decode cL_law 483 = .ok (.aload_n 1, 1) := by decide +kernel
theorem dL_law_484 : decode cL_law 484 = .ok (.bipush 6, 2) := by decide +kernel
theorem dL_law_486 : decode cL_law 486 = .ok (.iload 9, 2) := by decide +kernel
theorem dL_law_488 : decode cL_law 488 = .ok (.iload_n 2, 1) := by decide +kernel
theorem dL_law_489 : decode cL_law 489 = .ok (.irem, 1) := by decide +kernel
theorem dL_law_490 : decode cL_law 490 = .ok (.iload 8, 2) := by decide +kernel
theorem dL_law_492 : decode cL_law 492 = .ok (.iconst 2, 1) := by decide +kernel
theorem dL_law_493 : decode cL_law 493 = .ok (.irem, 1) := by decide +kernel
theorem dL_law_494 : decode cL_law 494 = .ok (.iconst 0, 1) := by decide +kernel
theorem dL_law_495 : decode cL_law 495 = .ok (.invokestatic 81, 3) := by decide +kernel
theorem dL_law_498 : decode cL_law 498 = .ok (.ifCond .eq 25, 3) := by decide +kernel
theorem dL_law_501 : decode cL_law 501 = .ok (.aload_n 1, 1) := by decide +kernel
theorem dL_law_502 : decode cL_law 502 = .ok (.iload 9, 2) := by decide +kernel
theorem dL_law_504 : decode cL_law 504 = .ok (.iload_n 2, 1) := by decide +kernel
theorem dL_law_505 : decode cL_law 505 = .ok (.irem, 1) := by decide +kernel
theorem dL_law_506 : decode cL_law 506 = .ok (.invokevirtual 46, 3) := by decide +kernel
theorem dL_law_509 : decode cL_law 509 = .ok (.ifCond .lt 14, 3) := by decide +kernel
theorem dL_law_512 : decode cL_law 512 = .ok (.aload_n 1, 1) := by decide +kernel
theorem dL_law_513 : decode cL_law 513 = .ok (.iload 9, 2) := by decide +kernel
theorem dL_law_515 : decode cL_law 515 = .ok (.iload_n 2, 1) := by decide +kernel
theorem dL_law_516 : decode cL_law 516 = .ok (.irem, 1) := by decide +kernel
theorem dL_law_517 : decode cL_law 517 = .ok (.invokevirtual 46, 3) := by decide +kernel
theorem dL_law_520 : decode cL_law 520 = .ok (.ifCond .eq 114, 3) := by decide +kernel
theorem dL_law_523 : decode cL_law 523 = .ok (.iconst 0, 1) := by decide +kernel
theorem dL_law_524 : decode cL_law 524 = .ok (.ireturn, 1) := by decide +kernel
theorem dL_law_525 : decode cL_law 525 = .ok (.iload 7, 2) := by decide +kernel
theorem dL_law_527 : decode cL_law 527 = .ok (.bipush 14, 2) := by decide +kernel
theorem dL_law_529 : decode cL_law 529 = .ok (.if_icmp .ne 67, 3) := by decide +kernel
theorem dL_law_532 : decode cL_law 532 = .ok (.iload_n 3, 1) := by decide +kernel
theorem dL_law_533 : decode cL_law 533 = .ok (.ifCond .le 23, 3) := by decide +kernel
theorem dL_law_536 : decode cL_law 536 = .ok (.aload_n 1, 1) := by decide +kernel
theorem dL_law_537 : decode cL_law 537 = .ok (.bipush 16, 2) := by decide +kernel
theorem dL_law_539 : decode cL_law 539 = .ok (.iload 8, 2) := by decide +kernel
theorem dL_law_541 : decode cL_law 541 = .ok (.bipush 8, 2) := by decide +kernel
theorem dL_law_543 : decode cL_law 543 = .ok (.irem, 1) := by decide +kernel
theorem dL_law_544 : decode cL_law 544 = .ok (.iload 9, 2) := by decide +kernel
theorem dL_law_546 : decode cL_law 546 = .ok (.iload_n 3, 1) := by decide +kernel
theorem dL_law_547 : decode cL_law 547 = .ok (.irem, 1) := by decide +kernel
theorem dL_law_548 : decode cL_law 548 = .ok (.iconst 0, 1) := by decide +kernel
theorem dL_law_549 : decode cL_law 549 = .ok (.invokestatic 81, 3) := by decide +kernel
theorem dL_law_552 : decode cL_law 552 = .ok (.iconst 1, 1) := by decide +kernel
theorem dL_law_553 : decode cL_law 553 = .ok (.if_icmp .gt 41, 3) := by decide +kernel
theorem dL_law_556 : decode cL_law 556 = .ok (.aload_n 1, 1) := by decide +kernel
theorem dL_law_557 : decode cL_law 557 = .ok (.bipush 13, 2) := by decide +kernel
theorem dL_law_559 : decode cL_law 559 = .ok (.iload 8, 2) := by decide +kernel
theorem dL_law_561 : decode cL_law 561 = .ok (.iconst 5, 1) := by decide +kernel
theorem dL_law_562 : decode cL_law 562 = .ok (.irem, 1) := by decide +kernel
theorem dL_law_563 : decode cL_law 563 = .ok (.ifCond .ne 7, 3) := by decide +kernel
theorem dL_law_566 : decode cL_law 566 = .ok (.iconst (-1), 1) := by decide +kernel
theorem dL_law_567 : decode cL_law 567 = .ok (.goto 10, 3) := by decide +kernel
theorem dL_law_570 : decode cL_law 570 = .ok (.iload 9, 2) := by decide +kernel
theorem dL_law_572 : decode cL_law 572 = .ok (.iload 4, 2) := by decide +kernel
theorem dL_law_574 : decode cL_law 574 = .ok (.iconst 1, 1) := by decide +kernel
theorem dL_law_575 : decode cL_law 575 = .ok (.iadd, 1) := by decide +kernel
theorem dL_law_576 : decode cL_law 576 = .ok (.irem, 1) := by decide +kernel
theorem dL_law_577 : decode cL_law 577 = .ok (.iconst 0, 1) := by decide +kernel
theorem dL_law_578 : decode cL_law 578 = .ok (.iconst 0, 1) := by decide +kernel
theorem dL_law_579 : decode cL_law 579 = .ok (.invokestatic 81, 3) := by decide +kernel
theorem dL_law_582 : decode cL_law 582 = .ok (.iconst 1, 1) := by decide +kernel
theorem dL_law_583 : decode cL_law 583 = .ok (.if_icmp .ne 11, 3) := by decide +kernel
theorem dL_law_586 : decode cL_law 586 = .ok (.aload_n 1, 1) := by decide +kernel
theorem dL_law_587 : decode cL_law 587 = .ok (.invokevirtual 110, 3) := by decide +kernel
theorem dL_law_590 : decode cL_law 590 = .ok (.iconst (-1), 1) := by decide +kernel
theorem dL_law_591 : decode cL_law 591 = .ok (.if_icmp .ge 43, 3) := by decide +kernel
theorem dL_law_594 : decode cL_law 594 = .ok (.iconst 0, 1) := by decide +kernel
theorem dL_law_595 : decode cL_law 595 = .ok (.ireturn, 1) := by decide +kernel
theorem dL_law_596 : decode cL_law 596 = .ok (.iload 4, 2) := by decide +kernel
theorem dL_law_598 : decode cL_law 598 = .ok (.sipush 9000, 3) := by decide +kernel
theorem dL_law_601 : decode cL_law 601 = .ok (.if_icmp .ge 33, 3) := by decide +kernel
theorem dL_law_604 : decode cL_law 604 = .ok (.iload 4, 2) := by decide +kernel
theorem dL_law_606 : decode cL_law 606 = .ok (.iconst 1, 1) := by decide +kernel
theorem dL_law_607 : decode cL_law 607 = .ok (.iload 8, 2) := by decide +kernel
theorem dL_law_609 : decode cL_law 609 = .ok (.bipush 99, 2) := by decide +kernel
theorem dL_law_611 : decode cL_law 611 = .ok (.irem, 1) := by decide +kernel
theorem dL_law_612 : decode cL_law 612 = .ok (.iadd, 1) := by decide +kernel
theorem dL_law_613 : decode cL_law 613 = .ok (.iadd, 1) := by decide +kernel
theorem dL_law_614 : decode cL_law 614 = .ok (.istore 4, 2) := by decide +kernel
theorem dL_law_616 : decode cL_law 616 = .ok (.aload_n 1, 1) := by decide +kernel
theorem dL_law_617 : decode cL_law 617 = .ok (.iconst 1, 1) := by decide +kernel
theorem dL_law_618 : decode cL_law 618 = .ok (.iload 8, 2) := by decide +kernel
theorem dL_law_620 : decode cL_law 620 = .ok (.bipush 99, 2) := by decide +kernel
theorem dL_law_622 : decode cL_law 622 = .ok (.irem, 1) := by decide +kernel
theorem dL_law_623 : decode cL_law 623 = .ok (.iadd, 1) := by decide +kernel
theorem dL_law_624 : decode cL_law 624 = .ok (.invokevirtual 43, 3) := by decide +kernel
theorem dL_law_627 : decode cL_law 627 = .ok (.iload 4, 2) := by decide +kernel
theorem dL_law_629 : decode cL_law 629 = .ok (.if_icmp .eq 5, 3) := by decide +kernel
theorem dL_law_632 : decode cL_law 632 = .ok (.iconst 0, 1) := by decide +kernel
theorem dL_law_633 : decode cL_law 633 = .ok (.ireturn, 1) := by decide +kernel
theorem dL_law_634 : decode cL_law 634 = .ok (.iconst 0, 1) := by decide +kernel
theorem dL_law_635 : decode cL_law 635 = .ok (.istore 10, 2) := by decide +kernel
theorem dL_law_637 : decode cL_law 637 = .ok (.iconst 0, 1) := by decide +kernel
theorem dL_law_638 : decode cL_law 638 = .ok (.istore 11, 2) := by decide +kernel
theorem dL_law_640 : decode cL_law 640 = .ok (.iconst 0, 1) := by decide +kernel
theorem dL_law_641 : decode cL_law 641 = .ok (.istore 12, 2) := by decide +kernel
theorem dL_law_643 : decode cL_law 643 = .ok (.iconst 0, 1) := by decide +kernel
theorem dL_law_644 : decode cL_law 644 = .ok (.istore 13, 2) := by decide +kernel
theorem dL_law_646 : decode cL_law 646 = .ok (.iload 13, 2) := by decide +kernel
theorem dL_law_648 : decode cL_law 648 = .ok (.bipush 8, 2) := by decide +kernel
theorem dL_law_650 : decode cL_law 650 = .ok (.if_icmp .ge 67, 3) := by decide +kernel
theorem dL_law_653 : decode cL_law 653 = .ok (.iload 10, 2) := by decide +kernel
theorem dL_law_655 : decode cL_law 655 = .ok (.iconst 1, 1) := by decide +kernel
theorem dL_law_656 : decode cL_law 656 = .ok (.aload_n 1, 1) := by decide +kernel
theorem dL_law_657 : decode cL_law 657 = .ok (.iload 13, 2) := by decide +kernel
theorem dL_law_659 : decode cL_law 659 = .ok (.iconst 0, 1) := by decide +kernel
theorem dL_law_660 : decode cL_law 660 = .ok (.iconst 0, 1) := by decide +kernel
theorem dL_law_661 : decode cL_law 661 = .ok (.invokevirtual 60, 3) := by decide +kernel
theorem dL_law_664 : decode cL_law 664 = .ok (.ishl, 1) := by decide +kernel
theorem dL_law_665 : decode cL_law 665 = .ok (.ior, 1) := by decide +kernel
theorem dL_law_666 : decode cL_law 666 = .ok (.istore 10, 2) := by decide +kernel
theorem dL_law_668 : decode cL_law 668 = .ok (.iload 11, 2) := by decide +kernel
theorem dL_law_670 : decode cL_law 670 = .ok (.iconst 1, 1) := by decide +kernel
theorem dL_law_671 : decode cL_law 671 = .ok (.aload_n 1, 1) := by decide +kernel
theorem dL_law_672 : decode cL_law 672 = .ok (.iload 13, 2) := by decide +kernel
theorem dL_law_674 : decode cL_law 674 = .ok (.iconst 1, 1) := by decide +kernel
theorem dL_law_675 : decode cL_law 675 = .ok (.iconst 0, 1) := by decide +kernel
theorem dL_law_676 : decode cL_law 676 = .ok (.invokevirtual 60, 3) := by decide +kernel
theorem dL_law_679 : decode cL_law 679 = .ok (.ishl, 1) := by decide +kernel
theorem dL_law_680 : decode cL_law 680 = .ok (.ior, 1) := by decide +kernel
theorem dL_law_681 : decode cL_law 681 = .ok (.istore 11, 2) := by decide +kernel
theorem dL_law_683 : decode cL_law 683 = .ok (.iload 12, 2) := by decide +kernel
theorem dL_law_685 : decode cL_law 685 = .ok (.iload 5, 2) := by decide +kernel
theorem dL_law_687 : decode cL_law 687 = .ok (.bipush 8, 2) := by decide +kernel
theorem dL_law_689 : decode cL_law 689 = .ok (.irem, 1) := by decide +kernel
theorem dL_law_690 : decode cL_law 690 = .ok (.ifCond .ne 14, 3) := by decide +kernel
theorem dL_law_693 : decode cL_law 693 = .ok (.iconst 1, 1) := by decide +kernel
theorem dL_law_694 : decode cL_law 694 = .ok (.aload_n 1, 1) := by decide +kernel
theorem dL_law_695 : decode cL_law 695 = .ok (.iload 13, 2) := by decide +kernel
theorem dL_law_697 : decode cL_law 697 = .ok (.invokevirtual 64, 3) := by decide +kernel
theorem dL_law_700 : decode cL_law 700 = .ok (.ishl, 1) := by decide +kernel
theorem dL_law_701 : decode cL_law 701 = .ok (.goto 7, 3) := by decide +kernel
theorem dL_law_704 : decode cL_law 704 = .ok (.iconst 1, 1) := by decide +kernel
theorem dL_law_705 : decode cL_law 705 = .ok (.iload 13, 2) := by decide +kernel
theorem dL_law_707 : decode cL_law 707 = .ok (.ishl, 1) := by decide +kernel
theorem dL_law_708 : decode cL_law 708 = .ok (.ior, 1) := by decide +kernel
theorem dL_law_709 : decode cL_law 709 = .ok (.istore 12, 2) := by decide +kernel
theorem dL_law_711 : decode cL_law 711 = .ok (.iinc 13 1, 3) := by decide +kernel
theorem dL_law_714 : decode cL_law 714 = .ok (.goto (-68), 3) := by decide +kernel
theorem dL_law_717 : decode cL_law 717 = .ok (.iload 10, 2) := by decide +kernel
theorem dL_law_719 : decode cL_law 719 = .ok (.sipush 255, 3) := by decide +kernel
theorem dL_law_722 : decode cL_law 722 = .ok (.if_icmp .ne 50, 3) := by decide +kernel
theorem dL_law_725 : decode cL_law 725 = .ok (.iload 11, 2) := by decide +kernel
theorem dL_law_727 : decode cL_law 727 = .ok (.sipush 255, 3) := by decide +kernel
theorem dL_law_730 : decode cL_law 730 = .ok (.if_icmp .ne 42, 3) := by decide +kernel
theorem dL_law_733 : decode cL_law 733 = .ok (.iload 12, 2) := by decide +kernel
theorem dL_law_735 : decode cL_law 735 = .ok (.sipush 255, 3) := by decide +kernel
theorem dL_law_738 : decode cL_law 738 = .ok (.if_icmp .ne 34, 3) := by decide +kernel
theorem dL_law_741 : decode cL_law 741 = .ok (.iload_n 3, 1) := by decide +kernel
theorem dL_law_742 : decode cL_law 742 = .ok (.ifCond .le 32, 3) := by decide +kernel
theorem dL_law_745 : decode cL_law 745 = .ok (.aload_n 1, 1) := by decide +kernel
theorem dL_law_746 : decode cL_law 746 = .ok (.iload 8, 2) := by decide +kernel
theorem dL_law_748 : decode cL_law 748 = .ok (.iload_n 3, 1) := by decide +kernel
theorem dL_law_749 : decode cL_law 749 = .ok (.irem, 1) := by decide +kernel
theorem dL_law_750 : decode cL_law 750 = .ok (.iload 9, 2) := by decide +kernel
theorem dL_law_752 : decode cL_law 752 = .ok (.iload_n 3, 1) := by decide +kernel
theorem dL_law_753 : decode cL_law 753 = .ok (.irem, 1) := by decide +kernel
theorem dL_law_754 : decode cL_law 754 = .ok (.invokevirtual 52, 3) := by decide +kernel
theorem dL_law_757 : decode cL_law 757 = .ok (.aload_n 1, 1) := by decide +kernel
theorem dL_law_758 : decode cL_law 758 = .ok (.iload 9, 2) := by decide +kernel
theorem dL_law_760 : decode cL_law 760 = .ok (.iload_n 3, 1) := by decide +kernel
theorem dL_law_761 : decode cL_law 761 = .ok (.irem, 1) := by decide +kernel
theorem dL_law_762 : decode cL_law 762 = .ok (.iload 8, 2) := by decide +kernel
theorem dL_law_764 : decode cL_law 764 = .ok (.iload_n 3, 1) := by decide +kernel
theorem dL_law_765 : decode cL_law 765 = .ok (.irem, 1) := by decide +kernel
theorem dL_law_766 : decode cL_law 766 = .ok (.invokevirtual 52, 3) := by decide +kernel
theorem dL_law_769 : decode cL_law 769 = .ok (.if_icmp .eq 5, 3) := by decide +kernel
theorem dL_law_772 : decode cL_law 772 = .ok (.iconst 0, 1) := by decide +kernel
theorem dL_law_773 : decode cL_law 773 = .ok (.ireturn, 1) := by decide +kernel
theorem dL_law_774 : decode cL_law 774 = .ok (.iload 5, 2) := by decide +kernel
theorem dL_law_776 : decode cL_law 776 = .ok (.bipush 20, 2) := by decide +kernel
theorem dL_law_778 : decode cL_law 778 = .ok (.irem, 1) := by decide +kernel
theorem dL_law_779 : decode cL_law 779 = .ok (.ifCond .ne 14, 3) := by decide +kernel
theorem dL_law_782 : decode cL_law 782 = .ok (.aload_n 1, 1) := by decide +kernel
theorem dL_law_783 : decode cL_law 783 = .ok (.iload_n 2, 1) := by decide +kernel
theorem dL_law_784 : decode cL_law 784 = .ok (.iload_n 3, 1) := by decide +kernel
theorem dL_law_785 : decode cL_law 785 = .ok (.invokestatic 99, 3) := by decide +kernel
theorem dL_law_788 : decode cL_law 788 = .ok (.ifCond .ne 5, 3) := by decide +kernel
theorem dL_law_791 : decode cL_law 791 = .ok (.iconst 0, 1) := by decide +kernel
theorem dL_law_792 : decode cL_law 792 = .ok (.ireturn, 1) := by decide +kernel
theorem dL_law_793 : decode cL_law 793 = .ok (.iinc 5 1, 3) := by decide +kernel
theorem dL_law_796 : decode cL_law 796 = .ok (.goto (-770), 3) := by decide +kernel
theorem dL_law_799 : decode cL_law 799 = .ok (.iconst 1, 1) := by decide +kernel
theorem dL_law_800 : decode cL_law 800 = .ok (.ireturn, 1) := by decide +kernel
