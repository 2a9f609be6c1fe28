theorem dL_freeze_0 : decode cL_freeze 0 = .ok (.aload_n 0, 1) := by decide +kernel
theorem dL_freeze_1 : decode cL_freeze 1 = .ok (.iload_n 1, 1) := by decide +kernel
theorem dL_freeze_2 : decode cL_freeze 2 = .ok (.invokevirtual 7, 3) := by decide +kernel
theorem dL_freeze_5 : decode cL_freeze 5 = .ok (.iconst 1, 1) := by decide +kernel
theorem dL_freeze_6 : decode cL_freeze 6 = .ok (.ireturn, 1) := by decide +kernel
theorem dL_act_0 : decode cL_act 0 = .ok (.iload_n 1, 1) := by decide +kernel
theorem dL_act_1 : decode cL_act 1 = .ok (.ifCond .ne 12, 3) := by decide +kernel
theorem dL_act_4 : decode cL_act 4 = .ok (.aload_n 0, 1) := by decide +kernel
theorem dL_act_5 : decode cL_act 5 = .ok (.iload_n 2, 1) := by decide +kernel
theorem dL_act_6 : decode cL_act 6 = .ok (.iload_n 3, 1) := by decide +kernel
theorem dL_act_7 : decode cL_act 7 = .ok (.invokevirtual 13, 3) := by decide +kernel
theorem dL_act_10 : decode cL_act 10 = .ok (.goto 247, 3) := by decide +kernel
theorem dL_act_13 : decode cL_act 13 = .ok (.iload_n 1, 1) := by decide +kernel
theorem dL_act_14 : decode cL_act 14 = .ok (.iconst 1, 1) := by decide +kernel
theorem dL_act_15 : decode cL_act 15 = .ok (.if_icmp .ne 11, 3) := by decide +kernel
theorem dL_act_18 : decode cL_act 18 = .ok (.aload_n 0, 1) := by decide +kernel
theorem dL_act_19 : decode cL_act 19 = .ok (.iload_n 2, 1) := by decide +kernel
theorem dL_act_20 : decode cL_act 20 = .ok (.invokevirtual 17, 3) := by decide +kernel
theorem dL_act_23 : decode cL_act 23 = .ok (.goto 234, 3) := by decide +kernel
theorem dL_act_26 : decode cL_act 26 = .ok (.iload_n 1, 1) := by decide +kernel
theorem dL_act_27 : decode cL_act 27 = .ok (.iconst 2, 1) := by decide +kernel
theorem dL_act_28 : decode cL_act 28 = .ok (.if_icmp .ne 12, 3) := by decide +kernel
theorem dL_act_31 : decode cL_act 31 = .ok (.aload_n 0, 1) := by decide +kernel
theorem dL_act_32 : decode cL_act 32 = .ok (.iload_n 2, 1) := by decide +kernel
theorem dL_act_33 : decode cL_act 33 = .ok (.iload_n 3, 1) := by decide +kernel
theorem dL_act_34 : decode cL_act 34 = .ok (.invokevirtual 21, 3) := by decide +kernel
theorem dL_act_37 : decode cL_act 37 = .ok (.goto 220, 3) := by decide +kernel
theorem dL_act_40 : decode cL_act 40 = .ok (.iload_n 1, 1) := by decide +kernel
theorem dL_act_41 : decode cL_act 41 = .ok (.iconst 3, 1) := by decide +kernel
theorem dL_act_42 : decode cL_act 42 = .ok (.if_icmp .ne 12, 3) := by decide +kernel
theorem dL_act_45 : decode cL_act 45 = .ok (.aload_n 0, 1) := by decide +kernel
theorem dL_act_46 : decode cL_act 46 = .ok (.iload_n 2, 1) := by decide +kernel
theorem dL_act_47 : decode cL_act 47 = .ok (.iload_n 3, 1) := by decide +kernel
theorem dL_act_48 : decode cL_act 48 = .ok (.invokevirtual 24, 3) := by decide +kernel
theorem dL_act_51 : decode cL_act 51 = .ok (.goto 206, 3) := by decide +kernel
theorem dL_act_54 : decode cL_act 54 = .ok (.iload_n 1, 1) := by decide +kernel
theorem dL_act_55 : decode cL_act 55 = .ok (.iconst 4, 1) := by decide +kernel
theorem dL_act_56 : decode cL_act 56 = .ok (.if_icmp .ne 12, 3) := by decide +kernel
theorem dL_act_59 : decode cL_act 59 = .ok (.aload_n 0, 1) := by decide +kernel
theorem dL_act_60 : decode cL_act 60 = .ok (.iload_n 2, 1) := by decide +kernel
theorem dL_act_61 : decode cL_act 61 = .ok (.iload_n 3, 1) := by decide +kernel
theorem dL_act_62 : decode cL_act 62 = .ok (.invokevirtual 27, 3) := by decide +kernel
theorem dL_act_65 : decode cL_act 65 = .ok (.goto 192, 3) := by decide +kernel
theorem dL_act_68 : decode cL_act 68 = .ok (.iload_n 1, 1) := by decide +kernel
theorem dL_act_69 : decode cL_act 69 = .ok (.iconst 5, 1) := by decide +kernel
theorem dL_act_70 : decode cL_act 70 = .ok (.if_icmp .ne 14, 3) := by decide +kernel
theorem dL_act_73 : decode cL_act 73 = .ok (.aload_n 0, 1) := by decide +kernel
theorem dL_act_74 : decode cL_act 74 = .ok (.iload_n 2, 1) := by decide +kernel
theorem dL_act_75 : decode cL_act 75 = .ok (.iload_n 3, 1) := by decide +kernel
theorem dL_act_76 : decode cL_act 76 = .ok (.iload 4, 2) := by decide +kernel
theorem dL_act_78 : decode cL_act 78 = .ok (.invokevirtual 30, 3) := by decide +kernel
theorem dL_act_81 : decode cL_act 81 = .ok (.goto 176, 3) := by decide +kernel
theorem dL_act_84 : decode cL_act 84 = .ok (.iload_n 1, 1) := by decide +kernel
theorem dL_act_85 : decode cL_act 85 = .ok (.bipush 6, 2) := by decide +kernel
theorem dL_act_87 : decode cL_act 87 = .ok (.if_icmp .ne 12, 3) := by decide +kernel
theorem dL_act_90 : decode cL_act 90 = .ok (.aload_n 0, 1) := by decide +kernel
theorem dL_act_91 : decode cL_act 91 = .ok (.iload_n 2, 1) := by decide +kernel
theorem dL_act_92 : decode cL_act 92 = .ok (.iload_n 3, 1) := by decide +kernel
theorem dL_act_93 : decode cL_act 93 = .ok (.invokevirtual 34, 3) := by decide +kernel
theorem dL_act_96 : decode cL_act 96 = .ok (.goto 161, 3) := by decide +kernel
theorem dL_act_99 : decode cL_act 99 = .ok (.iload_n 1, 1) := by decide +kernel
theorem dL_act_100 : decode cL_act 100 = .ok (.bipush 7, 2) := by decide +kernel
theorem dL_act_102 : decode cL_act 102 = .ok (.if_icmp .ne 14, 3) := by decide +kernel
theorem dL_act_105 : decode cL_act 105 = .ok (.aload_n 0, 1) := by decide +kernel
theorem dL_act_106 : decode cL_act 106 = .ok (.iload_n 2, 1) := by decide +kernel
theorem dL_act_107 : decode cL_act 107 = .ok (.iload_n 3, 1) := by decide +kernel
theorem dL_act_108 : decode cL_act 108 = .ok (.iload 4, 2) := by decide +kernel
theorem dL_act_110 : decode cL_act 110 = .ok (.invokevirtual 37, 3) := by decide +kernel
theorem dL_act_113 : decode cL_act 113 = .ok (.goto 144, 3) := by decide +kernel
theorem dL_act_116 : decode cL_act 116 = .ok (.iload_n 1, 1) := by decide +kernel
theorem dL_act_117 : decode cL_act 117 = .ok (.bipush 8, 2) := by decide +kernel
theorem dL_act_119 : decode cL_act 119 = .ok (.if_icmp .ne 12, 3) := by decide +kernel
theorem dL_act_122 : decode cL_act 122 = .ok (.aload_n 0, 1) := by decide +kernel
theorem dL_act_123 : decode cL_act 123 = .ok (.iload_n 2, 1) := by decide +kernel
theorem dL_act_124 : decode cL_act 124 = .ok (.iload_n 3, 1) := by decide +kernel
theorem dL_act_125 : decode cL_act 125 = .ok (.invokevirtual 40, 3) := by decide +kernel
theorem dL_act_128 : decode cL_act 128 = .ok (.goto 129, 3) := by decide +kernel
theorem dL_act_131 : decode cL_act 131 = .ok (.iload_n 1, 1) := by decide +kernel
theorem dL_act_132 : decode cL_act 132 = .ok (.bipush 9, 2) := by decide +kernel
theorem dL_act_134 : decode cL_act 134 = .ok (.if_icmp .ne 11, 3) := by decide +kernel
theorem dL_act_137 : decode cL_act 137 = .ok (.aload_n 0, 1) := by decide +kernel
theorem dL_act_138 : decode cL_act 138 = .ok (.iload_n 2, 1) := by decide +kernel
theorem dL_act_139 : decode cL_act 139 = .ok (.invokevirtual 43, 3) := by decide +kernel
theorem dL_act_142 : decode cL_act 142 = .ok (.goto 115, 3) := by decide +kernel
theorem dL_act_145 : decode cL_act 145 = .ok (.iload_n 1, 1) := by decide +kernel
theorem dL_act_146 : decode cL_act 146 = .ok (.bipush 10, 2) := by decide +kernel
theorem dL_act_148 : decode cL_act 148 = .ok (.if_icmp .ne 11, 3) := by decide +kernel
theorem dL_act_151 : decode cL_act 151 = .ok (.aload_n 0, 1) := by decide +kernel
theorem dL_act_152 : decode cL_act 152 = .ok (.iload_n 2, 1) := by decide +kernel
theorem dL_act_153 : decode cL_act 153 = .ok (.invokevirtual 46, 3) := by decide +kernel
theorem dL_act_156 : decode cL_act 156 = .ok (.goto 101, 3) := by decide +kernel
theorem dL_act_159 : decode cL_act 159 = .ok (.iload_n 1, 1) := by decide +kernel
theorem dL_act_160 : decode cL_act 160 = .ok (.bipush 11, 2) := by decide +kernel
theorem dL_act_162 : decode cL_act 162 = .ok (.if_icmp .ne 12, 3) := by decide +kernel
theorem dL_act_165 : decode cL_act 165 = .ok (.aload_n 0, 1) := by decide +kernel
theorem dL_act_166 : decode cL_act 166 = .ok (.iload_n 2, 1) := by decide +kernel
theorem dL_act_167 : decode cL_act 167 = .ok (.iload_n 3, 1) := by decide +kernel
theorem dL_act_168 : decode cL_act 168 = .ok (.invokevirtual 49, 3) := by decide +kernel
theorem dL_act_171 : decode cL_act 171 = .ok (.goto 86, 3) := by decide +kernel
theorem dL_act_174 : decode cL_act 174 = .ok (.iload_n 1, 1) := by decide +kernel
theorem dL_act_175 : decode cL_act 175 = .ok (.bipush 12, 2) := by decide +kernel
theorem dL_act_177 : decode cL_act 177 = .ok (.if_icmp .ne 12, 3) := by decide +kernel
theorem dL_act_180 : decode cL_act 180 = .ok (.aload_n 0, 1) := by decide +kernel
theorem dL_act_181 : decode cL_act 181 = .ok (.iload_n 2, 1) := by decide +kernel
theorem dL_act_182 : decode cL_act 182 = .ok (.iload_n 3, 1) := by decide +kernel
theorem dL_act_183 : decode cL_act 183 = .ok (.invokevirtual 52, 3) := by decide +kernel
theorem dL_act_186 : decode cL_act 186 = .ok (.goto 71, 3) := by decide +kernel
theorem dL_act_189 : decode cL_act 189 = .ok (.iload_n 1, 1) := by decide +kernel
theorem dL_act_190 : decode cL_act 190 = .ok (.bipush 13, 2) := by decide +kernel
theorem dL_act_192 : decode cL_act 192 = .ok (.if_icmp .ne 11, 3) := by decide +kernel
theorem dL_act_195 : decode cL_act 195 = .ok (.aload_n 0, 1) := by decide +kernel
theorem dL_act_196 : decode cL_act 196 = .ok (.iload_n 2, 1) := by decide +kernel
theorem dL_act_197 : decode cL_act 197 = .ok (.invokestatic 55, 3) := by decide +kernel
theorem dL_act_200 : decode cL_act 200 = .ok (.goto 57, 3) := by decide +kernel
theorem dL_act_203 : decode cL_act 203 = .ok (.iload_n 1, 1) := by decide +kernel
theorem dL_act_204 : decode cL_act 204 = .ok (.bipush 14, 2) := by decide +kernel
theorem dL_act_206 : decode cL_act 206 = .ok (.if_icmp .ne 23, 3) := by decide +kernel
theorem dL_act_209 : decode cL_act 209 = .ok (.aload_n 0, 1) := by decide +kernel
theorem dL_act_210 : decode cL_act 210 = .ok (.iload_n 2, 1) := by decide +kernel
theorem dL_act_211 : decode cL_act 211 = .ok (.iload_n 3, 1) := by decide +kernel
theorem dL_act_212 : decode cL_act 212 = .ok (.iconst 1, 1) := by decide +kernel
theorem dL_act_213 : decode cL_act 213 = .ok (.if_icmp .ne 7, 3) := by decide +kernel
theorem dL_act_216 : decode cL_act 216 = .ok (.iconst 1, 1) := by decide +kernel
theorem dL_act_217 : decode cL_act 217 = .ok (.goto 4, 3) := by decide +kernel
theorem dL_act_220 : decode cL_act 220 = .ok (.iconst 0, 1) := by decide +kernel
theorem dL_act_221 : decode cL_act 221 = .ok (.iload 4, 2) := by decide +kernel
theorem dL_act_223 : decode cL_act 223 = .ok (.invokevirtual 60, 3) := by decide +kernel
theorem dL_act_226 : decode cL_act 226 = .ok (.goto 31, 3) := by decide +kernel
theorem dL_act_229 : decode cL_act 229 = .ok (.iload_n 1, 1) := by decide +kernel
theorem dL_act_230 : decode cL_act 230 = .ok (.bipush 15, 2) := by decide +kernel
theorem dL_act_232 : decode cL_act 232 = .ok (.if_icmp .ne 11, 3) := by decide +kernel
theorem dL_act_235 : decode cL_act 235 = .ok (.aload_n 0, 1) := by decide +kernel
theorem dL_act_236 : decode cL_act 236 = .ok (.iload_n 2, 1) := by decide +kernel
theorem dL_act_237 : decode cL_act 237 = .ok (.invokevirtual 64, 3) := by decide +kernel
theorem dL_act_240 : decode cL_act 240 = .ok (.goto 17, 3) := by decide +kernel
theorem dL_act_243 : decode cL_act 243 = .ok (.aload_n 0, 1) := by decide +kernel
theorem dL_act_244 : decode cL_act 244 = .ok (.iload_n 2, 1) := by decide +kernel
theorem dL_act_245 : decode cL_act 245 = .ok (.iload_n 3, 1) := by decide +kernel
theorem dL_act_246 : decode cL_act 246 = .ok (.invokevirtual 67, 3) := by decide +kernel
theorem dL_act_249 : decode cL_act 249 = .ok (.ifCond .eq 7, 3) := by decide +kernel
theorem dL_act_252 : decode cL_act 252 = .ok (.iconst 1, 1) := by decide +kernel
theorem dL_act_253 : decode cL_act 253 = .ok (.goto 4, 3) := by decide +kernel
theorem dL_act_256 : decode cL_act 256 = .ok (.iconst 0, 1) := by decide +kernel
theorem dL_act_257 : decode cL_act 257 = .ok (.ireturn, 1) := by decide +kernel
theorem dL_act_258 : decode cL_act 258 = .ok (.astore 5, 2) := by decide +kernel
theorem dL_act_260 : decode cL_act 260 = .ok (.ldc 73, 2) := by decide +kernel
theorem dL_act_262 : decode cL_act 262 = .ok (.ireturn, 1) := by decide +kernel
theorem dL_act_263 : decode cL_act 263 = .ok (.astore 5, 2) := by decide +kernel
theorem dL_act_265 : decode cL_act 265 = .ok (.ldc 76, 2) := by decide +kernel
theorem dL_act_267 : decode cL_act 267 = .ok (.ireturn, 1) := by decide +kernel
theorem dL_act_268 : decode cL_act 268 = .ok (.astore 5, 2) := by decide +kernel
theorem dL_act_270 : decode cL_act 270 = .ok (.ldc 79, 2) := by decide +kernel
theorem dL_act_272 : decode cL_act 272 = .ok (.ireturn, 1) := by decide +kernel
theorem dL_refuses_0 : decode cL_refuses 0 = .ok (.ldc 80, 2) := by decide +kernel
theorem dL_refuses_2 : decode cL_refuses 2 = .ok (.istore_n 3, 1) := by decide +kernel
theorem dL_refuses_3 : decode cL_refuses 3 = .ok (.aload_n 0, 1) := by decide +kernel
theorem dL_refuses_4 : decode cL_refuses 4 = .ok (.iconst 3, 1) := by decide +kernel
theorem dL_refuses_5 : decode cL_refuses 5 = .ok (.iconst 1, 1) := by decide +kernel
theorem dL_refuses_6 : decode cL_refuses 6 = .ok (.iconst 0, 1) := by decide +kernel
theorem dL_refuses_7 : decode cL_refuses 7 = .ok (.invokevirtual 60, 3) := by decide +kernel
theorem dL_refuses_10 : decode cL_refuses 10 = .ok (.istore 4, 2) := by decide +kernel
theorem dL_refuses_12 : decode cL_refuses 12 = .ok (.aload_n 0, 1) := by decide +kernel
theorem dL_refuses_13 : decode cL_refuses 13 = .ok (.sipush 500, 3) := by decide +kernel
theorem dL_refuses_16 : decode cL_refuses 16 = .ok (.iconst 1, 1) := by decide +kernel
theorem dL_refuses_17 : decode cL_refuses 17 = .ok (.invokevirtual 21, 3) := by decide +kernel
theorem dL_refuses_20 : decode cL_refuses 20 = .ok (.istore 5, 2) := by decide +kernel
theorem dL_refuses_22 : decode cL_refuses 22 = .ok (.iconst 0, 1) := by decide +kernel
theorem dL_refuses_23 : decode cL_refuses 23 = .ok (.istore 6, 2) := by decide +kernel
theorem dL_refuses_25 : decode cL_refuses 25 = .ok (.iload 6, 2) := by decide +kernel
theorem dL_refuses_27 : decode cL_refuses 27 = .ok (.iconst 4, 1) := by decide +kernel
theorem dL_refuses_28 : decode cL_refuses 28 = .ok (.if_icmp .ge 813, 3) := by decide +kernel
theorem dL_refuses_31 : decode cL_refuses 31 = .ok (.iload 6, 2) := by decide +kernel
theorem dL_refuses_33 : decode cL_refuses 33 = .ok (.ifCond .ne 7, 3) := by decide +kernel
theorem dL_refuses_36 : decode cL_refuses 36 = .ok (.iconst (-1), 1) := by decide +kernel
theorem dL_refuses_37 : decode cL_refuses 37 = .ok (.goto 17, 3) := by decide +kernel
theorem dL_refuses_40 : decode cL_refuses 40 = .ok (.iload 6, 2) := by decide +kernel
theorem dL_refuses_42 : decode cL_refuses 42 = .ok (.iconst 2, 1) := by decide +kernel
theorem dL_refuses_43 : decode cL_refuses 43 = .ok (.if_icmp .ne 7, 3) := by decide +kernel
theorem dL_refuses_46 : decode cL_refuses 46 = .ok (.iload_n 3, 1) := by decide +kernel
theorem dL_refuses_47 : decode cL_refuses 47 = .ok (.goto 7, 3) := by decide +kernel
theorem dL_refuses_50 : decode cL_refuses 50 = .ok (.iload_n 3, 1) := by decide +kernel
theorem dL_refuses_51 : decode cL_refuses 51 = .ok (.ineg, 1) := by decide +kernel
theorem dL_refuses_52 : decode cL_refuses 52 = .ok (.iconst 1, 1) := by decide +kernel
theorem dL_refuses_53 : decode cL_refuses 53 = .ok (.isub, 1) := by decide +kernel
theorem dL_refuses_54 : decode cL_refuses 54 = .ok (.istore 7, 2) := by decide +kernel
theorem dL_refuses_56 : decode cL_refuses 56 = .ok (.iload 6, 2) := by decide +kernel
theorem dL_refuses_58 : decode cL_refuses 58 = .ok (.iconst 1, 1) := by decide +kernel
theorem dL_refuses_59 : decode cL_refuses 59 = .ok (.if_icmp .ne 7, 3) := by decide +kernel
theorem dL_refuses_62 : decode cL_refuses 62 = .ok (.iload_n 1, 1) := by decide +kernel
theorem dL_refuses_63 : decode cL_refuses 63 = .ok (.goto 5, 3) := by decide +kernel
theorem dL_refuses_66 : decode cL_refuses 66 = .ok (.iload 7, 2) := by decide +kernel
theorem dL_refuses_68 : decode cL_refuses 68 = .ok (.istore 8, 2) := by decide +kernel
theorem dL_refuses_70 : decode cL_refuses 70 = .ok (.iload 6, 2) := by decide +kernel
theorem dL_refuses_72 : decode cL_refuses 72 = .ok (.iconst 1, 1) := by decide +kernel
theorem dL_refuses_73 : decode cL_refuses 73 = .ok (.if_icmp .ne 7, 3) := by decide +kernel
theorem dL_refuses_76 : decode cL_refuses 76 = .ok (.iload_n 2, 1) := by decide +kernel
theorem dL_refuses_77 : decode cL_refuses 77 = .ok (.goto 5, 3) := by decide +kernel
theorem dL_refuses_80 : decode cL_refuses 80 = .ok (.iload 7, 2) := by decide +kernel
theorem dL_refuses_82 : decode cL_refuses 82 = .ok (.istore 9, 2) := by decide +kernel
theorem dL_refuses_84 : decode cL_refuses 84 = .ok (.iload 6, 2) := by decide +kernel
theorem dL_refuses_86 : decode cL_refuses 86 = .ok (.iconst 1, 1) := by decide +kernel
theorem dL_refuses_87 : decode cL_refuses 87 = .ok (.if_icmp .ne 8, 3) := by decide +kernel
theorem dL_refuses_90 : decode cL_refuses 90 = .ok (.bipush 8, 2) := by decide +kernel
theorem dL_refuses_92 : decode cL_refuses 92 = .ok (.goto 5, 3) := by decide +kernel
theorem dL_refuses_95 : decode cL_refuses 95 = .ok (.iload 7, 2) := by decide +kernel
theorem dL_refuses_97 : decode cL_refuses 97 = .ok (.istore 10, 2) := by decide +kernel
theorem dL_refuses_99 : decode cL_refuses 99 = .ok (.iload 6, 2) := by decide +kernel
theorem dL_refuses_101 : decode cL_refuses 101 = .ok (.iconst 1, 1) := by decide +kernel
theorem dL_refuses_102 : decode cL_refuses 102 = .ok (.if_icmp .ne 7, 3) := by decide +kernel
theorem dL_refuses_105 : decode cL_refuses 105 = .ok (.iconst 4, 1) := by decide +kernel
theorem dL_refuses_106 : decode cL_refuses 106 = .ok (.goto 5, 3) := by decide +kernel
theorem dL_refuses_109 : decode cL_refuses 109 = .ok (.iload 7, 2) := by decide +kernel
theorem dL_refuses_111 : decode cL_refuses 111 = .ok (.istore 11, 2) := by decide +kernel
theorem dL_refuses_113 : decode cL_refuses 113 = .ok (.iload 6, 2) := by decide +kernel
theorem dL_refuses_115 : decode cL_refuses 115 = .ok (.ifCond .ne 7, 3) := by decide +kernel
theorem dL_refuses_118 : decode cL_refuses 118 = .ok (.iconst 0, 1) := by decide +kernel
theorem dL_refuses_119 : decode cL_refuses 119 = .ok (.goto 17, 3) := by decide +kernel
theorem dL_refuses_122 : decode cL_refuses 122 = .ok (.iload 6, 2) := by decide +kernel
theorem dL_refuses_124 : decode cL_refuses 124 = .ok (.iconst 1, 1) := by decide +kernel
theorem dL_refuses_125 : decode cL_refuses 125 = .ok (.if_icmp .ne 9, 3) := by decide +kernel
theorem dL_refuses_128 : decode cL_refuses 128 = .ok (.sipush 501, 3) := by decide +kernel
theorem dL_refuses_131 : decode cL_refuses 131 = .ok (.goto 5, 3) := by decide +kernel
theorem dL_refuses_134 : decode cL_refuses 134 = .ok (.iload 7, 2) := by decide +kernel
theorem dL_refuses_136 : decode cL_refuses 136 = .ok (.istore 12, 2) := by decide +kernel
theorem dL_refuses_138 : decode cL_refuses 138 = .ok (.aload_n 0, 1) := by decide +kernel
theorem dL_refuses_139 : decode cL_refuses 139 = .ok (.iconst 0, 1) := by decide +kernel
theorem dL_refuses_140 : decode cL_refuses 140 = .ok (.iload 6, 2) := by decide +kernel
theorem dL_refuses_142 : decode cL_refuses 142 = .ok (.iconst 1, 1) := by decide +kernel
theorem dL_refuses_143 : decode cL_refuses 143 = .ok (.if_icmp .ne 8, 3) := by decide +kernel
theorem dL_refuses_146 : decode cL_refuses 146 = .ok (.bipush 10, 2) := by decide +kernel
theorem dL_refuses_148 : decode cL_refuses 148 = .ok (.goto 5, 3) := by decide +kernel
theorem dL_refuses_151 : decode cL_refuses 151 = .ok (.iload 7, 2) := by decide +kernel
theorem dL_refuses_153 : decode cL_refuses 153 = .ok (.iconst 0, 1) := by decide +kernel
theorem dL_refuses_154 : decode cL_refuses 154 = .ok (.iconst 0, 1) := by decide +kernel
theorem dL_refuses_155 : decode cL_refuses 155 = .ok (.invokestatic 81, 3) := by decide +kernel
theorem dL_refuses_158 : decode cL_refuses 158 = .ok (.ldc 76, 2) := by decide +kernel
theorem dL_refuses_160 : decode cL_refuses 160 = .ok (.if_icmp .ne 373, 3) := by decide +kernel
theorem dL_refuses_163 : decode cL_refuses 163 = .ok (.aload_n 0, 1) := by decide +kernel
theorem dL_refuses_164 : decode cL_refuses 164 = .ok (.iconst 0, 1) := by decide +kernel
theorem dL_refuses_165 : decode cL_refuses 165 = .ok (.iconst 0, 1) := by decide +kernel
theorem dL_refuses_166 : decode cL_refuses 166 = .ok (.iload 6, 2) := by decide +kernel
theorem dL_refuses_168 : decode cL_refuses 168 = .ok (.ifCond .ne 8, 3) := by decide +kernel
theorem dL_refuses_171 : decode cL_refuses 171 = .ok (.bipush (-100), 2) := by decide +kernel
theorem dL_refuses_173 : decode cL_refuses 173 = .ok (.goto 16, 3) := by decide +kernel
theorem dL_refuses_176 : decode cL_refuses 176 = .ok (.iload 6, 2) := by decide +kernel
theorem dL_refuses_178 : decode cL_refuses 178 = .ok (.iconst 1, 1) := by decide +kernel
theorem dL_refuses_179 : decode cL_refuses 179 = .ok (.if_icmp .ne 8, 3) := by decide +kernel
theorem dL_refuses_182 : decode cL_refuses 182 = .ok (.bipush 100, 2) := by decide +kernel
theorem dL_refuses_184 : decode cL_refuses 184 = .ok (.goto 5, 3) := by decide +kernel
theorem dL_refuses_187 : decode cL_refuses 187 = .ok (.iload 7, 2) := by decide +kernel
theorem dL_refuses_189 : decode cL_refuses 189 = .ok (.iconst 0, 1) := by decide +kernel
theorem dL_refuses_190 : decode cL_refuses 190 = .ok (.invokestatic 81, 3) := by decide +kernel
theorem dL_refuses_193 : decode cL_refuses 193 = .ok (.ldc 76, 2) := by decide +kernel
theorem dL_refuses_195 : decode cL_refuses 195 = .ok (.if_icmp .ne 338, 3) := by decide +kernel
theorem dL_refuses_198 : decode cL_refuses 198 = .ok (.aload_n 0, 1) := by decide +kernel
theorem dL_refuses_199 : decode cL_refuses 199 = .ok (.iconst 1, 1) := by decide +kernel
theorem dL_refuses_200 : decode cL_refuses 200 = .ok (.iload 6, 2) := by decide +kernel
theorem dL_refuses_202 : decode cL_refuses 202 = .ok (.ifCond .ne 8, 3) := by decide +kernel
theorem dL_refuses_205 : decode cL_refuses 205 = .ok (.bipush (-10), 2) := by decide +kernel
theorem dL_refuses_207 : decode cL_refuses 207 = .ok (.goto 16, 3) := by decide +kernel
theorem dL_refuses_210 : decode cL_refuses 210 = .ok (.iload 6, 2) := by decide +kernel
theorem dL_refuses_212 : decode cL_refuses 212 = .ok (.iconst 1, 1) := by decide +kernel
theorem dL_refuses_213 : decode cL_refuses 213 = .ok (.if_icmp .ne 8, 3) := by decide +kernel
theorem dL_refuses_216 : decode cL_refuses 216 = .ok (.bipush 10, 2) := by decide +kernel
theorem dL_refuses_218 : decode cL_refuses 218 = .ok (.goto 5, 3) := by decide +kernel
theorem dL_refuses_221 : decode cL_refuses 221 = .ok (.iload 7, 2) := by decide +kernel
theorem dL_refuses_223 : decode cL_refuses 223 = .ok (.iconst 0, 1) := by decide +kernel
theorem dL_refuses_224 : decode cL_refuses 224 = .ok (.iconst 0, 1) := by decide +kernel
theorem dL_refuses_225 : decode cL_refuses 225 = .ok (.invokestatic 81, 3) := by decide +kernel
theorem dL_refuses_228 : decode cL_refuses 228 = .ok (.ldc 76, 2) := by decide +kernel
theorem dL_refuses_230 : decode cL_refuses 230 = .ok (.if_icmp .ne 303, 3) := by decide +kernel
theorem dL_refuses_233 : decode cL_refuses 233 = .ok (.aload_n 0, 1) := by decide +kernel
theorem dL_refuses_234 : decode cL_refuses 234 = .ok (.iconst 2, 1) := by decide +kernel
theorem dL_refuses_235 : decode cL_refuses 235 = .ok (.iload 12, 2) := by decide +kernel
theorem dL_refuses_237 : decode cL_refuses 237 = .ok (.iconst 0, 1) := by decide +kernel
theorem dL_refuses_238 : decode cL_refuses 238 = .ok (.iconst 0, 1) := by decide +kernel
theorem dL_refuses_239 : decode cL_refuses 239 = .ok (.invokestatic 81, 3) := by decide +kernel
theorem dL_refuses_242 : decode cL_refuses 242 = .ok (.ldc 76, 2) := by decide +kernel
theorem dL_refuses_244 : decode cL_refuses 244 = .ok (.if_icmp .ne 289, 3) := by decide +kernel
theorem dL_refuses_247 : decode cL_refuses 247 = .ok (.aload_n 0, 1) := by decide +kernel
theorem dL_refuses_248 : decode cL_refuses 248 = .ok (.iconst 2, 1) := by decide +kernel
theorem dL_refuses_249 : decode cL_refuses 249 = .ok (.iconst 1, 1) := by decide +kernel
theorem dL_refuses_250 : decode cL_refuses 250 = .ok (.iload 6, 2) := by decide +kernel
theorem dL_refuses_252 : decode cL_refuses 252 = .ok (.iconst 1, 1) := by decide +kernel
theorem dL_refuses_253 : decode cL_refuses 253 = .ok (.if_icmp .ne 8, 3) := by decide +kernel
theorem dL_refuses_256 : decode cL_refuses 256 = .ok (.bipush 11, 2) := by decide +kernel
theorem dL_refuses_258 : decode cL_refuses 258 = .ok (.goto 5, 3) := by decide +kernel
theorem dL_refuses_261 : decode cL_refuses 261 = .ok (.iload 7, 2) := by decide +kernel
theorem dL_refuses_263 : decode cL_refuses 263 = .ok (.iconst 0, 1) := by decide +kernel
theorem dL_refuses_264 : decode cL_refuses 264 = .ok (.invokestatic 81, 3) := by decide +kernel
theorem dL_refuses_267 : decode cL_refuses 267 = .ok (.ldc 76, 2) := by decide +kernel
theorem dL_refuses_269 : decode cL_refuses 269 = .ok (.if_icmp .ne 264, 3) := by decide +kernel
theorem dL_refuses_272 : decode cL_refuses 272 = .ok (.aload_n 0, 1) := by decide +kernel
theorem dL_refuses_273 : decode cL_refuses 273 = .ok (.iconst 3, 1) := by decide +kernel
theorem dL_refuses_274 : decode cL_refuses 274 = .ok (.iload 12, 2) := by decide +kernel
theorem dL_refuses_276 : decode cL_refuses 276 = .ok (.iconst 0, 1) := by decide +kernel
theorem dL_refuses_277 : decode cL_refuses 277 = .ok (.iconst 0, 1) := by decide +kernel
theorem dL_refuses_278 : decode cL_refuses 278 = .ok (.invokestatic 81, 3) := by decide +kernel
theorem dL_refuses_281 : decode cL_refuses 281 = .ok (.ldc 76, 2) := by decide +kernel
theorem dL_refuses_283 : decode cL_refuses 283 = .ok (.if_icmp .ne 250, 3) := by decide +kernel
theorem dL_refuses_286 : decode cL_refuses 286 = .ok (.aload_n 0, 1) := by decide +kernel
theorem dL_refuses_287 : decode cL_refuses 287 = .ok (.iconst 3, 1) := by decide +kernel
theorem dL_refuses_288 : decode cL_refuses 288 = .ok (.iconst 1, 1) := by decide +kernel
theorem dL_refuses_289 : decode cL_refuses 289 = .ok (.iload 6, 2) := by decide +kernel
theorem dL_refuses_291 : decode cL_refuses 291 = .ok (.iconst 1, 1) := by decide +kernel
theorem dL_refuses_292 : decode cL_refuses 292 = .ok (.if_icmp .ne 7, 3) := by decide +kernel
theorem dL_refuses_295 : decode cL_refuses 295 = .ok (.iconst 2, 1) := by decide +kernel
theorem dL_refuses_296 : decode cL_refuses 296 = .ok (.goto 5, 3) := by decide +kernel
theorem dL_refuses_299 : decode cL_refuses 299 = .ok (.iload 7, 2) := by decide +kernel
theorem dL_refuses_301 : decode cL_refuses 301 = .ok (.iconst 0, 1) := by decide +kernel
theorem dL_refuses_302 : decode cL_refuses 302 = .ok (.invokestatic 81, 3) := by decide +kernel
theorem dL_refuses_305 : decode cL_refuses 305 = .ok (.ldc 76, 2) := by decide +kernel
theorem dL_refuses_307 : decode cL_refuses 307 = .ok (.if_icmp .ne 226, 3) := by decide +kernel
theorem dL_refuses_310 : decode cL_refuses 310 = .ok (.aload_n 0, 1) := by decide +kernel
theorem dL_refuses_311 : decode cL_refuses 311 = .ok (.iconst 4, 1) := by decide +kernel
theorem dL_refuses_312 : decode cL_refuses 312 = .ok (.iload 8, 2) := by decide +kernel
theorem dL_refuses_314 : decode cL_refuses 314 = .ok (.iconst 0, 1) := by decide +kernel
theorem dL_refuses_315 : decode cL_refuses 315 = .ok (.iconst 0, 1) := by decide +kernel
theorem dL_refuses_316 : decode cL_refuses 316 = .ok (.invokestatic 81, 3) := by decide +kernel
theorem dL_refuses_319 : decode cL_refuses 319 = .ok (.ldc 73, 2) := by decide +kernel
theorem dL_refuses_321 : decode cL_refuses 321 = .ok (.if_icmp .ne 212, 3) := by decide +kernel
theorem dL_refuses_324 : decode cL_refuses 324 = .ok (.aload_n 0, 1) := by decide +kernel
theorem dL_refuses_325 : decode cL_refuses 325 = .ok (.iconst 4, 1) := by decide +kernel
theorem dL_refuses_326 : decode cL_refuses 326 = .ok (.iconst 0, 1) := by decide +kernel
theorem dL_refuses_327 : decode cL_refuses 327 = .ok (.iload 11, 2) := by decide +kernel
theorem dL_refuses_329 : decode cL_refuses 329 = .ok (.iconst 0, 1) := by decide +kernel
theorem dL_refuses_330 : decode cL_refuses 330 = .ok (.invokestatic 81, 3) := by decide +kernel
theorem dL_refuses_333 : decode cL_refuses 333 = .ok (.ldc 73, 2) := by decide +kernel
theorem dL_refuses_335 : decode cL_refuses 335 = .ok (.if_icmp .ne 198, 3) := by decide +kernel
theorem dL_refuses_338 : decode cL_refuses 338 = .ok (.aload_n 0, 1) := by decide +kernel
theorem dL_refuses_339 : decode cL_refuses 339 = .ok (.iconst 5, 1) := by decide +kernel
theorem dL_refuses_340 : decode cL_refuses 340 = .ok (.iload 8, 2) := by decide +kernel
theorem dL_refuses_342 : decode cL_refuses 342 = .ok (.iconst 0, 1) := by decide +kernel
theorem dL_refuses_343 : decode cL_refuses 343 = .ok (.sipush 999, 3) := by decide +kernel
theorem dL_refuses_346 : decode cL_refuses 346 = .ok (.invokestatic 81, 3) := by decide +kernel
theorem dL_refuses_349 : decode cL_refuses 349 = .ok (.ldc 73, 2) := by decide +kernel
theorem dL_refuses_351 : decode cL_refuses 351 = .ok (.if_icmp .ne 182, 3) := by decide +kernel
theorem dL_refuses_354 : decode cL_refuses 354 = .ok (.aload_n 0, 1) := by decide +kernel
theorem dL_refuses_355 : decode cL_refuses 355 = .ok (.iconst 5, 1) := by decide +kernel
theorem dL_refuses_356 : decode cL_refuses 356 = .ok (.iconst 0, 1) := by decide +kernel
theorem dL_refuses_357 : decode cL_refuses 357 = .ok (.iload 11, 2) := by decide +kernel
theorem dL_refuses_359 : decode cL_refuses 359 = .ok (.sipush 999, 3) := by decide +kernel
theorem dL_refuses_362 : decode cL_refuses 362 = .ok (.invokestatic 81, 3) := by decide +kernel
theorem dL_refuses_365 : decode cL_refuses 365 = .ok (.ldc 73, 2) := by decide +kernel
theorem dL_refuses_367 : decode cL_refuses 367 = .ok (.if_icmp .ne 166, 3) := by decide +kernel
theorem dL_refuses_370 : decode cL_refuses 370 = .ok (.aload_n 0, 1) := by decide +kernel
theorem dL_refuses_371 : decode cL_refuses 371 = .ok (.bipush 6, 2) := by decide +kernel
theorem dL_refuses_373 : decode cL_refuses 373 = .ok (.iload 8, 2) := by decide +kernel
theorem dL_refuses_375 : decode cL_refuses 375 = .ok (.bipush 9, 2) := by decide +kernel
theorem dL_refuses_377 : decode cL_refuses 377 = .ok (.iconst 0, 1) := by decide +kernel
theorem dL_refuses_378 : decode cL_refuses 378 = .ok (.invokestatic 81, 3) := by decide +kernel
theorem dL_refuses_381 : decode cL_refuses 381 = .ok (.ldc 73, 2) := by decide +kernel
theorem dL_refuses_383 : decode cL_refuses 383 = .ok (.if_icmp .ne 150, 3) := by decide +kernel
theorem dL_refuses_386 : decode cL_refuses 386 = .ok (.aload_n 0, 1) := by decide +kernel
theorem dL_refuses_387 : decode cL_refuses 387 = .ok (.bipush 7, 2) := by decide +kernel
theorem dL_refuses_389 : decode cL_refuses 389 = .ok (.iload 8, 2) := by decide +kernel
theorem dL_refuses_391 : decode cL_refuses 391 = .ok (.iconst 0, 1) := by decide +kernel
theorem dL_refuses_392 : decode cL_refuses 392 = .ok (.iconst 0, 1) := by decide +kernel
theorem dL_refuses_393 : decode cL_refuses 393 = .ok (.invokestatic 81, 3) := by decide +kernel
theorem dL_refuses_396 : decode cL_refuses 396 = .ok (.ldc 73, 2) := by decide +kernel
theorem dL_refuses_398 : decode cL_refuses 398 = .ok (.if_icmp .ne 135, 3) := by decide +kernel
theorem dL_refuses_401 : decode cL_refuses 401 = .ok (.aload_n 0, 1) := by decide +kernel
theorem dL_refuses_402 : decode cL_refuses 402 = .ok (.bipush 7, 2) := by decide +kernel
theorem dL_refuses_404 : decode cL_refuses 404 = .ok (.iconst 0, 1) := by decide +kernel
theorem dL_refuses_405 : decode cL_refuses 405 = .ok (.iload 6, 2) := by decide +kernel
theorem dL_refuses_407 : decode cL_refuses 407 = .ok (.iconst 1, 1) := by decide +kernel
theorem dL_refuses_408 : decode cL_refuses 408 = .ok (.if_icmp .ne 8, 3) := by decide +kernel
theorem dL_refuses_411 : decode cL_refuses 411 = .ok (.bipush 12, 2) := by decide +kernel
theorem dL_refuses_413 : decode cL_refuses 413 = .ok (.goto 5, 3) := by decide +kernel
theorem dL_refuses_416 : decode cL_refuses 416 = .ok (.iload 7, 2) := by decide +kernel
theorem dL_refuses_418 : decode cL_refuses 418 = .ok (.iconst 0, 1) := by decide +kernel
theorem dL_refuses_419 : decode cL_refuses 419 = .ok (.invokestatic 81, 3) := by decide +kernel
theorem dL_refuses_422 : decode cL_refuses 422 = .ok (.ldc 73, 2) := by decide +kernel
theorem dL_refuses_424 : decode cL_refuses 424 = .ok (.if_icmp .ne 109, 3) := by decide +kernel
theorem dL_refuses_427 : decode cL_refuses 427 = .ok (.aload_n 0, 1) := by decide +kernel
theorem dL_refuses_428 : decode cL_refuses 428 = .ok (.bipush 7, 2) := by decide +kernel
theorem dL_refuses_430 : decode cL_refuses 430 = .ok (.iconst 0, 1) := by decide +kernel
theorem dL_refuses_431 : decode cL_refuses 431 = .ok (.iconst 0, 1) := by decide +kernel
theorem dL_refuses_432 : decode cL_refuses 432 = .ok (.iload 6, 2) := by decide +kernel
theorem dL_refuses_434 : decode cL_refuses 434 = .ok (.iconst 1, 1) := by decide +kernel
theorem dL_refuses_435 : decode cL_refuses 435 = .ok (.if_icmp .ne 8, 3) := by decide +kernel
theorem dL_refuses_438 : decode cL_refuses 438 = .ok (.bipush (-2), 2) := by decide +kernel
theorem dL_refuses_440 : decode cL_refuses 440 = .ok (.goto 15, 3) := by decide +kernel
theorem dL_refuses_443 : decode cL_refuses 443 = .ok (.iload 6, 2) := by decide +kernel
theorem dL_refuses_445 : decode cL_refuses 445 = .ok (.iconst 2, 1) := by decide +kernel
theorem dL_refuses_446 : decode cL_refuses 446 = .ok (.if_icmp .ne 7, 3) := by decide +kernel
theorem dL_refuses_449 : decode cL_refuses 449 = .ok (.iconst (-1), 1) := by decide +kernel
theorem dL_refuses_450 : decode cL_refuses 450 = .ok (.goto 5, 3) := by decide +kernel
theorem dL_refuses_453 : decode cL_refuses 453 = .ok (.iload 7, 2) := by decide +kernel
theorem dL_refuses_455 : decode cL_refuses 455 = .ok (.invokestatic 81, 3) := by decide +kernel
theorem dL_refuses_458 : decode cL_refuses 458 = .ok (.ldc 73, 2) := by decide +kernel
theorem dL_refuses_460 : decode cL_refuses 460 = .ok (.if_icmp .ne 73, 3) := by decide +kernel
theorem dL_refuses_463 : decode cL_refuses 463 = .ok (.aload_n 0, 1) := by decide +kernel
theorem dL_refuses_464 : decode cL_refuses 464 = .ok (.bipush 8, 2) := by decide +kernel
theorem dL_refuses_466 : decode cL_refuses 466 = .ok (.iload 10, 2) := by decide +kernel
theorem dL_refuses_468 : decode cL_refuses 468 = .ok (.iconst 0, 1) := by decide +kernel
theorem dL_refuses_469 : decode cL_refuses 469 = .ok (.iconst 0, 1) := by decide +kernel
theorem dL_refuses_470 : decode cL_refuses 470 = .ok (.invokestatic 81, 3) := by decide +kernel
theorem dL_refuses_473 : decode cL_refuses 473 = .ok (.ldc 73, 2) := by decide +kernel
theorem dL_refuses_475 : decode cL_refuses 475 = .ok (.if_icmp .ne 58, 3) := by decide +kernel
theorem dL_refuses_478 : decode cL_refuses 478 = .ok (.aload_n 0, 1) := by decide +kernel
theorem dL_refuses_479 : decode cL_refuses 479 = .ok (.bipush 8, 2) := by decide +kernel
theorem dL_refuses_481 : decode cL_refuses 481 = .ok (.iconst 0, 1) := by decide +kernel
theorem dL_refuses_482 : decode cL_refuses 482 = .ok (.iload 8, 2) := by decide +kernel
theorem dL_refuses_484 : decode cL_refuses 484 = .ok (.iconst 0, 1) := by decide +kernel
theorem dL_refuses_485 : decode cL_refuses 485 = .ok (.invokestatic 81, 3) := by decide +kernel
theorem dL_refuses_488 : decode cL_refuses 488 = .ok (.ldc 73, 2) := by decide +kernel
theorem dL_refuses_490 : decode cL_refuses 490 = .ok (.if_icmp .ne 43, 3) := by decide +kernel
theorem dL_refuses_493 : decode cL_refuses 493 = .ok (.aload_n 0, 1) := by decide +kernel
theorem dL_refuses_494 : decode cL_refuses 494 = .ok (.bipush 9, 2) := by decide +kernel
theorem dL_refuses_496 : decode cL_refuses 496 = .ok (.iload 6, 2) := by decide +kernel
theorem dL_refuses_498 : decode cL_refuses 498 = .ok (.ifCond .ne 7, 3) := by decide +kernel
theorem dL_refuses_501 : decode cL_refuses 501 = .ok (.iconst 0, 1) := by decide +kernel
theorem dL_refuses_502 : decode cL_refuses 502 = .ok (.goto 17, 3) := by decide +kernel
theorem dL_refuses_505 : decode cL_refuses 505 = .ok (.iload 6, 2) := by decide +kernel
theorem dL_refuses_507 : decode cL_refuses 507 = .ok (.iconst 1, 1) := by decide +kernel
theorem dL_refuses_508 : decode cL_refuses 508 = .ok (.if_icmp .ne 9, 3) := by decide +kernel
theorem dL_refuses_511 : decode cL_refuses 511 = .ok (.sipush 301, 3) := by decide +kernel
theorem dL_refuses_514 : decode cL_refuses 514 = .ok (.goto 5, 3) := by decide +kernel
theorem dL_refuses_517 : decode cL_refuses 517 = .ok (.iload 7, 2) := by decide +kernel
theorem dL_refuses_519 : decode cL_refuses 519 = .ok (.iconst 0, 1) := by decide +kernel
theorem dL_refuses_520 : decode cL_refuses 520 = .ok (.iconst 0, 1) := by decide +kernel
theorem dL_refuses_521 : decode cL_refuses 521 = .ok (.invokestatic 81, 3) := by decide +kernel
theorem dL_refuses_524 : decode cL_refuses 524 = .ok (.ldc 76, 2) := by decide +kernel
theorem dL_refuses_526 : decode cL_refuses 526 = .ok (.if_icmp .ne 7, 3) := by decide +kernel
theorem dL_refuses_529 : decode cL_refuses 529 = .ok (.iconst 1, 1) := by decide +kernel
theorem dL_refuses_530 : decode cL_refuses 530 = .ok (.goto 4, 3) := by decide +kernel
theorem dL_refuses_533 : decode cL_refuses 533 = .ok (.iconst 0, 1) := by decide +kernel
theorem dL_refuses_534 : decode cL_refuses 534 = .ok (.istore 13, 2) := by decide +kernel
theorem dL_refuses_536 : decode cL_refuses 536 = .ok (.iload 13, 2) := by decide +kernel
theorem dL_refuses_538 : decode cL_refuses 538 = .ok (.ifCond .eq 191, 3) := by decide +kernel
theorem dL_refuses_541 : decode cL_refuses 541 = .ok (.aload_n 0, 1) := by decide +kernel
theorem dL_refuses_542 : decode cL_refuses 542 = .ok (.bipush 10, 2) := by decide +kernel
theorem dL_refuses_544 : decode cL_refuses 544 = .ok (.iload 8, 2) := by decide +kernel
theorem dL_refuses_546 : decode cL_refuses 546 = .ok (.iconst 0, 1) := by decide +kernel
theorem dL_refuses_547 : decode cL_refuses 547 = .ok (.iconst 0, 1) := by decide +kernel
theorem dL_refuses_548 : decode cL_refuses 548 = .ok (.invokestatic 81, 3) := by decide +kernel
theorem dL_refuses_551 : decode cL_refuses 551 = .ok (.ldc 73, 2) := by decide +kernel
theorem dL_refuses_553 : decode cL_refuses 553 = .ok (.if_icmp .ne 176, 3) := by decide +kernel
theorem dL_refuses_556 : decode cL_refuses 556 = .ok (.aload_n 0, 1) := by decide +kernel
theorem dL_refuses_557 : decode cL_refuses 557 = .ok (.bipush 11, 2) := by decide +kernel
theorem dL_refuses_559 : decode cL_refuses 559 = .ok (.iload 9, 2) := by decide +kernel
theorem dL_refuses_561 : decode cL_refuses 561 = .ok (.bipush 9, 2) := by decide +kernel
theorem dL_refuses_563 : decode cL_refuses 563 = .ok (.iconst 0, 1) := by decide +kernel
theorem dL_refuses_564 : decode cL_refuses 564 = .ok (.invokestatic 81, 3) := by decide +kernel
theorem dL_refuses_567 : decode cL_refuses 567 = .ok (.ldc 73, 2) := by decide +kernel
theorem dL_refuses_569 : decode cL_refuses 569 = .ok (.if_icmp .ne 160, 3) := by decide +kernel
theorem dL_refuses_572 : decode cL_refuses 572 = .ok (.aload_n 0, 1) := by decide +kernel
theorem dL_refuses_573 : decode cL_refuses 573 = .ok (.bipush 12, 2) := by decide +kernel
theorem dL_refuses_575 : decode cL_refuses 575 = .ok (.iload 9, 2) := by decide +kernel
theorem dL_refuses_577 : decode cL_refuses 577 = .ok (.iconst 0, 1) := by decide +kernel
theorem dL_refuses_578 : decode cL_refuses 578 = .ok (.iconst 0, 1) := by decide +kernel
theorem dL_refuses_579 : decode cL_refuses 579 = .ok (.invokestatic 81, 3) := by decide +kernel
theorem dL_refuses_582 : decode cL_refuses 582 = .ok (.ldc 73, 2) := by decide +kernel
theorem dL_refuses_584 : decode cL_refuses 584 = .ok (.if_icmp .ne 145, 3) := by decide +kernel
theorem dL_refuses_587 : decode cL_refuses 587 = .ok (.aload_n 0, 1) := by decide +kernel
theorem dL_refuses_588 : decode cL_refuses 588 = .ok (.bipush 12, 2) := by decide +kernel
theorem dL_refuses_590 : decode cL_refuses 590 = .ok (.iconst 0, 1) := by decide +kernel
theorem dL_refuses_591 : decode cL_refuses 591 = .ok (.iload 9, 2) := by decide +kernel
theorem dL_refuses_593 : decode cL_refuses 593 = .ok (.iconst 0, 1) := by decide +kernel
theorem dL_refuses_594 : decode cL_refuses 594 = .ok (.invokestatic 81, 3) := by decide +kernel
theorem dL_refuses_597 : decode cL_refuses 597 = .ok (.ldc 73, 2) := by decide +kernel
theorem dL_refuses_599 : decode cL_refuses 599 = .ok (.if_icmp .ne 130, 3) := by decide +kernel
theorem dL_refuses_602 : decode cL_refuses 602 = .ok (.aload_n 0, 1) := by decide +kernel
theorem dL_refuses_603 : decode cL_refuses 603 = .ok (.bipush 13, 2) := by decide +kernel
theorem dL_refuses_605 : decode cL_refuses 605 = .ok (.iload 6, 2) := by decide +kernel
theorem dL_refuses_607 : decode cL_refuses 607 = .ok (.ifCond .ne 8, 3) := by decide +kernel
theorem dL_refuses_610 : decode cL_refuses 610 = .ok (.bipush (-2), 2) := by decide +kernel
theorem dL_refuses_612 : decode cL_refuses 612 = .ok (.goto 17, 3) := by decide +kernel
theorem dL_refuses_615 : decode cL_refuses 615 = .ok (.iload 6, 2) := by decide +kernel
theorem dL_refuses_617 : decode cL_refuses 617 = .ok (.iconst 1, 1) := by decide +kernel
theorem dL_refuses_618 : decode cL_refuses 618 = .ok (.if_icmp .ne 9, 3) := by decide +kernel
theorem dL_refuses_621 : decode cL_refuses 621 = .ok (.sipush 10000, 3) := by decide +kernel
theorem dL_refuses_624 : decode cL_refuses 624 = .ok (.goto 5, 3) := by decide +kernel
theorem dL_refuses_627 : decode cL_refuses 627 = .ok (.iload 7, 2) := by decide +kernel
theorem dL_refuses_629 : decode cL_refuses 629 = .ok (.iconst 0, 1) := by decide +kernel
theorem dL_refuses_630 : decode cL_refuses 630 = .ok (.iconst 0, 1) := by decide +kernel
theorem dL_refuses_631 : decode cL_refuses 631 = .ok (.invokestatic 81, 3) := by decide +kernel
theorem dL_refuses_634 : decode cL_refuses 634 = .ok (.ldc 76, 2) := by decide +kernel
theorem dL_refuses_636 : decode cL_refuses 636 = .ok (.if_icmp .ne 93, 3) := by decide +kernel
theorem dL_refuses_639 : decode cL_refuses 639 = .ok (.aload_n 0, 1) := by decide +kernel
theorem dL_refuses_640 : decode cL_refuses 640 = .ok (.bipush 14, 2) := by decide +kernel
theorem dL_refuses_642 : decode cL_refuses 642 = .ok (.iload 10, 2) := by decide +kernel
theorem dL_refuses_644 : decode cL_refuses 644 = .ok (.iconst 0, 1) := by decide +kernel
theorem dL_refuses_645 : decode cL_refuses 645 = .ok (.bipush 9, 2) := by decide +kernel
theorem dL_refuses_647 : decode cL_refuses 647 = .ok (.invokestatic 81, 3) := by decide +kernel
theorem dL_refuses_650 : decode cL_refuses 650 = .ok (.ldc 73, 2) := by decide +kernel
theorem dL_refuses_652 : decode cL_refuses 652 = .ok (.if_icmp .ne 77, 3) := by decide +kernel
theorem dL_refuses_655 : decode cL_refuses 655 = .ok (.aload_n 0, 1) := by decide +kernel
theorem dL_refuses_656 : decode cL_refuses 656 = .ok (.bipush 14, 2) := by decide +kernel
theorem dL_refuses_658 : decode cL_refuses 658 = .ok (.iconst 0, 1) := by decide +kernel
theorem dL_refuses_659 : decode cL_refuses 659 = .ok (.iconst 0, 1) := by decide +kernel
theorem dL_refuses_660 : decode cL_refuses 660 = .ok (.iload 6, 2) := by decide +kernel
theorem dL_refuses_662 : decode cL_refuses 662 = .ok (.iconst 1, 1) := by decide +kernel
theorem dL_refuses_663 : decode cL_refuses 663 = .ok (.if_icmp .ne 7, 3) := by decide +kernel
theorem dL_refuses_666 : decode cL_refuses 666 = .ok (.iconst 5, 1) := by decide +kernel
theorem dL_refuses_667 : decode cL_refuses 667 = .ok (.goto 5, 3) := by decide +kernel
theorem dL_refuses_670 : decode cL_refuses 670 = .ok (.iload 7, 2) := by decide +kernel
theorem dL_refuses_672 : decode cL_refuses 672 = .ok (.invokestatic 81, 3) := by decide +kernel
theorem dL_refuses_675 : decode cL_refuses 675 = .ok (.ldc 76, 2) := by decide +kernel
theorem dL_refuses_677 : decode cL_refuses 677 = .ok (.if_icmp .ne 52, 3) := by decide +kernel
theorem dL_refuses_680 : decode cL_refuses 680 = .ok (.aload_n 0, 1) := by decide +kernel
theorem dL_refuses_681 : decode cL_refuses 681 = .ok (.bipush 15, 2) := by decide +kernel
theorem dL_refuses_683 : decode cL_refuses 683 = .ok (.iload 10, 2) := by decide +kernel
theorem dL_refuses_685 : decode cL_refuses 685 = .ok (.iconst 0, 1) := by decide +kernel
theorem dL_refuses_686 : decode cL_refuses 686 = .ok (.iconst 0, 1) := by decide +kernel
theorem dL_refuses_687 : decode cL_refuses 687 = .ok (.invokestatic 81, 3) := by decide +kernel
theorem dL_refuses_690 : decode cL_refuses 690 = .ok (.ldc 73, 2) := by decide +kernel
theorem dL_refuses_692 : decode cL_refuses 692 = .ok (.if_icmp .ne 37, 3) := by decide +kernel
theorem dL_refuses_695 : decode cL_refuses 695 = .ok (.aload_n 0, 1) := by decide +kernel
theorem dL_refuses_696 : decode cL_refuses 696 = .ok (.bipush 16, 2) := by decide +kernel
theorem dL_refuses_698 : decode cL_refuses 698 = .ok (.iload 10, 2) := by decide +kernel
theorem dL_refuses_700 : decode cL_refuses 700 = .ok (.iconst 0, 1) := by decide +kernel
theorem dL_refuses_701 : decode cL_refuses 701 = .ok (.iconst 0, 1) := by decide +kernel
theorem dL_refuses_702 : decode cL_refuses 702 = .ok (.invokestatic 81, 3) := by decide +kernel
theorem dL_refuses_705 : decode cL_refuses 705 = .ok (.ldc 73, 2) := by decide +kernel
theorem dL_refuses_707 : decode cL_refuses 707 = .ok (.if_icmp .ne 22, 3) := by decide +kernel
theorem dL_refuses_710 : decode cL_refuses 710 = .ok (.aload_n 0, 1) := by decide +kernel
theorem dL_refuses_711 : decode cL_refuses 711 = .ok (.bipush 16, 2) := by decide +kernel
theorem dL_refuses_713 : decode cL_refuses 713 = .ok (.iconst 0, 1) := by decide +kernel
theorem dL_refuses_714 : decode cL_refuses 714 = .ok (.iload 9, 2) := by decide +kernel
theorem dL_refuses_716 : decode cL_refuses 716 = .ok (.iconst 0, 1) := by decide +kernel
theorem dL_refuses_717 : decode cL_refuses 717 = .ok (.invokestatic 81, 3) := by decide +kernel
theorem dL_refuses_720 : decode cL_refuses 720 = .ok (.ldc 73, 2) := by decide +kernel
theorem dL_refuses_722 : decode cL_refuses 722 = .ok (.if_icmp .ne 7, 3) := by decide +kernel
theorem dL_refuses_725 : decode cL_refuses 725 = .ok (.iconst 1, 1) := by decide +kernel
theorem dL_refuses_726 : decode cL_refuses 726 = .ok (.goto 4, 3) := by decide +kernel
theorem dL_refuses_729 : decode cL_refuses 729 = .ok (.iconst 0, 1) := by decide +kernel
theorem dL_refuses_730 : decode cL_refuses 730 = .ok (.istore 13, 2) := by decide +kernel
theorem dL_refuses_732 : decode cL_refuses 732 = .ok (.iload 13, 2) := by decide +kernel
theorem dL_refuses_734 : decode cL_refuses 734 = .ok (.ifCond .eq 91, 3) := by decide +kernel
theorem dL_refuses_737 : decode cL_refuses 737 = .ok (.iload_n 1, 1) := by decide +kernel
theorem dL_refuses_738 : decode cL_refuses 738 = .ok (.ifCond .eq 53, 3) := by decide +kernel
theorem dL_refuses_741 : decode cL_refuses 741 = .ok (.aload_n 0, 1) := by decide +kernel
theorem dL_refuses_742 : decode cL_refuses 742 = .ok (.iconst 5, 1) := by decide +kernel
theorem dL_refuses_743 : decode cL_refuses 743 = .ok (.iconst 0, 1) := by decide +kernel
theorem dL_refuses_744 : decode cL_refuses 744 = .ok (.iconst 0, 1) := by decide +kernel
theorem dL_refuses_745 : decode cL_refuses 745 = .ok (.iload 6, 2) := by decide +kernel
theorem dL_refuses_747 : decode cL_refuses 747 = .ok (.iconst 1, 1) := by decide +kernel
theorem dL_refuses_748 : decode cL_refuses 748 = .ok (.if_icmp .ne 8, 3) := by decide +kernel
theorem dL_refuses_751 : decode cL_refuses 751 = .ok (.bipush 101, 2) := by decide +kernel
theorem dL_refuses_753 : decode cL_refuses 753 = .ok (.goto 5, 3) := by decide +kernel
theorem dL_refuses_756 : decode cL_refuses 756 = .ok (.iload 7, 2) := by decide +kernel
theorem dL_refuses_758 : decode cL_refuses 758 = .ok (.invokestatic 81, 3) := by decide +kernel
theorem dL_refuses_761 : decode cL_refuses 761 = .ok (.ldc 76, 2) := by decide +kernel
theorem dL_refuses_763 : decode cL_refuses 763 = .ok (.if_icmp .ne 62, 3) := by decide +kernel
theorem dL_refuses_766 : decode cL_refuses 766 = .ok (.aload_n 0, 1) := by decide +kernel
theorem dL_refuses_767 : decode cL_refuses 767 = .ok (.bipush 6, 2) := by decide +kernel
theorem dL_refuses_769 : decode cL_refuses 769 = .ok (.iconst 0, 1) := by decide +kernel
theorem dL_refuses_770 : decode cL_refuses 770 = .ok (.iload 6, 2) := by decide +kernel
theorem dL_refuses_772 : decode cL_refuses 772 = .ok (.iconst 1, 1) := by decide +kernel
theorem dL_refuses_773 : decode cL_refuses 773 = .ok (.if_icmp .ne 7, 3) := by decide +kernel
theorem dL_refuses_776 : decode cL_refuses 776 = .ok (.iconst 2, 1) := by decide +kernel
theorem dL_refuses_777 : decode cL_refuses 777 = .ok (.goto 5, 3) := by decide +kernel
theorem dL_refuses_780 : decode cL_refuses 780 = .ok (.iload 7, 2) := by decide +kernel
theorem dL_refuses_782 : decode cL_refuses 782 = .ok (.iconst 0, 1) := by decide +kernel
theorem dL_refuses_783 : decode cL_refuses 783 = .ok (.invokestatic 81, 3) := by decide +kernel
theorem dL_refuses_786 : decode cL_refuses 786 = .ok (.ldc 76, 2) := by decide +kernel
theorem dL_refuses_788 : decode cL_refuses 788 = .ok (.if_icmp .ne 37, 3) := by decide +kernel
theorem dL_refuses_791 : decode cL_refuses 791 = .ok (.iload_n 2, 1) := by decide +kernel
theorem dL_refuses_792 : decode cL_refuses 792 = .ok (.ifCond .eq 29, 3) := by decide +kernel
theorem dL_refuses_795 : decode cL_refuses 795 = .ok (.aload_n 0, 1) := by decide +kernel
theorem dL_refuses_796 : decode cL_refuses 796 = .ok (.bipush 11, 2) := by decide +kernel
theorem dL_refuses_798 : decode cL_refuses 798 = .ok (.iconst 0, 1) := by decide +kernel
theorem dL_refuses_799 : decode cL_refuses 799 = .ok (.iload 6, 2) := by decide +kernel
theorem dL_refuses_801 : decode cL_refuses 801 = .ok (.iconst 1, 1) := by decide +kernel
theorem dL_refuses_802 : decode cL_refuses 802 = .ok (.if_icmp .ne 8, 3) := by decide +kernel
theorem dL_refuses_805 : decode cL_refuses 805 = .ok (.bipush 7, 2) := by decide +kernel
theorem dL_refuses_807 : decode cL_refuses 807 = .ok (.goto 5, 3) := by decide +kernel
theorem dL_refuses_810 : decode cL_refuses 810 = .ok (.iload 7, 2) := by decide +kernel
theorem dL_refuses_812 : decode cL_refuses 812 = .ok (.iconst 0, 1) := by decide +kernel
theorem dL_refuses_813 : decode cL_refuses 813 = .ok (.invokestatic 81, 3) := by decide +kernel
theorem dL_refuses_816 : decode cL_refuses 816 = .ok (.ldc 76, 2) := by decide +kernel
theorem dL_refuses_818 : decode cL_refuses 818 = .ok (.if_icmp .ne 7, 3) := by decide +kernel
theorem dL_refuses_821 : decode cL_refuses 821 = .ok (.iconst 1, 1) := by decide +kernel
theorem dL_refuses_822 : decode cL_refuses 822 = .ok (.goto 4, 3) := by decide +kernel
theorem dL_refuses_825 : decode cL_refuses 825 = .ok (.iconst 0, 1) := by decide +kernel
theorem dL_refuses_826 : decode cL_refuses 826 = .ok (.istore 13, 2) := by decide +kernel
theorem dL_refuses_828 : decode cL_refuses 828 = .ok (.iload 13, 2) := by decide +kernel
theorem dL_refuses_830 : decode cL_refuses 830 = .ok (.ifCond .ne 5, 3) := by decide +kernel
theorem dL_refuses_833 : decode cL_refuses 833 = .ok (.iconst 0, 1) := by decide +kernel
theorem dL_refuses_834 : decode cL_refuses 834 = .ok (.ireturn, 1) := by decide +kernel
theorem dL_refuses_835 : decode cL_refuses 835 = .ok (.iinc 6 1, 3) := by decide +kernel
theorem dL_refuses_838 : decode cL_refuses 838 = .ok (.goto (-813), 3) := by decide +kernel
theorem dL_refuses_841 : decode cL_refuses 841 = .ok (.aload_n 0, 1) := by decide +kernel
theorem dL_refuses_842 : decode cL_refuses 842 = .ok (.iconst 3, 1) := by decide +kernel
theorem dL_refuses_843 : decode cL_refuses 843 = .ok (.iconst 1, 1) := by decide +kernel
theorem dL_refuses_844 : decode cL_refuses 844 = .ok (.iconst 0, 1) := by decide +kernel
theorem dL_refuses_845 : decode cL_refuses 845 = .ok (.invokevirtual 60, 3) := by decide +kernel
theorem dL_refuses_848 : decode cL_refuses 848 = .ok (.iload 4, 2) := by decide +kernel
theorem dL_refuses_850 : decode cL_refuses 850 = .ok (.if_icmp .ne 20, 3) := by decide +kernel
theorem dL_refuses_853 : decode cL_refuses 853 = .ok (.aload_n 0, 1) := by decide +kernel
theorem dL_refuses_854 : decode cL_refuses 854 = .ok (.sipush 500, 3) := by decide +kernel
theorem dL_refuses_857 : decode cL_refuses 857 = .ok (.iconst 1, 1) := by decide +kernel
theorem dL_refuses_858 : decode cL_refuses 858 = .ok (.invokevirtual 21, 3) := by decide +kernel
theorem dL_refuses_861 : decode cL_refuses 861 = .ok (.iload 5, 2) := by decide +kernel
theorem dL_refuses_863 : decode cL_refuses 863 = .ok (.if_icmp .ne 7, 3) := by decide +kernel
theorem dL_refuses_866 : decode cL_refuses 866 = .ok (.iconst 1, 1) := by decide +kernel
theorem dL_refuses_867 : decode cL_refuses 867 = .ok (.goto 4, 3) := by decide +kernel
theorem dL_refuses_870 : decode cL_refuses 870 = .ok (.iconst 0, 1) := by decide +kernel
theorem dL_refuses_871 : decode cL_refuses 871 = .ok (.ireturn, 1) := by decide +kernel
theorem dL_codes_0 : decode cL_codes 0 = .ok (.iload_n 1, 1) := by decide +kernel
theorem dL_codes_1 : decode cL_codes 1 = .ok (.istore_n 3, 1) := by decide +kernel
theorem dL_codes_2 : decode cL_codes 2 = .ok (.iconst 0, 1) := by decide +kernel
theorem dL_codes_3 : decode cL_codes 3 = .ok (.istore 4, 2) := by decide +kernel
theorem dL_codes_5 : decode cL_codes 5 = .ok (.iconst 0, 1) := by decide +kernel
theorem dL_codes_6 : decode cL_codes 6 = .ok (.istore 5, 2) := by decide +kernel
theorem dL_codes_8 : decode cL_codes 8 = .ok (.iload 5, 2) := by decide +kernel
theorem dL_codes_10 : decode cL_codes 10 = .ok (.iload_n 2, 1) := by decide +kernel
theorem dL_codes_11 : decode cL_codes 11 = .ok (.if_icmp .ge 25, 3) := by decide +kernel
theorem dL_codes_14 : decode cL_codes 14 = .ok (.aload_n 0, 1) := by decide +kernel
theorem dL_codes_15 : decode cL_codes 15 = .ok (.iload_n 3, 1) := by decide +kernel
theorem dL_codes_16 : decode cL_codes 16 = .ok (.bipush 10, 2) := by decide +kernel
theorem dL_codes_18 : decode cL_codes 18 = .ok (.irem, 1) := by decide +kernel
theorem dL_codes_19 : decode cL_codes 19 = .ok (.iconst 0, 1) := by decide +kernel
theorem dL_codes_20 : decode cL_codes 20 = .ok (.invokevirtual 13, 3) := by decide +kernel
theorem dL_codes_23 : decode cL_codes 23 = .ok (.istore 4, 2) := by decide +kernel
theorem dL_codes_25 : decode cL_codes 25 = .ok (.iload_n 3, 1) := by decide +kernel
theorem dL_codes_26 : decode cL_codes 26 = .ok (.bipush 10, 2) := by decide +kernel
theorem dL_codes_28 : decode cL_codes 28 = .ok (.idiv, 1) := by decide +kernel
theorem dL_codes_29 : decode cL_codes 29 = .ok (.istore_n 3, 1) := by decide +kernel
theorem dL_codes_30 : decode cL_codes 30 = .ok (.iinc 5 1, 3) := by decide +kernel
theorem dL_codes_33 : decode cL_codes 33 = .ok (.goto (-25), 3) := by decide +kernel
theorem dL_codes_36 : decode cL_codes 36 = .ok (.iload 4, 2) := by decide +kernel
theorem dL_codes_38 : decode cL_codes 38 = .ok (.ireturn, 1) := by decide +kernel
theorem dL_runs_0 : decode cL_runs 0 = .ok (.aload_n 0, 1) := by decide +kernel
theorem dL_runs_1 : decode cL_runs 1 = .ok (.iload_n 1, 1) := by decide +kernel
theorem dL_runs_2 : decode cL_runs 2 = .ok (.iconst 0, 1) := by decide +kernel
theorem dL_runs_3 : decode cL_runs 3 = .ok (.invokevirtual 21, 3) := by decide +kernel
theorem dL_runs_6 : decode cL_runs 6 = .ok (.iload_n 2, 1) := by decide +kernel
theorem dL_runs_7 : decode cL_runs 7 = .ok (.if_icmp .ne 51, 3) := by decide +kernel
theorem dL_runs_10 : decode cL_runs 10 = .ok (.aload_n 0, 1) := by decide +kernel
theorem dL_runs_11 : decode cL_runs 11 = .ok (.iload_n 1, 1) := by decide +kernel
theorem dL_runs_12 : decode cL_runs 12 = .ok (.iconst 1, 1) := by decide +kernel
theorem dL_runs_13 : decode cL_runs 13 = .ok (.invokevirtual 21, 3) := by decide +kernel
theorem dL_runs_16 : decode cL_runs 16 = .ok (.iload_n 3, 1) := by decide +kernel
theorem dL_runs_17 : decode cL_runs 17 = .ok (.if_icmp .ne 41, 3) := by decide +kernel
theorem dL_runs_20 : decode cL_runs 20 = .ok (.aload_n 0, 1) := by decide +kernel
theorem dL_runs_21 : decode cL_runs 21 = .ok (.iload_n 1, 1) := by decide +kernel
theorem dL_runs_22 : decode cL_runs 22 = .ok (.iconst 2, 1) := by decide +kernel
theorem dL_runs_23 : decode cL_runs 23 = .ok (.invokevirtual 21, 3) := by decide +kernel
theorem dL_runs_26 : decode cL_runs 26 = .ok (.iload 4, 2) := by decide +kernel
theorem dL_runs_28 : decode cL_runs 28 = .ok (.if_icmp .ne 30, 3) := by decide +kernel
theorem dL_runs_31 : decode cL_runs 31 = .ok (.aload_n 0, 1) := by decide +kernel
theorem dL_runs_32 : decode cL_runs 32 = .ok (.iload_n 1, 1) := by decide +kernel
theorem dL_runs_33 : decode cL_runs 33 = .ok (.iconst 3, 1) := by decide +kernel
theorem dL_runs_34 : decode cL_runs 34 = .ok (.invokevirtual 21, 3) := by decide +kernel
theorem dL_runs_37 : decode cL_runs 37 = .ok (.iload 5, 2) := by decide +kernel
theorem dL_runs_39 : decode cL_runs 39 = .ok (.if_icmp .ne 19, 3) := by decide +kernel
theorem dL_runs_42 : decode cL_runs 42 = .ok (.aload_n 0, 1) := by decide +kernel
theorem dL_runs_43 : decode cL_runs 43 = .ok (.iload_n 1, 1) := by decide +kernel
theorem dL_runs_44 : decode cL_runs 44 = .ok (.bipush 10, 2) := by decide +kernel
theorem dL_runs_46 : decode cL_runs 46 = .ok (.invokevirtual 21, 3) := by decide +kernel
theorem dL_runs_49 : decode cL_runs 49 = .ok (.iload 6, 2) := by decide +kernel
theorem dL_runs_51 : decode cL_runs 51 = .ok (.if_icmp .ne 7, 3) := by decide +kernel
theorem dL_runs_54 : decode cL_runs 54 = .ok (.iconst 1, 1) := by decide +kernel
theorem dL_runs_55 : decode cL_runs 55 = .ok (.goto 4, 3) := by decide +kernel
theorem dL_runs_58 : decode cL_runs 58 = .ok (.iconst 0, 1) := by decide +kernel
theorem dL_runs_59 : decode cL_runs 59 = .ok (.ireturn, 1) := by decide +kernel
theorem dL_entry_0 : decode cL_entry 0 = .ok (.aload_n 0, 1) := by decide +kernel
theorem dL_entry_1 : decode cL_entry 1 = .ok (.iload_n 1, 1) := by decide +kernel
theorem dL_entry_2 : decode cL_entry 2 = .ok (.iconst 0, 1) := by decide +kernel
theorem dL_entry_3 : decode cL_entry 3 = .ok (.invokevirtual 49, 3) := by decide +kernel
theorem dL_entry_6 : decode cL_entry 6 = .ok (.iload_n 2, 1) := by decide +kernel
theorem dL_entry_7 : decode cL_entry 7 = .ok (.if_icmp .ne 39, 3) := by decide +kernel
theorem dL_entry_10 : decode cL_entry 10 = .ok (.aload_n 0, 1) := by decide +kernel
theorem dL_entry_11 : decode cL_entry 11 = .ok (.iload_n 1, 1) := by decide +kernel
theorem dL_entry_12 : decode cL_entry 12 = .ok (.iconst 1, 1) := by decide +kernel
theorem dL_entry_13 : decode cL_entry 13 = .ok (.invokevirtual 49, 3) := by decide +kernel
theorem dL_entry_16 : decode cL_entry 16 = .ok (.iload_n 3, 1) := by decide +kernel
theorem dL_entry_17 : decode cL_entry 17 = .ok (.if_icmp .ne 29, 3) := by decide +kernel
theorem dL_entry_20 : decode cL_entry 20 = .ok (.aload_n 0, 1) := by decide +kernel
theorem dL_entry_21 : decode cL_entry 21 = .ok (.iload_n 1, 1) := by decide +kernel
theorem dL_entry_22 : decode cL_entry 22 = .ok (.iconst 2, 1) := by decide +kernel
theorem dL_entry_23 : decode cL_entry 23 = .ok (.invokevirtual 49, 3) := by decide +kernel
theorem dL_entry_26 : decode cL_entry 26 = .ok (.iload 4, 2) := by decide +kernel
theorem dL_entry_28 : decode cL_entry 28 = .ok (.if_icmp .ne 18, 3) := by decide +kernel
theorem dL_entry_31 : decode cL_entry 31 = .ok (.aload_n 0, 1) := by decide +kernel
theorem dL_entry_32 : decode cL_entry 32 = .ok (.iload_n 1, 1) := by decide +kernel
theorem dL_entry_33 : decode cL_entry 33 = .ok (.iconst 3, 1) := by decide +kernel
theorem dL_entry_34 : decode cL_entry 34 = .ok (.invokevirtual 49, 3) := by decide +kernel
theorem dL_entry_37 : decode cL_entry 37 = .ok (.iload 5, 2) := by decide +kernel
theorem dL_entry_39 : decode cL_entry 39 = .ok (.if_icmp .ne 7, 3) := by decide +kernel
theorem dL_entry_42 : decode cL_entry 42 = .ok (.iconst 1, 1) := by decide +kernel
theorem dL_entry_43 : decode cL_entry 43 = .ok (.goto 4, 3) := by decide +kernel
theorem dL_entry_46 : decode cL_entry 46 = .ok (.iconst 0, 1) := by decide +kernel
theorem dL_entry_47 : decode cL_entry 47 = .ok (.ireturn, 1) := by decide +kernel
theorem dL_board_0 : decode cL_board 0 = .ok (.aload_n 0, 1) := by decide +kernel
theorem dL_board_1 : decode cL_board 1 = .ok (.iload_n 1, 1) := by decide +kernel
theorem dL_board_2 : decode cL_board 2 = .ok (.iload_n 2, 1) := by decide +kernel
theorem dL_board_3 : decode cL_board 3 = .ok (.iconst 0, 1) := by decide +kernel
theorem dL_board_4 : decode cL_board 4 = .ok (.invokevirtual 60, 3) := by decide +kernel
theorem dL_board_7 : decode cL_board 7 = .ok (.iload_n 3, 1) := by decide +kernel
theorem dL_board_8 : decode cL_board 8 = .ok (.if_icmp .ne 43, 3) := by decide +kernel
theorem dL_board_11 : decode cL_board 11 = .ok (.aload_n 0, 1) := by decide +kernel
theorem dL_board_12 : decode cL_board 12 = .ok (.iload_n 1, 1) := by decide +kernel
theorem dL_board_13 : decode cL_board 13 = .ok (.iload_n 2, 1) := by decide +kernel
theorem dL_board_14 : decode cL_board 14 = .ok (.iconst 1, 1) := by decide +kernel
theorem dL_board_15 : decode cL_board 15 = .ok (.invokevirtual 60, 3) := by decide +kernel
theorem dL_board_18 : decode cL_board 18 = .ok (.iload 4, 2) := by decide +kernel
theorem dL_board_20 : decode cL_board 20 = .ok (.if_icmp .ne 31, 3) := by decide +kernel
theorem dL_board_23 : decode cL_board 23 = .ok (.aload_n 0, 1) := by decide +kernel
theorem dL_board_24 : decode cL_board 24 = .ok (.iload_n 1, 1) := by decide +kernel
theorem dL_board_25 : decode cL_board 25 = .ok (.iload_n 2, 1) := by decide +kernel
theorem dL_board_26 : decode cL_board 26 = .ok (.iconst 2, 1) := by decide +kernel
theorem dL_board_27 : decode cL_board 27 = .ok (.invokevirtual 60, 3) := by decide +kernel
theorem dL_board_30 : decode cL_board 30 = .ok (.iload 5, 2) := by decide +kernel
theorem dL_board_32 : decode cL_board 32 = .ok (.if_icmp .ne 19, 3) := by decide +kernel
theorem dL_board_35 : decode cL_board 35 = .ok (.aload_n 0, 1) := by decide +kernel
theorem dL_board_36 : decode cL_board 36 = .ok (.iload_n 1, 1) := by decide +kernel
theorem dL_board_37 : decode cL_board 37 = .ok (.iload_n 2, 1) := by decide +kernel
theorem dL_board_38 : decode cL_board 38 = .ok (.iconst 3, 1) := by decide +kernel
theorem dL_board_39 : decode cL_board 39 = .ok (.invokevirtual 60, 3) := by decide +kernel
theorem dL_board_42 : decode cL_board 42 = .ok (.iload 6, 2) := by decide +kernel
theorem dL_board_44 : decode cL_board 44 = .ok (.if_icmp .ne 7, 3) := by decide +kernel
theorem dL_board_47 : decode cL_board 47 = .ok (.iconst 1, 1) := by decide +kernel
theorem dL_board_48 : decode cL_board 48 = .ok (.goto 4, 3) := by decide +kernel
theorem dL_board_51 : decode cL_board 51 = .ok (.iconst 0, 1) := by decide +kernel
theorem dL_board_52 : decode cL_board 52 = .ok (.ireturn, 1) := by decide +kernel
theorem dL_machine_0 : decode cL_machine 0 = .ok (.new 8, 3) := by decide +kernel
theorem dL_machine_3 : decode cL_machine 3 = .ok (.dup, 1) := by decide +kernel
theorem dL_machine_4 : decode cL_machine 4 = .ok (.invokespecial 85, 3) := by decide +kernel
theorem dL_machine_7 : decode cL_machine 7 = .ok (.astore_n 0, 1) := by decide +kernel
theorem dL_machine_8 : decode cL_machine 8 = .ok (.aload_n 0, 1) := by decide +kernel
theorem dL_machine_9 : decode cL_machine 9 = .ok (.iconst 1, 1) := by decide +kernel
theorem dL_machine_10 : decode cL_machine 10 = .ok (.iconst 0, 1) := by decide +kernel
theorem dL_machine_11 : decode cL_machine 11 = .ok (.iconst 0, 1) := by decide +kernel
theorem dL_machine_12 : decode cL_machine 12 = .ok (.iconst 0, 1) := by decide +kernel
theorem dL_machine_13 : decode cL_machine 13 = .ok (.iconst 0, 1) := by decide +kernel
theorem dL_machine_14 : decode cL_machine 14 = .ok (.iconst 0, 1) := by decide +kernel
theorem dL_machine_15 : decode cL_machine 15 = .ok (.invokestatic 86, 3) := by decide +kernel
theorem dL_machine_18 : decode cL_machine 18 = .ok (.ifCond .eq 96, 3) := by decide +kernel
theorem dL_machine_21 : decode cL_machine 21 = .ok (.aload_n 0, 1) := by decide +kernel
theorem dL_machine_22 : decode cL_machine 22 = .ok (.sipush 9200, 3) := by decide +kernel
theorem dL_machine_25 : decode cL_machine 25 = .ok (.iconst 4, 1) := by decide +kernel
theorem dL_machine_26 : decode cL_machine 26 = .ok (.invokestatic 90, 3) := by decide +kernel
theorem dL_machine_29 : decode cL_machine 29 = .ok (.iconst 4, 1) := by decide +kernel
theorem dL_machine_30 : decode cL_machine 30 = .ok (.if_icmp .ne 84, 3) := by decide +kernel
theorem dL_machine_33 : decode cL_machine 33 = .ok (.aload_n 0, 1) := by decide +kernel
theorem dL_machine_34 : decode cL_machine 34 = .ok (.iconst 3, 1) := by decide +kernel
theorem dL_machine_35 : decode cL_machine 35 = .ok (.invokevirtual 17, 3) := by decide +kernel
theorem dL_machine_38 : decode cL_machine 38 = .ok (.iconst 1, 1) := by decide +kernel
theorem dL_machine_39 : decode cL_machine 39 = .ok (.if_icmp .ne 75, 3) := by decide +kernel
theorem dL_machine_42 : decode cL_machine 42 = .ok (.aload_n 0, 1) := by decide +kernel
theorem dL_machine_43 : decode cL_machine 43 = .ok (.bipush 9, 2) := by decide +kernel
theorem dL_machine_45 : decode cL_machine 45 = .ok (.iconst 4, 1) := by decide +kernel
theorem dL_machine_46 : decode cL_machine 46 = .ok (.iconst 2, 1) := by decide +kernel
theorem dL_machine_47 : decode cL_machine 47 = .ok (.iconst 0, 1) := by decide +kernel
theorem dL_machine_48 : decode cL_machine 48 = .ok (.iconst 0, 1) := by decide +kernel
theorem dL_machine_49 : decode cL_machine 49 = .ok (.iconst 0, 1) := by decide +kernel
theorem dL_machine_50 : decode cL_machine 50 = .ok (.invokestatic 86, 3) := by decide +kernel
theorem dL_machine_53 : decode cL_machine 53 = .ok (.ifCond .eq 61, 3) := by decide +kernel
theorem dL_machine_56 : decode cL_machine 56 = .ok (.aload_n 0, 1) := by decide +kernel
theorem dL_machine_57 : decode cL_machine 57 = .ok (.iconst 4, 1) := by decide +kernel
theorem dL_machine_58 : decode cL_machine 58 = .ok (.invokevirtual 17, 3) := by decide +kernel
theorem dL_machine_61 : decode cL_machine 61 = .ok (.iconst 2, 1) := by decide +kernel
theorem dL_machine_62 : decode cL_machine 62 = .ok (.if_icmp .ne 52, 3) := by decide +kernel
theorem dL_machine_65 : decode cL_machine 65 = .ok (.aload_n 0, 1) := by decide +kernel
theorem dL_machine_66 : decode cL_machine 66 = .ok (.iconst 4, 1) := by decide +kernel
theorem dL_machine_67 : decode cL_machine 67 = .ok (.iconst 0, 1) := by decide +kernel
theorem dL_machine_68 : decode cL_machine 68 = .ok (.iconst 4, 1) := by decide +kernel
theorem dL_machine_69 : decode cL_machine 69 = .ok (.iconst 1, 1) := by decide +kernel
theorem dL_machine_70 : decode cL_machine 70 = .ok (.bipush 7, 2) := by decide +kernel
theorem dL_machine_72 : decode cL_machine 72 = .ok (.iconst 0, 1) := by decide +kernel
theorem dL_machine_73 : decode cL_machine 73 = .ok (.invokestatic 86, 3) := by decide +kernel
theorem dL_machine_76 : decode cL_machine 76 = .ok (.ifCond .eq 38, 3) := by decide +kernel
theorem dL_machine_79 : decode cL_machine 79 = .ok (.aload_n 0, 1) := by decide +kernel
theorem dL_machine_80 : decode cL_machine 80 = .ok (.iconst 3, 1) := by decide +kernel
theorem dL_machine_81 : decode cL_machine 81 = .ok (.iconst 2, 1) := by decide +kernel
theorem dL_machine_82 : decode cL_machine 82 = .ok (.iconst 3, 1) := by decide +kernel
theorem dL_machine_83 : decode cL_machine 83 = .ok (.iconst 0, 1) := by decide +kernel
theorem dL_machine_84 : decode cL_machine 84 = .ok (.iconst 0, 1) := by decide +kernel
theorem dL_machine_85 : decode cL_machine 85 = .ok (.iconst 0, 1) := by decide +kernel
theorem dL_machine_86 : decode cL_machine 86 = .ok (.invokestatic 86, 3) := by decide +kernel
theorem dL_machine_89 : decode cL_machine 89 = .ok (.ifCond .eq 25, 3) := by decide +kernel
theorem dL_machine_92 : decode cL_machine 92 = .ok (.aload_n 0, 1) := by decide +kernel
theorem dL_machine_93 : decode cL_machine 93 = .ok (.invokevirtual 94, 3) := by decide +kernel
theorem dL_machine_96 : decode cL_machine 96 = .ok (.iconst 4, 1) := by decide +kernel
theorem dL_machine_97 : decode cL_machine 97 = .ok (.if_icmp .ne 17, 3) := by decide +kernel
theorem dL_machine_100 : decode cL_machine 100 = .ok (.aload_n 0, 1) := by decide +kernel
theorem dL_machine_101 : decode cL_machine 101 = .ok (.bipush 9, 2) := by decide +kernel
theorem dL_machine_103 : decode cL_machine 103 = .ok (.iconst 0, 1) := by decide +kernel
theorem dL_machine_104 : decode cL_machine 104 = .ok (.iconst 0, 1) := by decide +kernel
theorem dL_machine_105 : decode cL_machine 105 = .ok (.iconst 0, 1) := by decide +kernel
theorem dL_machine_106 : decode cL_machine 106 = .ok (.iconst 0, 1) := by decide +kernel
theorem dL_machine_107 : decode cL_machine 107 = .ok (.iconst 0, 1) := by decide +kernel
theorem dL_machine_108 : decode cL_machine 108 = .ok (.invokestatic 86, 3) := by decide +kernel
theorem dL_machine_111 : decode cL_machine 111 = .ok (.ifCond .ne 5, 3) := by decide +kernel
theorem dL_machine_114 : decode cL_machine 114 = .ok (.iconst 0, 1) := by decide +kernel
theorem dL_machine_115 : decode cL_machine 115 = .ok (.ireturn, 1) := by decide +kernel
theorem dL_machine_116 : decode cL_machine 116 = .ok (.aload_n 0, 1) := by decide +kernel
theorem dL_machine_117 : decode cL_machine 117 = .ok (.iconst 1, 1) := by decide +kernel
theorem dL_machine_118 : decode cL_machine 118 = .ok (.bipush 99, 2) := by decide +kernel
theorem dL_machine_120 : decode cL_machine 120 = .ok (.invokevirtual 13, 3) := by decide +kernel
theorem dL_machine_123 : decode cL_machine 123 = .ok (.iconst 1, 1) := by decide +kernel
theorem dL_machine_124 : decode cL_machine 124 = .ok (.if_icmp .ne 50, 3) := by decide +kernel
theorem dL_machine_127 : decode cL_machine 127 = .ok (.aload_n 0, 1) := by decide +kernel
theorem dL_machine_128 : decode cL_machine 128 = .ok (.sipush 4545, 3) := by decide +kernel
theorem dL_machine_131 : decode cL_machine 131 = .ok (.iconst 4, 1) := by decide +kernel
theorem dL_machine_132 : decode cL_machine 132 = .ok (.invokestatic 90, 3) := by decide +kernel
theorem dL_machine_135 : decode cL_machine 135 = .ok (.iconst 5, 1) := by decide +kernel
theorem dL_machine_136 : decode cL_machine 136 = .ok (.if_icmp .ne 38, 3) := by decide +kernel
theorem dL_machine_139 : decode cL_machine 139 = .ok (.aload_n 0, 1) := by decide +kernel
theorem dL_machine_140 : decode cL_machine 140 = .ok (.bipush 9, 2) := by decide +kernel
theorem dL_machine_142 : decode cL_machine 142 = .ok (.iconst 4, 1) := by decide +kernel
theorem dL_machine_143 : decode cL_machine 143 = .ok (.iconst 5, 1) := by decide +kernel
theorem dL_machine_144 : decode cL_machine 144 = .ok (.iconst 0, 1) := by decide +kernel
theorem dL_machine_145 : decode cL_machine 145 = .ok (.iconst 0, 1) := by decide +kernel
theorem dL_machine_146 : decode cL_machine 146 = .ok (.iconst 0, 1) := by decide +kernel
theorem dL_machine_147 : decode cL_machine 147 = .ok (.invokestatic 86, 3) := by decide +kernel
theorem dL_machine_150 : decode cL_machine 150 = .ok (.ifCond .eq 24, 3) := by decide +kernel
theorem dL_machine_153 : decode cL_machine 153 = .ok (.aload_n 0, 1) := by decide +kernel
theorem dL_machine_154 : decode cL_machine 154 = .ok (.iconst 4, 1) := by decide +kernel
theorem dL_machine_155 : decode cL_machine 155 = .ok (.iconst 2, 1) := by decide +kernel
theorem dL_machine_156 : decode cL_machine 156 = .ok (.iconst 4, 1) := by decide +kernel
theorem dL_machine_157 : decode cL_machine 157 = .ok (.iconst 0, 1) := by decide +kernel
theorem dL_machine_158 : decode cL_machine 158 = .ok (.iconst 0, 1) := by decide +kernel
theorem dL_machine_159 : decode cL_machine 159 = .ok (.iconst 0, 1) := by decide +kernel
theorem dL_machine_160 : decode cL_machine 160 = .ok (.invokestatic 86, 3) := by decide +kernel
theorem dL_machine_163 : decode cL_machine 163 = .ok (.ifCond .eq 11, 3) := by decide +kernel
theorem dL_machine_166 : decode cL_machine 166 = .ok (.aload_n 0, 1) := by decide +kernel
theorem dL_machine_167 : decode cL_machine 167 = .ok (.invokevirtual 94, 3) := by decide +kernel
theorem dL_machine_170 : decode cL_machine 170 = .ok (.iconst 5, 1) := by decide +kernel
theorem dL_machine_171 : decode cL_machine 171 = .ok (.if_icmp .eq 5, 3) := by decide +kernel
theorem dL_machine_174 : decode cL_machine 174 = .ok (.iconst 0, 1) := by decide +kernel
theorem dL_machine_175 : decode cL_machine 175 = .ok (.ireturn, 1) := by decide +kernel
theorem dL_machine_176 : decode cL_machine 176 = .ok (.aload_n 0, 1) := by decide +kernel
theorem dL_machine_177 : decode cL_machine 177 = .ok (.iconst 1, 1) := by decide +kernel
theorem dL_machine_178 : decode cL_machine 178 = .ok (.iconst 5, 1) := by decide +kernel
theorem dL_machine_179 : decode cL_machine 179 = .ok (.invokevirtual 13, 3) := by decide +kernel
theorem dL_machine_182 : decode cL_machine 182 = .ok (.iconst 1, 1) := by decide +kernel
theorem dL_machine_183 : decode cL_machine 183 = .ok (.if_icmp .ne 98, 3) := by decide +kernel
theorem dL_machine_186 : decode cL_machine 186 = .ok (.aload_n 0, 1) := by decide +kernel
theorem dL_machine_187 : decode cL_machine 187 = .ok (.sipush 4545, 3) := by decide +kernel
theorem dL_machine_190 : decode cL_machine 190 = .ok (.iconst 4, 1) := by decide +kernel
theorem dL_machine_191 : decode cL_machine 191 = .ok (.invokestatic 90, 3) := by decide +kernel
theorem dL_machine_194 : decode cL_machine 194 = .ok (.iconst 5, 1) := by decide +kernel
theorem dL_machine_195 : decode cL_machine 195 = .ok (.if_icmp .ne 86, 3) := by decide +kernel
theorem dL_machine_198 : decode cL_machine 198 = .ok (.aload_n 0, 1) := by decide +kernel
theorem dL_machine_199 : decode cL_machine 199 = .ok (.bipush 95, 2) := by decide +kernel
theorem dL_machine_201 : decode cL_machine 201 = .ok (.iconst 2, 1) := by decide +kernel
theorem dL_machine_202 : decode cL_machine 202 = .ok (.invokestatic 90, 3) := by decide +kernel
theorem dL_machine_205 : decode cL_machine 205 = .ok (.bipush 7, 2) := by decide +kernel
theorem dL_machine_207 : decode cL_machine 207 = .ok (.if_icmp .ne 74, 3) := by decide +kernel
theorem dL_machine_210 : decode cL_machine 210 = .ok (.aload_n 0, 1) := by decide +kernel
theorem dL_machine_211 : decode cL_machine 211 = .ok (.bipush 99, 2) := by decide +kernel
theorem dL_machine_213 : decode cL_machine 213 = .ok (.iconst 0, 1) := by decide +kernel
theorem dL_machine_214 : decode cL_machine 214 = .ok (.bipush 7, 2) := by decide +kernel
theorem dL_machine_216 : decode cL_machine 216 = .ok (.iconst 1, 1) := by decide +kernel
theorem dL_machine_217 : decode cL_machine 217 = .ok (.sipush 625, 3) := by decide +kernel
theorem dL_machine_220 : decode cL_machine 220 = .ok (.iconst 0, 1) := by decide +kernel
theorem dL_machine_221 : decode cL_machine 221 = .ok (.invokestatic 86, 3) := by decide +kernel
theorem dL_machine_224 : decode cL_machine 224 = .ok (.ifCond .eq 57, 3) := by decide +kernel
theorem dL_machine_227 : decode cL_machine 227 = .ok (.aload_n 0, 1) := by decide +kernel
theorem dL_machine_228 : decode cL_machine 228 = .ok (.iconst 4, 1) := by decide +kernel
theorem dL_machine_229 : decode cL_machine 229 = .ok (.iconst 1, 1) := by decide +kernel
theorem dL_machine_230 : decode cL_machine 230 = .ok (.invokestatic 90, 3) := by decide +kernel
theorem dL_machine_233 : decode cL_machine 233 = .ok (.bipush 8, 2) := by decide +kernel
theorem dL_machine_235 : decode cL_machine 235 = .ok (.if_icmp .ne 46, 3) := by decide +kernel
theorem dL_machine_238 : decode cL_machine 238 = .ok (.aload_n 0, 1) := by decide +kernel
theorem dL_machine_239 : decode cL_machine 239 = .ok (.bipush 99, 2) := by decide +kernel
theorem dL_machine_241 : decode cL_machine 241 = .ok (.iconst 4, 1) := by decide +kernel
theorem dL_machine_242 : decode cL_machine 242 = .ok (.bipush 8, 2) := by decide +kernel
theorem dL_machine_244 : decode cL_machine 244 = .ok (.iconst 1, 1) := by decide +kernel
theorem dL_machine_245 : decode cL_machine 245 = .ok (.sipush 625, 3) := by decide +kernel
theorem dL_machine_248 : decode cL_machine 248 = .ok (.iconst 0, 1) := by decide +kernel
theorem dL_machine_249 : decode cL_machine 249 = .ok (.invokestatic 86, 3) := by decide +kernel
theorem dL_machine_252 : decode cL_machine 252 = .ok (.ifCond .eq 29, 3) := by decide +kernel
theorem dL_machine_255 : decode cL_machine 255 = .ok (.aload_n 0, 1) := by decide +kernel
theorem dL_machine_256 : decode cL_machine 256 = .ok (.bipush 7, 2) := by decide +kernel
theorem dL_machine_258 : decode cL_machine 258 = .ok (.iconst 2, 1) := by decide +kernel
theorem dL_machine_259 : decode cL_machine 259 = .ok (.bipush 7, 2) := by decide +kernel
theorem dL_machine_261 : decode cL_machine 261 = .ok (.iconst 1, 1) := by decide +kernel
theorem dL_machine_262 : decode cL_machine 262 = .ok (.sipush 625, 3) := by decide +kernel
theorem dL_machine_265 : decode cL_machine 265 = .ok (.iconst 0, 1) := by decide +kernel
theorem dL_machine_266 : decode cL_machine 266 = .ok (.invokestatic 86, 3) := by decide +kernel
theorem dL_machine_269 : decode cL_machine 269 = .ok (.ifCond .eq 12, 3) := by decide +kernel
theorem dL_machine_272 : decode cL_machine 272 = .ok (.aload_n 0, 1) := by decide +kernel
theorem dL_machine_273 : decode cL_machine 273 = .ok (.invokevirtual 94, 3) := by decide +kernel
theorem dL_machine_276 : decode cL_machine 276 = .ok (.bipush 8, 2) := by decide +kernel
theorem dL_machine_278 : decode cL_machine 278 = .ok (.if_icmp .eq 5, 3) := by decide +kernel
theorem dL_machine_281 : decode cL_machine 281 = .ok (.iconst 0, 1) := by decide +kernel
theorem dL_machine_282 : decode cL_machine 282 = .ok (.ireturn, 1) := by decide +kernel
theorem dL_machine_283 : decode cL_machine 283 = .ok (.aload_n 0, 1) := by decide +kernel
theorem dL_machine_284 : decode cL_machine 284 = .ok (.iconst 1, 1) := by decide +kernel
theorem dL_machine_285 : decode cL_machine 285 = .ok (.bipush 7, 2) := by decide +kernel
theorem dL_machine_287 : decode cL_machine 287 = .ok (.invokevirtual 13, 3) := by decide +kernel
theorem dL_machine_290 : decode cL_machine 290 = .ok (.iconst 1, 1) := by decide +kernel
theorem dL_machine_291 : decode cL_machine 291 = .ok (.if_icmp .ne 154, 3) := by decide +kernel
theorem dL_machine_294 : decode cL_machine 294 = .ok (.aload_n 0, 1) := by decide +kernel
theorem dL_machine_295 : decode cL_machine 295 = .ok (.ldc 98, 2) := by decide +kernel
theorem dL_machine_297 : decode cL_machine 297 = .ok (.bipush 7, 2) := by decide +kernel
theorem dL_machine_299 : decode cL_machine 299 = .ok (.invokestatic 90, 3) := by decide +kernel
theorem dL_machine_302 : decode cL_machine 302 = .ok (.bipush 8, 2) := by decide +kernel
theorem dL_machine_304 : decode cL_machine 304 = .ok (.if_icmp .ne 141, 3) := by decide +kernel
theorem dL_machine_307 : decode cL_machine 307 = .ok (.aload_n 0, 1) := by decide +kernel
theorem dL_machine_308 : decode cL_machine 308 = .ok (.bipush 99, 2) := by decide +kernel
theorem dL_machine_310 : decode cL_machine 310 = .ok (.iconst 0, 1) := by decide +kernel
theorem dL_machine_311 : decode cL_machine 311 = .ok (.bipush 8, 2) := by decide +kernel
theorem dL_machine_313 : decode cL_machine 313 = .ok (.iconst 0, 1) := by decide +kernel
theorem dL_machine_314 : decode cL_machine 314 = .ok (.iconst 0, 1) := by decide +kernel
theorem dL_machine_315 : decode cL_machine 315 = .ok (.iconst 0, 1) := by decide +kernel
theorem dL_machine_316 : decode cL_machine 316 = .ok (.invokestatic 86, 3) := by decide +kernel
theorem dL_machine_319 : decode cL_machine 319 = .ok (.ifCond .eq 126, 3) := by decide +kernel
theorem dL_machine_322 : decode cL_machine 322 = .ok (.aload_n 0, 1) := by decide +kernel
theorem dL_machine_323 : decode cL_machine 323 = .ok (.iconst 5, 1) := by decide +kernel
theorem dL_machine_324 : decode cL_machine 324 = .ok (.iconst 0, 1) := by decide +kernel
theorem dL_machine_325 : decode cL_machine 325 = .ok (.invokevirtual 13, 3) := by decide +kernel
theorem dL_machine_328 : decode cL_machine 328 = .ok (.bipush 9, 2) := by decide +kernel
theorem dL_machine_330 : decode cL_machine 330 = .ok (.if_icmp .ne 115, 3) := by decide +kernel
theorem dL_machine_333 : decode cL_machine 333 = .ok (.aload_n 0, 1) := by decide +kernel
theorem dL_machine_334 : decode cL_machine 334 = .ok (.bipush 99, 2) := by decide +kernel
theorem dL_machine_336 : decode cL_machine 336 = .ok (.iconst 3, 1) := by decide +kernel
theorem dL_machine_337 : decode cL_machine 337 = .ok (.bipush 9, 2) := by decide +kernel
theorem dL_machine_339 : decode cL_machine 339 = .ok (.iconst 0, 1) := by decide +kernel
theorem dL_machine_340 : decode cL_machine 340 = .ok (.iconst 0, 1) := by decide +kernel
theorem dL_machine_341 : decode cL_machine 341 = .ok (.iconst 0, 1) := by decide +kernel
theorem dL_machine_342 : decode cL_machine 342 = .ok (.invokestatic 86, 3) := by decide +kernel
theorem dL_machine_345 : decode cL_machine 345 = .ok (.ifCond .eq 100, 3) := by decide +kernel
theorem dL_machine_348 : decode cL_machine 348 = .ok (.aload_n 0, 1) := by decide +kernel
theorem dL_machine_349 : decode cL_machine 349 = .ok (.bipush 8, 2) := by decide +kernel
theorem dL_machine_351 : decode cL_machine 351 = .ok (.iconst 2, 1) := by decide +kernel
theorem dL_machine_352 : decode cL_machine 352 = .ok (.bipush 8, 2) := by decide +kernel
theorem dL_machine_354 : decode cL_machine 354 = .ok (.iconst 0, 1) := by decide +kernel
theorem dL_machine_355 : decode cL_machine 355 = .ok (.iconst 0, 1) := by decide +kernel
theorem dL_machine_356 : decode cL_machine 356 = .ok (.iconst 0, 1) := by decide +kernel
theorem dL_machine_357 : decode cL_machine 357 = .ok (.invokestatic 86, 3) := by decide +kernel
theorem dL_machine_360 : decode cL_machine 360 = .ok (.ifCond .eq 85, 3) := by decide +kernel
theorem dL_machine_363 : decode cL_machine 363 = .ok (.aload_n 0, 1) := by decide +kernel
theorem dL_machine_364 : decode cL_machine 364 = .ok (.invokevirtual 94, 3) := by decide +kernel
theorem dL_machine_367 : decode cL_machine 367 = .ok (.bipush 9, 2) := by decide +kernel
theorem dL_machine_369 : decode cL_machine 369 = .ok (.if_icmp .ne 76, 3) := by decide +kernel
theorem dL_machine_372 : decode cL_machine 372 = .ok (.aload_n 0, 1) := by decide +kernel
theorem dL_machine_373 : decode cL_machine 373 = .ok (.iconst 1, 1) := by decide +kernel
theorem dL_machine_374 : decode cL_machine 374 = .ok (.iconst 3, 1) := by decide +kernel
theorem dL_machine_375 : decode cL_machine 375 = .ok (.invokevirtual 13, 3) := by decide +kernel
theorem dL_machine_378 : decode cL_machine 378 = .ok (.iconst 1, 1) := by decide +kernel
theorem dL_machine_379 : decode cL_machine 379 = .ok (.if_icmp .ne 66, 3) := by decide +kernel
theorem dL_machine_382 : decode cL_machine 382 = .ok (.aload_n 0, 1) := by decide +kernel
theorem dL_machine_383 : decode cL_machine 383 = .ok (.bipush 9, 2) := by decide +kernel
theorem dL_machine_385 : decode cL_machine 385 = .ok (.iconst 0, 1) := by decide +kernel
theorem dL_machine_386 : decode cL_machine 386 = .ok (.invokevirtual 13, 3) := by decide +kernel
theorem dL_machine_389 : decode cL_machine 389 = .ok (.iconst 2, 1) := by decide +kernel
theorem dL_machine_390 : decode cL_machine 390 = .ok (.if_icmp .ne 55, 3) := by decide +kernel
theorem dL_machine_393 : decode cL_machine 393 = .ok (.aload_n 0, 1) := by decide +kernel
theorem dL_machine_394 : decode cL_machine 394 = .ok (.bipush 8, 2) := by decide +kernel
theorem dL_machine_396 : decode cL_machine 396 = .ok (.iconst 0, 1) := by decide +kernel
theorem dL_machine_397 : decode cL_machine 397 = .ok (.invokevirtual 13, 3) := by decide +kernel
theorem dL_machine_400 : decode cL_machine 400 = .ok (.iconst 3, 1) := by decide +kernel
theorem dL_machine_401 : decode cL_machine 401 = .ok (.if_icmp .ne 44, 3) := by decide +kernel
theorem dL_machine_404 : decode cL_machine 404 = .ok (.aload_n 0, 1) := by decide +kernel
theorem dL_machine_405 : decode cL_machine 405 = .ok (.sipush 500, 3) := by decide +kernel
theorem dL_machine_408 : decode cL_machine 408 = .ok (.iconst 3, 1) := by decide +kernel
theorem dL_machine_409 : decode cL_machine 409 = .ok (.bipush 26, 2) := by decide +kernel
theorem dL_machine_411 : decode cL_machine 411 = .ok (.bipush 8, 2) := by decide +kernel
theorem dL_machine_413 : decode cL_machine 413 = .ok (.iconst 3, 1) := by decide +kernel
theorem dL_machine_414 : decode cL_machine 414 = .ok (.iconst 3, 1) := by decide +kernel
theorem dL_machine_415 : decode cL_machine 415 = .ok (.invokestatic 86, 3) := by decide +kernel
theorem dL_machine_418 : decode cL_machine 418 = .ok (.ifCond .eq 27, 3) := by decide +kernel
theorem dL_machine_421 : decode cL_machine 421 = .ok (.aload_n 0, 1) := by decide +kernel
theorem dL_machine_422 : decode cL_machine 422 = .ok (.bipush 25, 2) := by decide +kernel
theorem dL_machine_424 : decode cL_machine 424 = .ok (.iconst 2, 1) := by decide +kernel
theorem dL_machine_425 : decode cL_machine 425 = .ok (.bipush 25, 2) := by decide +kernel
theorem dL_machine_427 : decode cL_machine 427 = .ok (.bipush 8, 2) := by decide +kernel
theorem dL_machine_429 : decode cL_machine 429 = .ok (.iconst 3, 1) := by decide +kernel
theorem dL_machine_430 : decode cL_machine 430 = .ok (.iconst 3, 1) := by decide +kernel
theorem dL_machine_431 : decode cL_machine 431 = .ok (.invokestatic 86, 3) := by decide +kernel
theorem dL_machine_434 : decode cL_machine 434 = .ok (.ifCond .eq 11, 3) := by decide +kernel
theorem dL_machine_437 : decode cL_machine 437 = .ok (.aload_n 0, 1) := by decide +kernel
theorem dL_machine_438 : decode cL_machine 438 = .ok (.invokevirtual 94, 3) := by decide +kernel
theorem dL_machine_441 : decode cL_machine 441 = .ok (.iconst 3, 1) := by decide +kernel
theorem dL_machine_442 : decode cL_machine 442 = .ok (.if_icmp .eq 5, 3) := by decide +kernel
theorem dL_machine_445 : decode cL_machine 445 = .ok (.iconst 0, 1) := by decide +kernel
theorem dL_machine_446 : decode cL_machine 446 = .ok (.ireturn, 1) := by decide +kernel
theorem dL_machine_447 : decode cL_machine 447 = .ok (.aload_n 0, 1) := by decide +kernel
theorem dL_machine_448 : decode cL_machine 448 = .ok (.bipush 8, 2) := by decide +kernel
theorem dL_machine_450 : decode cL_machine 450 = .ok (.iconst 1, 1) := by decide +kernel
theorem dL_machine_451 : decode cL_machine 451 = .ok (.invokevirtual 13, 3) := by decide +kernel
theorem dL_machine_454 : decode cL_machine 454 = .ok (.iconst 1, 1) := by decide +kernel
theorem dL_machine_455 : decode cL_machine 455 = .ok (.if_icmp .ne 213, 3) := by decide +kernel
theorem dL_machine_458 : decode cL_machine 458 = .ok (.aload_n 0, 1) := by decide +kernel
theorem dL_machine_459 : decode cL_machine 459 = .ok (.iconst 1, 1) := by decide +kernel
theorem dL_machine_460 : decode cL_machine 460 = .ok (.iconst 0, 1) := by decide +kernel
theorem dL_machine_461 : decode cL_machine 461 = .ok (.iconst 1, 1) := by decide +kernel
theorem dL_machine_462 : decode cL_machine 462 = .ok (.iconst 0, 1) := by decide +kernel
theorem dL_machine_463 : decode cL_machine 463 = .ok (.iconst 0, 1) := by decide +kernel
theorem dL_machine_464 : decode cL_machine 464 = .ok (.iconst 0, 1) := by decide +kernel
theorem dL_machine_465 : decode cL_machine 465 = .ok (.invokestatic 86, 3) := by decide +kernel
theorem dL_machine_468 : decode cL_machine 468 = .ok (.ifCond .eq 200, 3) := by decide +kernel
theorem dL_machine_471 : decode cL_machine 471 = .ok (.aload_n 0, 1) := by decide +kernel
theorem dL_machine_472 : decode cL_machine 472 = .ok (.invokevirtual 94, 3) := by decide +kernel
theorem dL_machine_475 : decode cL_machine 475 = .ok (.iconst 1, 1) := by decide +kernel
theorem dL_machine_476 : decode cL_machine 476 = .ok (.if_icmp .ne 192, 3) := by decide +kernel
theorem dL_machine_479 : decode cL_machine 479 = .ok (.aload_n 0, 1) := by decide +kernel
theorem dL_machine_480 : decode cL_machine 480 = .ok (.bipush 8, 2) := by decide +kernel
theorem dL_machine_482 : decode cL_machine 482 = .ok (.iconst 2, 1) := by decide +kernel
theorem dL_machine_483 : decode cL_machine 483 = .ok (.invokevirtual 13, 3) := by decide +kernel
theorem dL_machine_486 : decode cL_machine 486 = .ok (.iconst 1, 1) := by decide +kernel
theorem dL_machine_487 : decode cL_machine 487 = .ok (.if_icmp .ne 181, 3) := by decide +kernel
theorem dL_machine_490 : decode cL_machine 490 = .ok (.aload_n 0, 1) := by decide +kernel
theorem dL_machine_491 : decode cL_machine 491 = .ok (.iconst 1, 1) := by decide +kernel
theorem dL_machine_492 : decode cL_machine 492 = .ok (.iconst 4, 1) := by decide +kernel
theorem dL_machine_493 : decode cL_machine 493 = .ok (.iconst 1, 1) := by decide +kernel
theorem dL_machine_494 : decode cL_machine 494 = .ok (.iconst 0, 1) := by decide +kernel
theorem dL_machine_495 : decode cL_machine 495 = .ok (.iconst 0, 1) := by decide +kernel
theorem dL_machine_496 : decode cL_machine 496 = .ok (.iconst 0, 1) := by decide +kernel
theorem dL_machine_497 : decode cL_machine 497 = .ok (.invokestatic 86, 3) := by decide +kernel
theorem dL_machine_500 : decode cL_machine 500 = .ok (.ifCond .eq 168, 3) := by decide +kernel
theorem dL_machine_503 : decode cL_machine 503 = .ok (.aload_n 0, 1) := by decide +kernel
theorem dL_machine_504 : decode cL_machine 504 = .ok (.invokevirtual 94, 3) := by decide +kernel
theorem dL_machine_507 : decode cL_machine 507 = .ok (.iconst 1, 1) := by decide +kernel
theorem dL_machine_508 : decode cL_machine 508 = .ok (.if_icmp .ne 160, 3) := by decide +kernel
theorem dL_machine_511 : decode cL_machine 511 = .ok (.aload_n 0, 1) := by decide +kernel
theorem dL_machine_512 : decode cL_machine 512 = .ok (.bipush 8, 2) := by decide +kernel
theorem dL_machine_514 : decode cL_machine 514 = .ok (.iconst (-1), 1) := by decide +kernel
theorem dL_machine_515 : decode cL_machine 515 = .ok (.invokevirtual 13, 3) := by decide +kernel
theorem dL_machine_518 : decode cL_machine 518 = .ok (.iconst 1, 1) := by decide +kernel
theorem dL_machine_519 : decode cL_machine 519 = .ok (.if_icmp .ne 149, 3) := by decide +kernel
theorem dL_machine_522 : decode cL_machine 522 = .ok (.aload_n 0, 1) := by decide +kernel
theorem dL_machine_523 : decode cL_machine 523 = .ok (.bipush 9, 2) := by decide +kernel
theorem dL_machine_525 : decode cL_machine 525 = .ok (.iconst 4, 1) := by decide +kernel
theorem dL_machine_526 : decode cL_machine 526 = .ok (.iconst 1, 1) := by decide +kernel
theorem dL_machine_527 : decode cL_machine 527 = .ok (.iconst 0, 1) := by decide +kernel
theorem dL_machine_528 : decode cL_machine 528 = .ok (.iconst 0, 1) := by decide +kernel
theorem dL_machine_529 : decode cL_machine 529 = .ok (.iconst 0, 1) := by decide +kernel
theorem dL_machine_530 : decode cL_machine 530 = .ok (.invokestatic 86, 3) := by decide +kernel
theorem dL_machine_533 : decode cL_machine 533 = .ok (.ifCond .eq 135, 3) := by decide +kernel
theorem dL_machine_536 : decode cL_machine 536 = .ok (.aload_n 0, 1) := by decide +kernel
theorem dL_machine_537 : decode cL_machine 537 = .ok (.invokevirtual 94, 3) := by decide +kernel
theorem dL_machine_540 : decode cL_machine 540 = .ok (.iconst 1, 1) := by decide +kernel
theorem dL_machine_541 : decode cL_machine 541 = .ok (.if_icmp .ne 127, 3) := by decide +kernel
theorem dL_machine_544 : decode cL_machine 544 = .ok (.aload_n 0, 1) := by decide +kernel
theorem dL_machine_545 : decode cL_machine 545 = .ok (.iconst 1, 1) := by decide +kernel
theorem dL_machine_546 : decode cL_machine 546 = .ok (.iconst 1, 1) := by decide +kernel
theorem dL_machine_547 : decode cL_machine 547 = .ok (.invokevirtual 13, 3) := by decide +kernel
theorem dL_machine_550 : decode cL_machine 550 = .ok (.iconst 1, 1) := by decide +kernel
theorem dL_machine_551 : decode cL_machine 551 = .ok (.if_icmp .ne 117, 3) := by decide +kernel
theorem dL_machine_554 : decode cL_machine 554 = .ok (.aload_n 0, 1) := by decide +kernel
theorem dL_machine_555 : decode cL_machine 555 = .ok (.bipush 7, 2) := by decide +kernel
theorem dL_machine_557 : decode cL_machine 557 = .ok (.bipush (-9), 2) := by decide +kernel
theorem dL_machine_559 : decode cL_machine 559 = .ok (.invokevirtual 13, 3) := by decide +kernel
theorem dL_machine_562 : decode cL_machine 562 = .ok (.iconst 2, 1) := by decide +kernel
theorem dL_machine_563 : decode cL_machine 563 = .ok (.if_icmp .ne 105, 3) := by decide +kernel
theorem dL_machine_566 : decode cL_machine 566 = .ok (.aload_n 0, 1) := by decide +kernel
theorem dL_machine_567 : decode cL_machine 567 = .ok (.bipush 9, 2) := by decide +kernel
theorem dL_machine_569 : decode cL_machine 569 = .ok (.iconst 0, 1) := by decide +kernel
theorem dL_machine_570 : decode cL_machine 570 = .ok (.iconst 2, 1) := by decide +kernel
theorem dL_machine_571 : decode cL_machine 571 = .ok (.iconst 0, 1) := by decide +kernel
theorem dL_machine_572 : decode cL_machine 572 = .ok (.iconst 0, 1) := by decide +kernel
theorem dL_machine_573 : decode cL_machine 573 = .ok (.iconst 0, 1) := by decide +kernel
theorem dL_machine_574 : decode cL_machine 574 = .ok (.invokestatic 86, 3) := by decide +kernel
theorem dL_machine_577 : decode cL_machine 577 = .ok (.ifCond .eq 91, 3) := by decide +kernel
theorem dL_machine_580 : decode cL_machine 580 = .ok (.aload_n 0, 1) := by decide +kernel
theorem dL_machine_581 : decode cL_machine 581 = .ok (.invokevirtual 94, 3) := by decide +kernel
theorem dL_machine_584 : decode cL_machine 584 = .ok (.iconst 2, 1) := by decide +kernel
theorem dL_machine_585 : decode cL_machine 585 = .ok (.if_icmp .ne 83, 3) := by decide +kernel
theorem dL_machine_588 : decode cL_machine 588 = .ok (.aload_n 0, 1) := by decide +kernel
theorem dL_machine_589 : decode cL_machine 589 = .ok (.iconst 1, 1) := by decide +kernel
theorem dL_machine_590 : decode cL_machine 590 = .ok (.iconst 0, 1) := by decide +kernel
theorem dL_machine_591 : decode cL_machine 591 = .ok (.invokevirtual 13, 3) := by decide +kernel
theorem dL_machine_594 : decode cL_machine 594 = .ok (.iconst 1, 1) := by decide +kernel
theorem dL_machine_595 : decode cL_machine 595 = .ok (.if_icmp .ne 73, 3) := by decide +kernel
theorem dL_machine_598 : decode cL_machine 598 = .ok (.aload_n 0, 1) := by decide +kernel
theorem dL_machine_599 : decode cL_machine 599 = .ok (.bipush 7, 2) := by decide +kernel
theorem dL_machine_601 : decode cL_machine 601 = .ok (.bipush (-9), 2) := by decide +kernel
theorem dL_machine_603 : decode cL_machine 603 = .ok (.invokevirtual 13, 3) := by decide +kernel
theorem dL_machine_606 : decode cL_machine 606 = .ok (.iconst 2, 1) := by decide +kernel
theorem dL_machine_607 : decode cL_machine 607 = .ok (.if_icmp .ne 61, 3) := by decide +kernel
theorem dL_machine_610 : decode cL_machine 610 = .ok (.aload_n 0, 1) := by decide +kernel
theorem dL_machine_611 : decode cL_machine 611 = .ok (.bipush 9, 2) := by decide +kernel
theorem dL_machine_613 : decode cL_machine 613 = .ok (.iconst 4, 1) := by decide +kernel
theorem dL_machine_614 : decode cL_machine 614 = .ok (.iconst 2, 1) := by decide +kernel
theorem dL_machine_615 : decode cL_machine 615 = .ok (.iconst 0, 1) := by decide +kernel
theorem dL_machine_616 : decode cL_machine 616 = .ok (.iconst 0, 1) := by decide +kernel
theorem dL_machine_617 : decode cL_machine 617 = .ok (.iconst 0, 1) := by decide +kernel
theorem dL_machine_618 : decode cL_machine 618 = .ok (.invokestatic 86, 3) := by decide +kernel
theorem dL_machine_621 : decode cL_machine 621 = .ok (.ifCond .eq 47, 3) := by decide +kernel
theorem dL_machine_624 : decode cL_machine 624 = .ok (.aload_n 0, 1) := by decide +kernel
theorem dL_machine_625 : decode cL_machine 625 = .ok (.invokevirtual 94, 3) := by decide +kernel
theorem dL_machine_628 : decode cL_machine 628 = .ok (.iconst 2, 1) := by decide +kernel
theorem dL_machine_629 : decode cL_machine 629 = .ok (.if_icmp .ne 39, 3) := by decide +kernel
theorem dL_machine_632 : decode cL_machine 632 = .ok (.aload_n 0, 1) := by decide +kernel
theorem dL_machine_633 : decode cL_machine 633 = .ok (.bipush 8, 2) := by decide +kernel
theorem dL_machine_635 : decode cL_machine 635 = .ok (.iconst 0, 1) := by decide +kernel
theorem dL_machine_636 : decode cL_machine 636 = .ok (.invokevirtual 13, 3) := by decide +kernel
theorem dL_machine_639 : decode cL_machine 639 = .ok (.iconst 1, 1) := by decide +kernel
theorem dL_machine_640 : decode cL_machine 640 = .ok (.if_icmp .ne 28, 3) := by decide +kernel
theorem dL_machine_643 : decode cL_machine 643 = .ok (.aload_n 0, 1) := by decide +kernel
theorem dL_machine_644 : decode cL_machine 644 = .ok (.sipush 500, 3) := by decide +kernel
theorem dL_machine_647 : decode cL_machine 647 = .ok (.iconst 2, 1) := by decide +kernel
theorem dL_machine_648 : decode cL_machine 648 = .ok (.sipush 500, 3) := by decide +kernel
theorem dL_machine_651 : decode cL_machine 651 = .ok (.iconst 0, 1) := by decide +kernel
theorem dL_machine_652 : decode cL_machine 652 = .ok (.iconst 0, 1) := by decide +kernel
theorem dL_machine_653 : decode cL_machine 653 = .ok (.iconst 0, 1) := by decide +kernel
theorem dL_machine_654 : decode cL_machine 654 = .ok (.invokestatic 86, 3) := by decide +kernel
theorem dL_machine_657 : decode cL_machine 657 = .ok (.ifCond .eq 11, 3) := by decide +kernel
theorem dL_machine_660 : decode cL_machine 660 = .ok (.aload_n 0, 1) := by decide +kernel
theorem dL_machine_661 : decode cL_machine 661 = .ok (.invokevirtual 94, 3) := by decide +kernel
theorem dL_machine_664 : decode cL_machine 664 = .ok (.iconst 1, 1) := by decide +kernel
theorem dL_machine_665 : decode cL_machine 665 = .ok (.if_icmp .eq 5, 3) := by decide +kernel
theorem dL_machine_668 : decode cL_machine 668 = .ok (.iconst 0, 1) := by decide +kernel
theorem dL_machine_669 : decode cL_machine 669 = .ok (.ireturn, 1) := by decide +kernel
theorem dL_machine_670 : decode cL_machine 670 = .ok (.iconst 2, 1) := by decide +kernel
theorem dL_machine_671 : decode cL_machine 671 = .ok (.istore_n 1, 1) := by decide +kernel
theorem dL_machine_672 : decode cL_machine 672 = .ok (.iload_n 1, 1) := by decide +kernel
theorem dL_machine_673 : decode cL_machine 673 = .ok (.bipush 10, 2) := by decide +kernel
theorem dL_machine_675 : decode cL_machine 675 = .ok (.if_icmp .ge 146, 3) := by decide +kernel
theorem dL_machine_678 : decode cL_machine 678 = .ok (.iload_n 1, 1) := by decide +kernel
theorem dL_machine_679 : decode cL_machine 679 = .ok (.iconst 2, 1) := by decide +kernel
theorem dL_machine_680 : decode cL_machine 680 = .ok (.if_icmp .eq 19, 3) := by decide +kernel
theorem dL_machine_683 : decode cL_machine 683 = .ok (.iload_n 1, 1) := by decide +kernel
theorem dL_machine_684 : decode cL_machine 684 = .ok (.iconst 3, 1) := by decide +kernel
theorem dL_machine_685 : decode cL_machine 685 = .ok (.if_icmp .eq 14, 3) := by decide +kernel
theorem dL_machine_688 : decode cL_machine 688 = .ok (.iload_n 1, 1) := by decide +kernel
theorem dL_machine_689 : decode cL_machine 689 = .ok (.iconst 4, 1) := by decide +kernel
theorem dL_machine_690 : decode cL_machine 690 = .ok (.if_icmp .eq 9, 3) := by decide +kernel
theorem dL_machine_693 : decode cL_machine 693 = .ok (.iload_n 1, 1) := by decide +kernel
theorem dL_machine_694 : decode cL_machine 694 = .ok (.bipush 6, 2) := by decide +kernel
theorem dL_machine_696 : decode cL_machine 696 = .ok (.if_icmp .ne 7, 3) := by decide +kernel
theorem dL_machine_699 : decode cL_machine 699 = .ok (.iconst 1, 1) := by decide +kernel
theorem dL_machine_700 : decode cL_machine 700 = .ok (.goto 4, 3) := by decide +kernel
theorem dL_machine_703 : decode cL_machine 703 = .ok (.iconst 0, 1) := by decide +kernel
theorem dL_machine_704 : decode cL_machine 704 = .ok (.istore_n 2, 1) := by decide +kernel
theorem dL_machine_705 : decode cL_machine 705 = .ok (.aload_n 0, 1) := by decide +kernel
theorem dL_machine_706 : decode cL_machine 706 = .ok (.iload_n 1, 1) := by decide +kernel
theorem dL_machine_707 : decode cL_machine 707 = .ok (.iconst 0, 1) := by decide +kernel
theorem dL_machine_708 : decode cL_machine 708 = .ok (.invokevirtual 13, 3) := by decide +kernel
theorem dL_machine_711 : decode cL_machine 711 = .ok (.iconst 1, 1) := by decide +kernel
theorem dL_machine_712 : decode cL_machine 712 = .ok (.if_icmp .ne 101, 3) := by decide +kernel
theorem dL_machine_715 : decode cL_machine 715 = .ok (.iload_n 1, 1) := by decide +kernel
theorem dL_machine_716 : decode cL_machine 716 = .ok (.bipush 8, 2) := by decide +kernel
theorem dL_machine_718 : decode cL_machine 718 = .ok (.if_icmp .eq 17, 3) := by decide +kernel
theorem dL_machine_721 : decode cL_machine 721 = .ok (.aload_n 0, 1) := by decide +kernel
theorem dL_machine_722 : decode cL_machine 722 = .ok (.bipush 9, 2) := by decide +kernel
theorem dL_machine_724 : decode cL_machine 724 = .ok (.iconst 4, 1) := by decide +kernel
theorem dL_machine_725 : decode cL_machine 725 = .ok (.iconst 1, 1) := by decide +kernel
theorem dL_machine_726 : decode cL_machine 726 = .ok (.iconst 0, 1) := by decide +kernel
theorem dL_machine_727 : decode cL_machine 727 = .ok (.iconst 0, 1) := by decide +kernel
theorem dL_machine_728 : decode cL_machine 728 = .ok (.iconst 0, 1) := by decide +kernel
theorem dL_machine_729 : decode cL_machine 729 = .ok (.invokestatic 86, 3) := by decide +kernel
theorem dL_machine_732 : decode cL_machine 732 = .ok (.ifCond .eq 81, 3) := by decide +kernel
theorem dL_machine_735 : decode cL_machine 735 = .ok (.aload_n 0, 1) := by decide +kernel
theorem dL_machine_736 : decode cL_machine 736 = .ok (.invokevirtual 94, 3) := by decide +kernel
theorem dL_machine_739 : decode cL_machine 739 = .ok (.iconst 1, 1) := by decide +kernel
theorem dL_machine_740 : decode cL_machine 740 = .ok (.if_icmp .ne 73, 3) := by decide +kernel
theorem dL_machine_743 : decode cL_machine 743 = .ok (.aload_n 0, 1) := by decide +kernel
theorem dL_machine_744 : decode cL_machine 744 = .ok (.iconst 1, 1) := by decide +kernel
theorem dL_machine_745 : decode cL_machine 745 = .ok (.iconst 2, 1) := by decide +kernel
theorem dL_machine_746 : decode cL_machine 746 = .ok (.invokevirtual 13, 3) := by decide +kernel
theorem dL_machine_749 : decode cL_machine 749 = .ok (.iconst 1, 1) := by decide +kernel
theorem dL_machine_750 : decode cL_machine 750 = .ok (.if_icmp .ne 63, 3) := by decide +kernel
theorem dL_machine_753 : decode cL_machine 753 = .ok (.aload_n 0, 1) := by decide +kernel
theorem dL_machine_754 : decode cL_machine 754 = .ok (.iload_n 1, 1) := by decide +kernel
theorem dL_machine_755 : decode cL_machine 755 = .ok (.iconst 2, 1) := by decide +kernel
theorem dL_machine_756 : decode cL_machine 756 = .ok (.invokevirtual 13, 3) := by decide +kernel
theorem dL_machine_759 : decode cL_machine 759 = .ok (.iconst 2, 1) := by decide +kernel
theorem dL_machine_760 : decode cL_machine 760 = .ok (.if_icmp .ne 53, 3) := by decide +kernel
theorem dL_machine_763 : decode cL_machine 763 = .ok (.aload_n 0, 1) := by decide +kernel
theorem dL_machine_764 : decode cL_machine 764 = .ok (.bipush 9, 2) := by decide +kernel
theorem dL_machine_766 : decode cL_machine 766 = .ok (.iload_n 2, 1) := by decide +kernel
theorem dL_machine_767 : decode cL_machine 767 = .ok (.ifCond .eq 7, 3) := by decide +kernel
theorem dL_machine_770 : decode cL_machine 770 = .ok (.iconst 4, 1) := by decide +kernel
theorem dL_machine_771 : decode cL_machine 771 = .ok (.goto 4, 3) := by decide +kernel
theorem dL_machine_774 : decode cL_machine 774 = .ok (.iconst 0, 1) := by decide +kernel
theorem dL_machine_775 : decode cL_machine 775 = .ok (.iconst 2, 1) := by decide +kernel
theorem dL_machine_776 : decode cL_machine 776 = .ok (.iload_n 1, 1) := by decide +kernel
theorem dL_machine_777 : decode cL_machine 777 = .ok (.bipush 9, 2) := by decide +kernel
theorem dL_machine_779 : decode cL_machine 779 = .ok (.if_icmp .ne 7, 3) := by decide +kernel
theorem dL_machine_782 : decode cL_machine 782 = .ok (.iconst 1, 1) := by decide +kernel
theorem dL_machine_783 : decode cL_machine 783 = .ok (.goto 4, 3) := by decide +kernel
theorem dL_machine_786 : decode cL_machine 786 = .ok (.iconst 0, 1) := by decide +kernel
theorem dL_machine_787 : decode cL_machine 787 = .ok (.iload_n 1, 1) := by decide +kernel
theorem dL_machine_788 : decode cL_machine 788 = .ok (.bipush 9, 2) := by decide +kernel
theorem dL_machine_790 : decode cL_machine 790 = .ok (.if_icmp .ne 7, 3) := by decide +kernel
theorem dL_machine_793 : decode cL_machine 793 = .ok (.iconst 2, 1) := by decide +kernel
theorem dL_machine_794 : decode cL_machine 794 = .ok (.goto 4, 3) := by decide +kernel
theorem dL_machine_797 : decode cL_machine 797 = .ok (.iconst 0, 1) := by decide +kernel
theorem dL_machine_798 : decode cL_machine 798 = .ok (.iconst 0, 1) := by decide +kernel
theorem dL_machine_799 : decode cL_machine 799 = .ok (.invokestatic 86, 3) := by decide +kernel
theorem dL_machine_802 : decode cL_machine 802 = .ok (.ifCond .eq 11, 3) := by decide +kernel
theorem dL_machine_805 : decode cL_machine 805 = .ok (.aload_n 0, 1) := by decide +kernel
theorem dL_machine_806 : decode cL_machine 806 = .ok (.invokevirtual 94, 3) := by decide +kernel
theorem dL_machine_809 : decode cL_machine 809 = .ok (.iconst 2, 1) := by decide +kernel
theorem dL_machine_810 : decode cL_machine 810 = .ok (.if_icmp .eq 5, 3) := by decide +kernel
theorem dL_machine_813 : decode cL_machine 813 = .ok (.iconst 0, 1) := by decide +kernel
theorem dL_machine_814 : decode cL_machine 814 = .ok (.ireturn, 1) := by decide +kernel
theorem dL_machine_815 : decode cL_machine 815 = .ok (.iinc 1 1, 3) := by decide +kernel
theorem dL_machine_818 : decode cL_machine 818 = .ok (.goto (-146), 3) := by decide +kernel
theorem dL_machine_821 : decode cL_machine 821 = .ok (.aload_n 0, 1) := by decide +kernel
theorem dL_machine_822 : decode cL_machine 822 = .ok (.iconst 1, 1) := by decide +kernel
theorem dL_machine_823 : decode cL_machine 823 = .ok (.bipush 9, 2) := by decide +kernel
theorem dL_machine_825 : decode cL_machine 825 = .ok (.invokevirtual 13, 3) := by decide +kernel
theorem dL_machine_828 : decode cL_machine 828 = .ok (.iconst 1, 1) := by decide +kernel
theorem dL_machine_829 : decode cL_machine 829 = .ok (.if_icmp .ne 48, 3) := by decide +kernel
theorem dL_machine_832 : decode cL_machine 832 = .ok (.aload_n 0, 1) := by decide +kernel
theorem dL_machine_833 : decode cL_machine 833 = .ok (.iconst 1, 1) := by decide +kernel
theorem dL_machine_834 : decode cL_machine 834 = .ok (.iconst 4, 1) := by decide +kernel
theorem dL_machine_835 : decode cL_machine 835 = .ok (.invokevirtual 13, 3) := by decide +kernel
theorem dL_machine_838 : decode cL_machine 838 = .ok (.iconst 2, 1) := by decide +kernel
theorem dL_machine_839 : decode cL_machine 839 = .ok (.if_icmp .ne 38, 3) := by decide +kernel
theorem dL_machine_842 : decode cL_machine 842 = .ok (.aload_n 0, 1) := by decide +kernel
theorem dL_machine_843 : decode cL_machine 843 = .ok (.sipush 936, 3) := by decide +kernel
theorem dL_machine_846 : decode cL_machine 846 = .ok (.iconst 3, 1) := by decide +kernel
theorem dL_machine_847 : decode cL_machine 847 = .ok (.invokestatic 90, 3) := by decide +kernel
theorem dL_machine_850 : decode cL_machine 850 = .ok (.iconst 5, 1) := by decide +kernel
theorem dL_machine_851 : decode cL_machine 851 = .ok (.if_icmp .ne 26, 3) := by decide +kernel
theorem dL_machine_854 : decode cL_machine 854 = .ok (.aload_n 0, 1) := by decide +kernel
theorem dL_machine_855 : decode cL_machine 855 = .ok (.bipush 9, 2) := by decide +kernel
theorem dL_machine_857 : decode cL_machine 857 = .ok (.iconst 0, 1) := by decide +kernel
theorem dL_machine_858 : decode cL_machine 858 = .ok (.iconst 5, 1) := by decide +kernel
theorem dL_machine_859 : decode cL_machine 859 = .ok (.iconst 1, 1) := by decide +kernel
theorem dL_machine_860 : decode cL_machine 860 = .ok (.bipush (-5), 2) := by decide +kernel
theorem dL_machine_862 : decode cL_machine 862 = .ok (.iconst 0, 1) := by decide +kernel
theorem dL_machine_863 : decode cL_machine 863 = .ok (.invokestatic 86, 3) := by decide +kernel
theorem dL_machine_866 : decode cL_machine 866 = .ok (.ifCond .eq 11, 3) := by decide +kernel
theorem dL_machine_869 : decode cL_machine 869 = .ok (.aload_n 0, 1) := by decide +kernel
theorem dL_machine_870 : decode cL_machine 870 = .ok (.invokevirtual 94, 3) := by decide +kernel
theorem dL_machine_873 : decode cL_machine 873 = .ok (.iconst 5, 1) := by decide +kernel
theorem dL_machine_874 : decode cL_machine 874 = .ok (.if_icmp .eq 5, 3) := by decide +kernel
theorem dL_machine_877 : decode cL_machine 877 = .ok (.iconst 0, 1) := by decide +kernel
theorem dL_machine_878 : decode cL_machine 878 = .ok (.ireturn, 1) := by decide +kernel
theorem dL_machine_879 : decode cL_machine 879 = .ok (.iconst 0, 1) := by decide +kernel
theorem dL_machine_880 : decode cL_machine 880 = .ok (.istore_n 1, 1) := by decide +kernel
theorem dL_machine_881 : decode cL_machine 881 = .ok (.iload_n 1, 1) := by decide +kernel
theorem dL_machine_882 : decode cL_machine 882 = .ok (.bipush 17, 2) := by decide +kernel
theorem dL_machine_884 : decode cL_machine 884 = .ok (.if_icmp .ge 66, 3) := by decide +kernel
theorem dL_machine_887 : decode cL_machine 887 = .ok (.aload_n 0, 1) := by decide +kernel
theorem dL_machine_888 : decode cL_machine 888 = .ok (.iconst 0, 1) := by decide +kernel
theorem dL_machine_889 : decode cL_machine 889 = .ok (.bipush 8, 2) := by decide +kernel
theorem dL_machine_891 : decode cL_machine 891 = .ok (.iload_n 1, 1) := by decide +kernel
theorem dL_machine_892 : decode cL_machine 892 = .ok (.iconst 1, 1) := by decide +kernel
theorem dL_machine_893 : decode cL_machine 893 = .ok (.iadd, 1) := by decide +kernel
theorem dL_machine_894 : decode cL_machine 894 = .ok (.iconst 0, 1) := by decide +kernel
theorem dL_machine_895 : decode cL_machine 895 = .ok (.invokestatic 81, 3) := by decide +kernel
theorem dL_machine_898 : decode cL_machine 898 = .ok (.iload_n 1, 1) := by decide +kernel
theorem dL_machine_899 : decode cL_machine 899 = .ok (.bipush 16, 2) := by decide +kernel
theorem dL_machine_901 : decode cL_machine 901 = .ok (.if_icmp .ge 9, 3) := by decide +kernel
theorem dL_machine_904 : decode cL_machine 904 = .ok (.iload_n 1, 1) := by decide +kernel
theorem dL_machine_905 : decode cL_machine 905 = .ok (.iconst 1, 1) := by decide +kernel
theorem dL_machine_906 : decode cL_machine 906 = .ok (.iadd, 1) := by decide +kernel
theorem dL_machine_907 : decode cL_machine 907 = .ok (.goto 5, 3) := by decide +kernel
theorem dL_machine_910 : decode cL_machine 910 = .ok (.ldc 79, 2) := by decide +kernel
theorem dL_machine_912 : decode cL_machine 912 = .ok (.if_icmp .ne 30, 3) := by decide +kernel
theorem dL_machine_915 : decode cL_machine 915 = .ok (.aload_n 0, 1) := by decide +kernel
theorem dL_machine_916 : decode cL_machine 916 = .ok (.iconst 1, 1) := by decide +kernel
theorem dL_machine_917 : decode cL_machine 917 = .ok (.iload_n 1, 1) := by decide +kernel
theorem dL_machine_918 : decode cL_machine 918 = .ok (.bipush 9, 2) := by decide +kernel
theorem dL_machine_920 : decode cL_machine 920 = .ok (.irem, 1) := by decide +kernel
theorem dL_machine_921 : decode cL_machine 921 = .ok (.iconst 0, 1) := by decide +kernel
theorem dL_machine_922 : decode cL_machine 922 = .ok (.iconst 0, 1) := by decide +kernel
theorem dL_machine_923 : decode cL_machine 923 = .ok (.invokestatic 81, 3) := by decide +kernel
theorem dL_machine_926 : decode cL_machine 926 = .ok (.iload_n 1, 1) := by decide +kernel
theorem dL_machine_927 : decode cL_machine 927 = .ok (.iconst 4, 1) := by decide +kernel
theorem dL_machine_928 : decode cL_machine 928 = .ok (.if_icmp .ge 9, 3) := by decide +kernel
theorem dL_machine_931 : decode cL_machine 931 = .ok (.iload_n 1, 1) := by decide +kernel
theorem dL_machine_932 : decode cL_machine 932 = .ok (.iconst 1, 1) := by decide +kernel
theorem dL_machine_933 : decode cL_machine 933 = .ok (.iadd, 1) := by decide +kernel
theorem dL_machine_934 : decode cL_machine 934 = .ok (.goto 5, 3) := by decide +kernel
theorem dL_machine_937 : decode cL_machine 937 = .ok (.ldc 79, 2) := by decide +kernel
theorem dL_machine_939 : decode cL_machine 939 = .ok (.if_icmp .eq 5, 3) := by decide +kernel
theorem dL_machine_942 : decode cL_machine 942 = .ok (.iconst 0, 1) := by decide +kernel
theorem dL_machine_943 : decode cL_machine 943 = .ok (.ireturn, 1) := by decide +kernel
theorem dL_machine_944 : decode cL_machine 944 = .ok (.iinc 1 1, 3) := by decide +kernel
theorem dL_machine_947 : decode cL_machine 947 = .ok (.goto (-66), 3) := by decide +kernel
theorem dL_machine_950 : decode cL_machine 950 = .ok (.aload_n 0, 1) := by decide +kernel
theorem dL_machine_951 : decode cL_machine 951 = .ok (.bipush 16, 2) := by decide +kernel
theorem dL_machine_953 : decode cL_machine 953 = .ok (.iconst 0, 1) := by decide +kernel
theorem dL_machine_954 : decode cL_machine 954 = .ok (.bipush 16, 2) := by decide +kernel
theorem dL_machine_956 : decode cL_machine 956 = .ok (.iconst 0, 1) := by decide +kernel
theorem dL_machine_957 : decode cL_machine 957 = .ok (.iconst 0, 1) := by decide +kernel
theorem dL_machine_958 : decode cL_machine 958 = .ok (.iconst 0, 1) := by decide +kernel
theorem dL_machine_959 : decode cL_machine 959 = .ok (.invokestatic 86, 3) := by decide +kernel
theorem dL_machine_962 : decode cL_machine 962 = .ok (.ifCond .eq 40, 3) := by decide +kernel
theorem dL_machine_965 : decode cL_machine 965 = .ok (.aload_n 0, 1) := by decide +kernel
theorem dL_machine_966 : decode cL_machine 966 = .ok (.bipush 15, 2) := by decide +kernel
theorem dL_machine_968 : decode cL_machine 968 = .ok (.iconst 2, 1) := by decide +kernel
theorem dL_machine_969 : decode cL_machine 969 = .ok (.bipush 15, 2) := by decide +kernel
theorem dL_machine_971 : decode cL_machine 971 = .ok (.iconst 0, 1) := by decide +kernel
theorem dL_machine_972 : decode cL_machine 972 = .ok (.iconst 0, 1) := by decide +kernel
theorem dL_machine_973 : decode cL_machine 973 = .ok (.iconst 0, 1) := by decide +kernel
theorem dL_machine_974 : decode cL_machine 974 = .ok (.invokestatic 86, 3) := by decide +kernel
theorem dL_machine_977 : decode cL_machine 977 = .ok (.ifCond .eq 25, 3) := by decide +kernel
theorem dL_machine_980 : decode cL_machine 980 = .ok (.aload_n 0, 1) := by decide +kernel
theorem dL_machine_981 : decode cL_machine 981 = .ok (.invokevirtual 94, 3) := by decide +kernel
theorem dL_machine_984 : decode cL_machine 984 = .ok (.bipush 16, 2) := by decide +kernel
theorem dL_machine_986 : decode cL_machine 986 = .ok (.if_icmp .ne 16, 3) := by decide +kernel
theorem dL_machine_989 : decode cL_machine 989 = .ok (.aload_n 0, 1) := by decide +kernel
theorem dL_machine_990 : decode cL_machine 990 = .ok (.iconst 0, 1) := by decide +kernel
theorem dL_machine_991 : decode cL_machine 991 = .ok (.iconst 0, 1) := by decide +kernel
theorem dL_machine_992 : decode cL_machine 992 = .ok (.invokestatic 99, 3) := by decide +kernel
theorem dL_machine_995 : decode cL_machine 995 = .ok (.ifCond .eq 7, 3) := by decide +kernel
theorem dL_machine_998 : decode cL_machine 998 = .ok (.iconst 1, 1) := by decide +kernel
theorem dL_machine_999 : decode cL_machine 999 = .ok (.goto 4, 3) := by decide +kernel
theorem dL_machine_1002 : decode cL_machine 1002 = .ok (.iconst 0, 1) := by decide +kernel
theorem dL_machine_1003 : decode cL_machine 1003 = .ok (.ireturn, 1) := by decide +kernel
theorem dL_contest_0 : decode cL_contest 0 = .ok (.new 8, 3) := by decide +kernel
theorem dL_contest_3 : decode cL_contest 3 = .ok (.dup, 1) := by decide +kernel
theorem dL_contest_4 : decode cL_contest 4 = .ok (.invokespecial 85, 3) := by decide +kernel
theorem dL_contest_7 : decode cL_contest 7 = .ok (.astore_n 0, 1) := by decide +kernel
theorem dL_contest_8 : decode cL_contest 8 = .ok (.invokestatic 103, 3) := by decide +kernel
theorem dL_contest_11 : decode cL_contest 11 = .ok (.ifCond .eq 318, 3) := by decide +kernel
theorem dL_contest_14 : decode cL_contest 14 = .ok (.aload_n 0, 1) := by decide +kernel
theorem dL_contest_15 : decode cL_contest 15 = .ok (.invokevirtual 107, 3) := by decide +kernel
theorem dL_contest_18 : decode cL_contest 18 = .ok (.iconst (-1), 1) := by decide +kernel
theorem dL_contest_19 : decode cL_contest 19 = .ok (.if_icmp .ne 310, 3) := by decide +kernel
theorem dL_contest_22 : decode cL_contest 22 = .ok (.aload_n 0, 1) := by decide +kernel
theorem dL_contest_23 : decode cL_contest 23 = .ok (.invokevirtual 110, 3) := by decide +kernel
theorem dL_contest_26 : decode cL_contest 26 = .ok (.iconst (-1), 1) := by decide +kernel
theorem dL_contest_27 : decode cL_contest 27 = .ok (.if_icmp .ne 302, 3) := by decide +kernel
theorem dL_contest_30 : decode cL_contest 30 = .ok (.aload_n 0, 1) := by decide +kernel
theorem dL_contest_31 : decode cL_contest 31 = .ok (.sipush 9200, 3) := by decide +kernel
theorem dL_contest_34 : decode cL_contest 34 = .ok (.iconst 4, 1) := by decide +kernel
theorem dL_contest_35 : decode cL_contest 35 = .ok (.invokestatic 90, 3) := by decide +kernel
theorem dL_contest_38 : decode cL_contest 38 = .ok (.iconst 4, 1) := by decide +kernel
theorem dL_contest_39 : decode cL_contest 39 = .ok (.if_icmp .ne 290, 3) := by decide +kernel
theorem dL_contest_42 : decode cL_contest 42 = .ok (.aload_n 0, 1) := by decide +kernel
theorem dL_contest_43 : decode cL_contest 43 = .ok (.iconst 3, 1) := by decide +kernel
theorem dL_contest_44 : decode cL_contest 44 = .ok (.invokevirtual 17, 3) := by decide +kernel
theorem dL_contest_47 : decode cL_contest 47 = .ok (.iconst 1, 1) := by decide +kernel
theorem dL_contest_48 : decode cL_contest 48 = .ok (.if_icmp .ne 281, 3) := by decide +kernel
theorem dL_contest_51 : decode cL_contest 51 = .ok (.aload_n 0, 1) := by decide +kernel
theorem dL_contest_52 : decode cL_contest 52 = .ok (.iconst 4, 1) := by decide +kernel
theorem dL_contest_53 : decode cL_contest 53 = .ok (.invokevirtual 17, 3) := by decide +kernel
theorem dL_contest_56 : decode cL_contest 56 = .ok (.iconst 2, 1) := by decide +kernel
theorem dL_contest_57 : decode cL_contest 57 = .ok (.if_icmp .ne 272, 3) := by decide +kernel
theorem dL_contest_60 : decode cL_contest 60 = .ok (.aload_n 0, 1) := by decide +kernel
theorem dL_contest_61 : decode cL_contest 61 = .ok (.bipush 100, 2) := by decide +kernel
theorem dL_contest_63 : decode cL_contest 63 = .ok (.iconst 0, 1) := by decide +kernel
theorem dL_contest_64 : decode cL_contest 64 = .ok (.invokevirtual 24, 3) := by decide +kernel
theorem dL_contest_67 : decode cL_contest 67 = .ok (.ifCond .ne 262, 3) := by decide +kernel
theorem dL_contest_70 : decode cL_contest 70 = .ok (.aload_n 0, 1) := by decide +kernel
theorem dL_contest_71 : decode cL_contest 71 = .ok (.bipush 9, 2) := by decide +kernel
theorem dL_contest_73 : decode cL_contest 73 = .ok (.iconst 0, 1) := by decide +kernel
theorem dL_contest_74 : decode cL_contest 74 = .ok (.invokevirtual 21, 3) := by decide +kernel
theorem dL_contest_77 : decode cL_contest 77 = .ok (.ifCond .ne 252, 3) := by decide +kernel
theorem dL_contest_80 : decode cL_contest 80 = .ok (.aload_n 0, 1) := by decide +kernel
theorem dL_contest_81 : decode cL_contest 81 = .ok (.iconst 0, 1) := by decide +kernel
theorem dL_contest_82 : decode cL_contest 82 = .ok (.iconst 0, 1) := by decide +kernel
theorem dL_contest_83 : decode cL_contest 83 = .ok (.invokevirtual 27, 3) := by decide +kernel
theorem dL_contest_86 : decode cL_contest 86 = .ok (.ifCond .ne 243, 3) := by decide +kernel
theorem dL_contest_89 : decode cL_contest 89 = .ok (.aload_n 0, 1) := by decide +kernel
theorem dL_contest_90 : decode cL_contest 90 = .ok (.iconst 0, 1) := by decide +kernel
theorem dL_contest_91 : decode cL_contest 91 = .ok (.iconst 0, 1) := by decide +kernel
theorem dL_contest_92 : decode cL_contest 92 = .ok (.iconst 0, 1) := by decide +kernel
theorem dL_contest_93 : decode cL_contest 93 = .ok (.invokevirtual 37, 3) := by decide +kernel
theorem dL_contest_96 : decode cL_contest 96 = .ok (.bipush 7, 2) := by decide +kernel
theorem dL_contest_98 : decode cL_contest 98 = .ok (.if_icmp .ne 231, 3) := by decide +kernel
theorem dL_contest_101 : decode cL_contest 101 = .ok (.aload_n 0, 1) := by decide +kernel
theorem dL_contest_102 : decode cL_contest 102 = .ok (.iconst 0, 1) := by decide +kernel
theorem dL_contest_103 : decode cL_contest 103 = .ok (.iconst 0, 1) := by decide +kernel
theorem dL_contest_104 : decode cL_contest 104 = .ok (.iconst 1, 1) := by decide +kernel
theorem dL_contest_105 : decode cL_contest 105 = .ok (.invokevirtual 37, 3) := by decide +kernel
theorem dL_contest_108 : decode cL_contest 108 = .ok (.ifCond .ne 221, 3) := by decide +kernel
theorem dL_contest_111 : decode cL_contest 111 = .ok (.aload_n 0, 1) := by decide +kernel
theorem dL_contest_112 : decode cL_contest 112 = .ok (.iconst 1, 1) := by decide +kernel
theorem dL_contest_113 : decode cL_contest 113 = .ok (.invokevirtual 17, 3) := by decide +kernel
theorem dL_contest_116 : decode cL_contest 116 = .ok (.iconst 1, 1) := by decide +kernel
theorem dL_contest_117 : decode cL_contest 117 = .ok (.if_icmp .ne 212, 3) := by decide +kernel
theorem dL_contest_120 : decode cL_contest 120 = .ok (.aload_n 0, 1) := by decide +kernel
theorem dL_contest_121 : decode cL_contest 121 = .ok (.bipush (-2), 2) := by decide +kernel
theorem dL_contest_123 : decode cL_contest 123 = .ok (.invokevirtual 17, 3) := by decide +kernel
theorem dL_contest_126 : decode cL_contest 126 = .ok (.iconst 2, 1) := by decide +kernel
theorem dL_contest_127 : decode cL_contest 127 = .ok (.if_icmp .ne 202, 3) := by decide +kernel
theorem dL_contest_130 : decode cL_contest 130 = .ok (.aload_n 0, 1) := by decide +kernel
theorem dL_contest_131 : decode cL_contest 131 = .ok (.iconst 0, 1) := by decide +kernel
theorem dL_contest_132 : decode cL_contest 132 = .ok (.iconst 1, 1) := by decide +kernel
theorem dL_contest_133 : decode cL_contest 133 = .ok (.invokevirtual 27, 3) := by decide +kernel
theorem dL_contest_136 : decode cL_contest 136 = .ok (.iconst 1, 1) := by decide +kernel
theorem dL_contest_137 : decode cL_contest 137 = .ok (.if_icmp .ne 192, 3) := by decide +kernel
theorem dL_contest_140 : decode cL_contest 140 = .ok (.aload_n 0, 1) := by decide +kernel
theorem dL_contest_141 : decode cL_contest 141 = .ok (.iconst 0, 1) := by decide +kernel
theorem dL_contest_142 : decode cL_contest 142 = .ok (.iconst 1, 1) := by decide +kernel
theorem dL_contest_143 : decode cL_contest 143 = .ok (.iconst 0, 1) := by decide +kernel
theorem dL_contest_144 : decode cL_contest 144 = .ok (.invokevirtual 37, 3) := by decide +kernel
theorem dL_contest_147 : decode cL_contest 147 = .ok (.iconst (-1), 1) := by decide +kernel
theorem dL_contest_148 : decode cL_contest 148 = .ok (.if_icmp .ne 181, 3) := by decide +kernel
theorem dL_contest_151 : decode cL_contest 151 = .ok (.aload_n 0, 1) := by decide +kernel
theorem dL_contest_152 : decode cL_contest 152 = .ok (.iconst 5, 1) := by decide +kernel
theorem dL_contest_153 : decode cL_contest 153 = .ok (.invokevirtual 17, 3) := by decide +kernel
theorem dL_contest_156 : decode cL_contest 156 = .ok (.iconst 1, 1) := by decide +kernel
theorem dL_contest_157 : decode cL_contest 157 = .ok (.if_icmp .ne 172, 3) := by decide +kernel
theorem dL_contest_160 : decode cL_contest 160 = .ok (.aload_n 0, 1) := by decide +kernel
theorem dL_contest_161 : decode cL_contest 161 = .ok (.iconst 4, 1) := by decide +kernel
theorem dL_contest_162 : decode cL_contest 162 = .ok (.iconst 0, 1) := by decide +kernel
theorem dL_contest_163 : decode cL_contest 163 = .ok (.iconst 0, 1) := by decide +kernel
theorem dL_contest_164 : decode cL_contest 164 = .ok (.iconst 0, 1) := by decide +kernel
theorem dL_contest_165 : decode cL_contest 165 = .ok (.invokestatic 81, 3) := by decide +kernel
theorem dL_contest_168 : decode cL_contest 168 = .ok (.ldc 79, 2) := by decide +kernel
theorem dL_contest_170 : decode cL_contest 170 = .ok (.if_icmp .ne 159, 3) := by decide +kernel
theorem dL_contest_173 : decode cL_contest 173 = .ok (.aload_n 0, 1) := by decide +kernel
theorem dL_contest_174 : decode cL_contest 174 = .ok (.invokevirtual 94, 3) := by decide +kernel
theorem dL_contest_177 : decode cL_contest 177 = .ok (.ifCond .ne 152, 3) := by decide +kernel
theorem dL_contest_180 : decode cL_contest 180 = .ok (.aload_n 0, 1) := by decide +kernel
theorem dL_contest_181 : decode cL_contest 181 = .ok (.sipush 9200, 3) := by decide +kernel
theorem dL_contest_184 : decode cL_contest 184 = .ok (.iconst 4, 1) := by decide +kernel
theorem dL_contest_185 : decode cL_contest 185 = .ok (.invokestatic 90, 3) := by decide +kernel
theorem dL_contest_188 : decode cL_contest 188 = .ok (.iconst 4, 1) := by decide +kernel
theorem dL_contest_189 : decode cL_contest 189 = .ok (.if_icmp .ne 140, 3) := by decide +kernel
theorem dL_contest_192 : decode cL_contest 192 = .ok (.aload_n 0, 1) := by decide +kernel
theorem dL_contest_193 : decode cL_contest 193 = .ok (.iconst 2, 1) := by decide +kernel
theorem dL_contest_194 : decode cL_contest 194 = .ok (.iconst 0, 1) := by decide +kernel
theorem dL_contest_195 : decode cL_contest 195 = .ok (.invokevirtual 40, 3) := by decide +kernel
theorem dL_contest_198 : decode cL_contest 198 = .ok (.ifCond .ne 131, 3) := by decide +kernel
theorem dL_contest_201 : decode cL_contest 201 = .ok (.aload_n 0, 1) := by decide +kernel
theorem dL_contest_202 : decode cL_contest 202 = .ok (.bipush 10, 2) := by decide +kernel
theorem dL_contest_204 : decode cL_contest 204 = .ok (.invokevirtual 43, 3) := by decide +kernel
theorem dL_contest_207 : decode cL_contest 207 = .ok (.bipush 10, 2) := by decide +kernel
theorem dL_contest_209 : decode cL_contest 209 = .ok (.if_icmp .ne 120, 3) := by decide +kernel
theorem dL_contest_212 : decode cL_contest 212 = .ok (.aload_n 0, 1) := by decide +kernel
theorem dL_contest_213 : decode cL_contest 213 = .ok (.sipush 9300, 3) := by decide +kernel
theorem dL_contest_216 : decode cL_contest 216 = .ok (.iconst 4, 1) := by decide +kernel
theorem dL_contest_217 : decode cL_contest 217 = .ok (.invokestatic 90, 3) := by decide +kernel
theorem dL_contest_220 : decode cL_contest 220 = .ok (.iconst 4, 1) := by decide +kernel
theorem dL_contest_221 : decode cL_contest 221 = .ok (.if_icmp .ne 108, 3) := by decide +kernel
theorem dL_contest_224 : decode cL_contest 224 = .ok (.aload_n 0, 1) := by decide +kernel
theorem dL_contest_225 : decode cL_contest 225 = .ok (.iconst 3, 1) := by decide +kernel
theorem dL_contest_226 : decode cL_contest 226 = .ok (.iconst 0, 1) := by decide +kernel
theorem dL_contest_227 : decode cL_contest 227 = .ok (.invokevirtual 40, 3) := by decide +kernel
theorem dL_contest_230 : decode cL_contest 230 = .ok (.iconst 1, 1) := by decide +kernel
theorem dL_contest_231 : decode cL_contest 231 = .ok (.if_icmp .ne 98, 3) := by decide +kernel
theorem dL_contest_234 : decode cL_contest 234 = .ok (.aload_n 0, 1) := by decide +kernel
theorem dL_contest_235 : decode cL_contest 235 = .ok (.iconst 3, 1) := by decide +kernel
theorem dL_contest_236 : decode cL_contest 236 = .ok (.iconst 0, 1) := by decide +kernel
theorem dL_contest_237 : decode cL_contest 237 = .ok (.invokevirtual 40, 3) := by decide +kernel
theorem dL_contest_240 : decode cL_contest 240 = .ok (.iconst 2, 1) := by decide +kernel
theorem dL_contest_241 : decode cL_contest 241 = .ok (.if_icmp .ne 88, 3) := by decide +kernel
theorem dL_contest_244 : decode cL_contest 244 = .ok (.aload_n 0, 1) := by decide +kernel
theorem dL_contest_245 : decode cL_contest 245 = .ok (.bipush 9, 2) := by decide +kernel
theorem dL_contest_247 : decode cL_contest 247 = .ok (.iconst 1, 1) := by decide +kernel
theorem dL_contest_248 : decode cL_contest 248 = .ok (.invokestatic 90, 3) := by decide +kernel
theorem dL_contest_251 : decode cL_contest 251 = .ok (.iconst 1, 1) := by decide +kernel
theorem dL_contest_252 : decode cL_contest 252 = .ok (.if_icmp .ne 77, 3) := by decide +kernel
theorem dL_contest_255 : decode cL_contest 255 = .ok (.aload_n 0, 1) := by decide +kernel
theorem dL_contest_256 : decode cL_contest 256 = .ok (.iconst 4, 1) := by decide +kernel
theorem dL_contest_257 : decode cL_contest 257 = .ok (.iconst 0, 1) := by decide +kernel
theorem dL_contest_258 : decode cL_contest 258 = .ok (.invokevirtual 40, 3) := by decide +kernel
theorem dL_contest_261 : decode cL_contest 261 = .ok (.iconst 3, 1) := by decide +kernel
theorem dL_contest_262 : decode cL_contest 262 = .ok (.if_icmp .ne 67, 3) := by decide +kernel
theorem dL_contest_265 : decode cL_contest 265 = .ok (.aload_n 0, 1) := by decide +kernel
theorem dL_contest_266 : decode cL_contest 266 = .ok (.bipush 8, 2) := by decide +kernel
theorem dL_contest_268 : decode cL_contest 268 = .ok (.iconst 1, 1) := by decide +kernel
theorem dL_contest_269 : decode cL_contest 269 = .ok (.invokestatic 90, 3) := by decide +kernel
theorem dL_contest_272 : decode cL_contest 272 = .ok (.iconst 1, 1) := by decide +kernel
theorem dL_contest_273 : decode cL_contest 273 = .ok (.if_icmp .ne 56, 3) := by decide +kernel
theorem dL_contest_276 : decode cL_contest 276 = .ok (.aload_n 0, 1) := by decide +kernel
theorem dL_contest_277 : decode cL_contest 277 = .ok (.iconst 4, 1) := by decide +kernel
theorem dL_contest_278 : decode cL_contest 278 = .ok (.iconst 0, 1) := by decide +kernel
theorem dL_contest_279 : decode cL_contest 279 = .ok (.invokevirtual 40, 3) := by decide +kernel
theorem dL_contest_282 : decode cL_contest 282 = .ok (.iconst 4, 1) := by decide +kernel
theorem dL_contest_283 : decode cL_contest 283 = .ok (.if_icmp .ne 46, 3) := by decide +kernel
theorem dL_contest_286 : decode cL_contest 286 = .ok (.aload_n 0, 1) := by decide +kernel
theorem dL_contest_287 : decode cL_contest 287 = .ok (.iconst 0, 1) := by decide +kernel
theorem dL_contest_288 : decode cL_contest 288 = .ok (.iconst (-1), 1) := by decide +kernel
theorem dL_contest_289 : decode cL_contest 289 = .ok (.iconst (-1), 1) := by decide +kernel
theorem dL_contest_290 : decode cL_contest 290 = .ok (.iconst 0, 1) := by decide +kernel
theorem dL_contest_291 : decode cL_contest 291 = .ok (.iconst (-1), 1) := by decide +kernel
theorem dL_contest_292 : decode cL_contest 292 = .ok (.invokestatic 113, 3) := by decide +kernel
theorem dL_contest_295 : decode cL_contest 295 = .ok (.ifCond .eq 34, 3) := by decide +kernel
theorem dL_contest_298 : decode cL_contest 298 = .ok (.aload_n 0, 1) := by decide +kernel
theorem dL_contest_299 : decode cL_contest 299 = .ok (.iconst 1, 1) := by decide +kernel
theorem dL_contest_300 : decode cL_contest 300 = .ok (.iconst 4, 1) := by decide +kernel
theorem dL_contest_301 : decode cL_contest 301 = .ok (.invokevirtual 49, 3) := by decide +kernel
theorem dL_contest_304 : decode cL_contest 304 = .ok (.iconst 3, 1) := by decide +kernel
theorem dL_contest_305 : decode cL_contest 305 = .ok (.if_icmp .ne 24, 3) := by decide +kernel
theorem dL_contest_308 : decode cL_contest 308 = .ok (.aload_n 0, 1) := by decide +kernel
theorem dL_contest_309 : decode cL_contest 309 = .ok (.iconst 1, 1) := by decide +kernel
theorem dL_contest_310 : decode cL_contest 310 = .ok (.iconst 5, 1) := by decide +kernel
theorem dL_contest_311 : decode cL_contest 311 = .ok (.invokevirtual 49, 3) := by decide +kernel
theorem dL_contest_314 : decode cL_contest 314 = .ok (.ifCond .ne 15, 3) := by decide +kernel
theorem dL_contest_317 : decode cL_contest 317 = .ok (.aload_n 0, 1) := by decide +kernel
theorem dL_contest_318 : decode cL_contest 318 = .ok (.iconst 1, 1) := by decide +kernel
theorem dL_contest_319 : decode cL_contest 319 = .ok (.bipush 6, 2) := by decide +kernel
theorem dL_contest_321 : decode cL_contest 321 = .ok (.invokevirtual 49, 3) := by decide +kernel
theorem dL_contest_324 : decode cL_contest 324 = .ok (.bipush 10, 2) := by decide +kernel
theorem dL_contest_326 : decode cL_contest 326 = .ok (.if_icmp .eq 5, 3) := by decide +kernel
theorem dL_contest_329 : decode cL_contest 329 = .ok (.iconst 0, 1) := by decide +kernel
theorem dL_contest_330 : decode cL_contest 330 = .ok (.ireturn, 1) := by decide +kernel
theorem dL_contest_331 : decode cL_contest 331 = .ok (.aload_n 0, 1) := by decide +kernel
theorem dL_contest_332 : decode cL_contest 332 = .ok (.invokevirtual 107, 3) := by decide +kernel
theorem dL_contest_335 : decode cL_contest 335 = .ok (.ifCond .ne 316, 3) := by decide +kernel
theorem dL_contest_338 : decode cL_contest 338 = .ok (.aload_n 0, 1) := by decide +kernel
theorem dL_contest_339 : decode cL_contest 339 = .ok (.iconst 0, 1) := by decide +kernel
theorem dL_contest_340 : decode cL_contest 340 = .ok (.iconst 0, 1) := by decide +kernel
theorem dL_contest_341 : decode cL_contest 341 = .ok (.iconst (-1), 1) := by decide +kernel
theorem dL_contest_342 : decode cL_contest 342 = .ok (.bipush 50, 2) := by decide +kernel
theorem dL_contest_344 : decode cL_contest 344 = .ok (.iconst 2, 1) := by decide +kernel
theorem dL_contest_345 : decode cL_contest 345 = .ok (.invokestatic 113, 3) := by decide +kernel
theorem dL_contest_348 : decode cL_contest 348 = .ok (.ifCond .eq 303, 3) := by decide +kernel
theorem dL_contest_351 : decode cL_contest 351 = .ok (.aload_n 0, 1) := by decide +kernel
theorem dL_contest_352 : decode cL_contest 352 = .ok (.invokevirtual 107, 3) := by decide +kernel
theorem dL_contest_355 : decode cL_contest 355 = .ok (.iconst 1, 1) := by decide +kernel
theorem dL_contest_356 : decode cL_contest 356 = .ok (.if_icmp .ne 295, 3) := by decide +kernel
theorem dL_contest_359 : decode cL_contest 359 = .ok (.aload_n 0, 1) := by decide +kernel
theorem dL_contest_360 : decode cL_contest 360 = .ok (.iconst 1, 1) := by decide +kernel
theorem dL_contest_361 : decode cL_contest 361 = .ok (.iconst 1, 1) := by decide +kernel
theorem dL_contest_362 : decode cL_contest 362 = .ok (.iconst 0, 1) := by decide +kernel
theorem dL_contest_363 : decode cL_contest 363 = .ok (.iconst 0, 1) := by decide +kernel
theorem dL_contest_364 : decode cL_contest 364 = .ok (.iconst 2, 1) := by decide +kernel
theorem dL_contest_365 : decode cL_contest 365 = .ok (.invokestatic 113, 3) := by decide +kernel
theorem dL_contest_368 : decode cL_contest 368 = .ok (.ifCond .eq 283, 3) := by decide +kernel
theorem dL_contest_371 : decode cL_contest 371 = .ok (.aload_n 0, 1) := by decide +kernel
theorem dL_contest_372 : decode cL_contest 372 = .ok (.invokevirtual 107, 3) := by decide +kernel
theorem dL_contest_375 : decode cL_contest 375 = .ok (.iconst 3, 1) := by decide +kernel
theorem dL_contest_376 : decode cL_contest 376 = .ok (.if_icmp .ne 275, 3) := by decide +kernel
theorem dL_contest_379 : decode cL_contest 379 = .ok (.aload_n 0, 1) := by decide +kernel
theorem dL_contest_380 : decode cL_contest 380 = .ok (.iconst 3, 1) := by decide +kernel
theorem dL_contest_381 : decode cL_contest 381 = .ok (.iconst 4, 1) := by decide +kernel
theorem dL_contest_382 : decode cL_contest 382 = .ok (.iconst 0, 1) := by decide +kernel
theorem dL_contest_383 : decode cL_contest 383 = .ok (.iconst 0, 1) := by decide +kernel
theorem dL_contest_384 : decode cL_contest 384 = .ok (.iconst 2, 1) := by decide +kernel
theorem dL_contest_385 : decode cL_contest 385 = .ok (.invokestatic 113, 3) := by decide +kernel
theorem dL_contest_388 : decode cL_contest 388 = .ok (.ifCond .eq 263, 3) := by decide +kernel
theorem dL_contest_391 : decode cL_contest 391 = .ok (.aload_n 0, 1) := by decide +kernel
theorem dL_contest_392 : decode cL_contest 392 = .ok (.invokevirtual 107, 3) := by decide +kernel
theorem dL_contest_395 : decode cL_contest 395 = .ok (.iconst 2, 1) := by decide +kernel
theorem dL_contest_396 : decode cL_contest 396 = .ok (.if_icmp .ne 255, 3) := by decide +kernel
theorem dL_contest_399 : decode cL_contest 399 = .ok (.aload_n 0, 1) := by decide +kernel
theorem dL_contest_400 : decode cL_contest 400 = .ok (.iconst 2, 1) := by decide +kernel
theorem dL_contest_401 : decode cL_contest 401 = .ok (.iconst 5, 1) := by decide +kernel
theorem dL_contest_402 : decode cL_contest 402 = .ok (.iconst 0, 1) := by decide +kernel
theorem dL_contest_403 : decode cL_contest 403 = .ok (.iconst 0, 1) := by decide +kernel
theorem dL_contest_404 : decode cL_contest 404 = .ok (.iconst 2, 1) := by decide +kernel
theorem dL_contest_405 : decode cL_contest 405 = .ok (.invokestatic 113, 3) := by decide +kernel
theorem dL_contest_408 : decode cL_contest 408 = .ok (.ifCond .eq 243, 3) := by decide +kernel
theorem dL_contest_411 : decode cL_contest 411 = .ok (.aload_n 0, 1) := by decide +kernel
theorem dL_contest_412 : decode cL_contest 412 = .ok (.invokevirtual 107, 3) := by decide +kernel
theorem dL_contest_415 : decode cL_contest 415 = .ok (.iconst 4, 1) := by decide +kernel
theorem dL_contest_416 : decode cL_contest 416 = .ok (.if_icmp .ne 235, 3) := by decide +kernel
theorem dL_contest_419 : decode cL_contest 419 = .ok (.aload_n 0, 1) := by decide +kernel
theorem dL_contest_420 : decode cL_contest 420 = .ok (.iconst 4, 1) := by decide +kernel
theorem dL_contest_421 : decode cL_contest 421 = .ok (.iconst 2, 1) := by decide +kernel
theorem dL_contest_422 : decode cL_contest 422 = .ok (.iconst 0, 1) := by decide +kernel
theorem dL_contest_423 : decode cL_contest 423 = .ok (.iconst 0, 1) := by decide +kernel
theorem dL_contest_424 : decode cL_contest 424 = .ok (.iconst 2, 1) := by decide +kernel
theorem dL_contest_425 : decode cL_contest 425 = .ok (.invokestatic 113, 3) := by decide +kernel
theorem dL_contest_428 : decode cL_contest 428 = .ok (.ifCond .eq 223, 3) := by decide +kernel
theorem dL_contest_431 : decode cL_contest 431 = .ok (.aload_n 0, 1) := by decide +kernel
theorem dL_contest_432 : decode cL_contest 432 = .ok (.invokevirtual 107, 3) := by decide +kernel
theorem dL_contest_435 : decode cL_contest 435 = .ok (.iconst (-1), 1) := by decide +kernel
theorem dL_contest_436 : decode cL_contest 436 = .ok (.if_icmp .ne 215, 3) := by decide +kernel
theorem dL_contest_439 : decode cL_contest 439 = .ok (.aload_n 0, 1) := by decide +kernel
theorem dL_contest_440 : decode cL_contest 440 = .ok (.iconst 2, 1) := by decide +kernel
theorem dL_contest_441 : decode cL_contest 441 = .ok (.iconst 0, 1) := by decide +kernel
theorem dL_contest_442 : decode cL_contest 442 = .ok (.iconst 0, 1) := by decide +kernel
theorem dL_contest_443 : decode cL_contest 443 = .ok (.iconst 1, 1) := by decide +kernel
theorem dL_contest_444 : decode cL_contest 444 = .ok (.iconst 0, 1) := by decide +kernel
theorem dL_contest_445 : decode cL_contest 445 = .ok (.iconst 0, 1) := by decide +kernel
theorem dL_contest_446 : decode cL_contest 446 = .ok (.invokestatic 116, 3) := by decide +kernel
theorem dL_contest_449 : decode cL_contest 449 = .ok (.ifCond .eq 202, 3) := by decide +kernel
theorem dL_contest_452 : decode cL_contest 452 = .ok (.aload_n 0, 1) := by decide +kernel
theorem dL_contest_453 : decode cL_contest 453 = .ok (.iconst 0, 1) := by decide +kernel
theorem dL_contest_454 : decode cL_contest 454 = .ok (.iconst 0, 1) := by decide +kernel
theorem dL_contest_455 : decode cL_contest 455 = .ok (.iconst 1, 1) := by decide +kernel
theorem dL_contest_456 : decode cL_contest 456 = .ok (.iconst 0, 1) := by decide +kernel
theorem dL_contest_457 : decode cL_contest 457 = .ok (.iconst 0, 1) := by decide +kernel
theorem dL_contest_458 : decode cL_contest 458 = .ok (.iconst 0, 1) := by decide +kernel
theorem dL_contest_459 : decode cL_contest 459 = .ok (.invokestatic 116, 3) := by decide +kernel
theorem dL_contest_462 : decode cL_contest 462 = .ok (.ifCond .eq 189, 3) := by decide +kernel
theorem dL_contest_465 : decode cL_contest 465 = .ok (.aload_n 0, 1) := by decide +kernel
theorem dL_contest_466 : decode cL_contest 466 = .ok (.iconst 3, 1) := by decide +kernel
theorem dL_contest_467 : decode cL_contest 467 = .ok (.iconst 0, 1) := by decide +kernel
theorem dL_contest_468 : decode cL_contest 468 = .ok (.iconst 3, 1) := by decide +kernel
theorem dL_contest_469 : decode cL_contest 469 = .ok (.iconst 0, 1) := by decide +kernel
theorem dL_contest_470 : decode cL_contest 470 = .ok (.iconst 0, 1) := by decide +kernel
theorem dL_contest_471 : decode cL_contest 471 = .ok (.iconst 0, 1) := by decide +kernel
theorem dL_contest_472 : decode cL_contest 472 = .ok (.invokestatic 116, 3) := by decide +kernel
theorem dL_contest_475 : decode cL_contest 475 = .ok (.ifCond .eq 176, 3) := by decide +kernel
theorem dL_contest_478 : decode cL_contest 478 = .ok (.aload_n 0, 1) := by decide +kernel
theorem dL_contest_479 : decode cL_contest 479 = .ok (.bipush 7, 2) := by decide +kernel
theorem dL_contest_481 : decode cL_contest 481 = .ok (.iconst 1, 1) := by decide +kernel
theorem dL_contest_482 : decode cL_contest 482 = .ok (.bipush 7, 2) := by decide +kernel
theorem dL_contest_484 : decode cL_contest 484 = .ok (.iconst 0, 1) := by decide +kernel
theorem dL_contest_485 : decode cL_contest 485 = .ok (.iconst 0, 1) := by decide +kernel
theorem dL_contest_486 : decode cL_contest 486 = .ok (.iconst 0, 1) := by decide +kernel
theorem dL_contest_487 : decode cL_contest 487 = .ok (.invokestatic 116, 3) := by decide +kernel
theorem dL_contest_490 : decode cL_contest 490 = .ok (.ifCond .eq 161, 3) := by decide +kernel
theorem dL_contest_493 : decode cL_contest 493 = .ok (.aload_n 0, 1) := by decide +kernel
theorem dL_contest_494 : decode cL_contest 494 = .ok (.sipush 9200, 3) := by decide +kernel
theorem dL_contest_497 : decode cL_contest 497 = .ok (.iconst 4, 1) := by decide +kernel
theorem dL_contest_498 : decode cL_contest 498 = .ok (.invokestatic 90, 3) := by decide +kernel
theorem dL_contest_501 : decode cL_contest 501 = .ok (.iconst 4, 1) := by decide +kernel
theorem dL_contest_502 : decode cL_contest 502 = .ok (.if_icmp .ne 149, 3) := by decide +kernel
theorem dL_contest_505 : decode cL_contest 505 = .ok (.aload_n 0, 1) := by decide +kernel
theorem dL_contest_506 : decode cL_contest 506 = .ok (.iconst 3, 1) := by decide +kernel
theorem dL_contest_507 : decode cL_contest 507 = .ok (.iconst 0, 1) := by decide +kernel
theorem dL_contest_508 : decode cL_contest 508 = .ok (.invokevirtual 40, 3) := by decide +kernel
theorem dL_contest_511 : decode cL_contest 511 = .ok (.iconst 5, 1) := by decide +kernel
theorem dL_contest_512 : decode cL_contest 512 = .ok (.if_icmp .ne 139, 3) := by decide +kernel
theorem dL_contest_515 : decode cL_contest 515 = .ok (.aload_n 0, 1) := by decide +kernel
theorem dL_contest_516 : decode cL_contest 516 = .ok (.iconst 3, 1) := by decide +kernel
theorem dL_contest_517 : decode cL_contest 517 = .ok (.invokevirtual 64, 3) := by decide +kernel
theorem dL_contest_520 : decode cL_contest 520 = .ok (.iconst 1, 1) := by decide +kernel
theorem dL_contest_521 : decode cL_contest 521 = .ok (.if_icmp .ne 130, 3) := by decide +kernel
theorem dL_contest_524 : decode cL_contest 524 = .ok (.aload_n 0, 1) := by decide +kernel
theorem dL_contest_525 : decode cL_contest 525 = .ok (.iconst 3, 1) := by decide +kernel
theorem dL_contest_526 : decode cL_contest 526 = .ok (.iconst 0, 1) := by decide +kernel
theorem dL_contest_527 : decode cL_contest 527 = .ok (.iconst 0, 1) := by decide +kernel
theorem dL_contest_528 : decode cL_contest 528 = .ok (.invokevirtual 60, 3) := by decide +kernel
theorem dL_contest_531 : decode cL_contest 531 = .ok (.iconst 3, 1) := by decide +kernel
theorem dL_contest_532 : decode cL_contest 532 = .ok (.if_icmp .ne 119, 3) := by decide +kernel
theorem dL_contest_535 : decode cL_contest 535 = .ok (.aload_n 0, 1) := by decide +kernel
theorem dL_contest_536 : decode cL_contest 536 = .ok (.invokevirtual 107, 3) := by decide +kernel
theorem dL_contest_539 : decode cL_contest 539 = .ok (.iconst 5, 1) := by decide +kernel
theorem dL_contest_540 : decode cL_contest 540 = .ok (.if_icmp .ne 111, 3) := by decide +kernel
theorem dL_contest_543 : decode cL_contest 543 = .ok (.aload_n 0, 1) := by decide +kernel
theorem dL_contest_544 : decode cL_contest 544 = .ok (.iconst 3, 1) := by decide +kernel
theorem dL_contest_545 : decode cL_contest 545 = .ok (.iconst 0, 1) := by decide +kernel
theorem dL_contest_546 : decode cL_contest 546 = .ok (.iconst 1, 1) := by decide +kernel
theorem dL_contest_547 : decode cL_contest 547 = .ok (.iconst 1, 1) := by decide +kernel
theorem dL_contest_548 : decode cL_contest 548 = .ok (.bipush 50, 2) := by decide +kernel
theorem dL_contest_550 : decode cL_contest 550 = .ok (.bipush 10, 2) := by decide +kernel
theorem dL_contest_552 : decode cL_contest 552 = .ok (.invokestatic 116, 3) := by decide +kernel
theorem dL_contest_555 : decode cL_contest 555 = .ok (.ifCond .eq 96, 3) := by decide +kernel
theorem dL_contest_558 : decode cL_contest 558 = .ok (.aload_n 0, 1) := by decide +kernel
theorem dL_contest_559 : decode cL_contest 559 = .ok (.iconst 0, 1) := by decide +kernel
theorem dL_contest_560 : decode cL_contest 560 = .ok (.iconst 0, 1) := by decide +kernel
theorem dL_contest_561 : decode cL_contest 561 = .ok (.iconst 2, 1) := by decide +kernel
theorem dL_contest_562 : decode cL_contest 562 = .ok (.iconst 0, 1) := by decide +kernel
theorem dL_contest_563 : decode cL_contest 563 = .ok (.iconst 0, 1) := by decide +kernel
theorem dL_contest_564 : decode cL_contest 564 = .ok (.iconst 0, 1) := by decide +kernel
theorem dL_contest_565 : decode cL_contest 565 = .ok (.invokestatic 116, 3) := by decide +kernel
theorem dL_contest_568 : decode cL_contest 568 = .ok (.ifCond .eq 83, 3) := by decide +kernel
theorem dL_contest_571 : decode cL_contest 571 = .ok (.aload_n 0, 1) := by decide +kernel
theorem dL_contest_572 : decode cL_contest 572 = .ok (.iconst 5, 1) := by decide +kernel
theorem dL_contest_573 : decode cL_contest 573 = .ok (.iconst 0, 1) := by decide +kernel
theorem dL_contest_574 : decode cL_contest 574 = .ok (.iconst 1, 1) := by decide +kernel
theorem dL_contest_575 : decode cL_contest 575 = .ok (.bipush 40, 2) := by decide +kernel
theorem dL_contest_577 : decode cL_contest 577 = .ok (.invokestatic 81, 3) := by decide +kernel
theorem dL_contest_580 : decode cL_contest 580 = .ok (.bipush 25, 2) := by decide +kernel
theorem dL_contest_582 : decode cL_contest 582 = .ok (.if_icmp .ne 69, 3) := by decide +kernel
theorem dL_contest_585 : decode cL_contest 585 = .ok (.aload_n 0, 1) := by decide +kernel
theorem dL_contest_586 : decode cL_contest 586 = .ok (.iconst 5, 1) := by decide +kernel
theorem dL_contest_587 : decode cL_contest 587 = .ok (.iconst 0, 1) := by decide +kernel
theorem dL_contest_588 : decode cL_contest 588 = .ok (.iconst (-1), 1) := by decide +kernel
theorem dL_contest_589 : decode cL_contest 589 = .ok (.bipush 50, 2) := by decide +kernel
theorem dL_contest_591 : decode cL_contest 591 = .ok (.iconst 2, 1) := by decide +kernel
theorem dL_contest_592 : decode cL_contest 592 = .ok (.invokestatic 113, 3) := by decide +kernel
theorem dL_contest_595 : decode cL_contest 595 = .ok (.ifCond .eq 56, 3) := by decide +kernel
theorem dL_contest_598 : decode cL_contest 598 = .ok (.aload_n 0, 1) := by decide +kernel
theorem dL_contest_599 : decode cL_contest 599 = .ok (.iconst 0, 1) := by decide +kernel
theorem dL_contest_600 : decode cL_contest 600 = .ok (.iconst 1, 1) := by decide +kernel
theorem dL_contest_601 : decode cL_contest 601 = .ok (.invokevirtual 52, 3) := by decide +kernel
theorem dL_contest_604 : decode cL_contest 604 = .ok (.bipush 75, 2) := by decide +kernel
theorem dL_contest_606 : decode cL_contest 606 = .ok (.if_icmp .ne 45, 3) := by decide +kernel
theorem dL_contest_609 : decode cL_contest 609 = .ok (.aload_n 0, 1) := by decide +kernel
theorem dL_contest_610 : decode cL_contest 610 = .ok (.iconst 2, 1) := by decide +kernel
theorem dL_contest_611 : decode cL_contest 611 = .ok (.iconst 2, 1) := by decide +kernel
theorem dL_contest_612 : decode cL_contest 612 = .ok (.invokevirtual 52, 3) := by decide +kernel
theorem dL_contest_615 : decode cL_contest 615 = .ok (.bipush 100, 2) := by decide +kernel
theorem dL_contest_617 : decode cL_contest 617 = .ok (.if_icmp .ne 34, 3) := by decide +kernel
theorem dL_contest_620 : decode cL_contest 620 = .ok (.aload_n 0, 1) := by decide +kernel
theorem dL_contest_621 : decode cL_contest 621 = .ok (.iconst 0, 1) := by decide +kernel
theorem dL_contest_622 : decode cL_contest 622 = .ok (.iconst 2, 1) := by decide +kernel
theorem dL_contest_623 : decode cL_contest 623 = .ok (.invokevirtual 52, 3) := by decide +kernel
theorem dL_contest_626 : decode cL_contest 626 = .ok (.ifCond .ne 25, 3) := by decide +kernel
theorem dL_contest_629 : decode cL_contest 629 = .ok (.aload_n 0, 1) := by decide +kernel
theorem dL_contest_630 : decode cL_contest 630 = .ok (.iconst 0, 1) := by decide +kernel
theorem dL_contest_631 : decode cL_contest 631 = .ok (.iconst 5, 1) := by decide +kernel
theorem dL_contest_632 : decode cL_contest 632 = .ok (.invokevirtual 52, 3) := by decide +kernel
theorem dL_contest_635 : decode cL_contest 635 = .ok (.bipush 100, 2) := by decide +kernel
theorem dL_contest_637 : decode cL_contest 637 = .ok (.if_icmp .ne 14, 3) := by decide +kernel
theorem dL_contest_640 : decode cL_contest 640 = .ok (.aload_n 0, 1) := by decide +kernel
theorem dL_contest_641 : decode cL_contest 641 = .ok (.iconst 3, 1) := by decide +kernel
theorem dL_contest_642 : decode cL_contest 642 = .ok (.iconst 0, 1) := by decide +kernel
theorem dL_contest_643 : decode cL_contest 643 = .ok (.invokevirtual 52, 3) := by decide +kernel
theorem dL_contest_646 : decode cL_contest 646 = .ok (.bipush 25, 2) := by decide +kernel
theorem dL_contest_648 : decode cL_contest 648 = .ok (.if_icmp .eq 5, 3) := by decide +kernel
theorem dL_contest_651 : decode cL_contest 651 = .ok (.iconst 0, 1) := by decide +kernel
theorem dL_contest_652 : decode cL_contest 652 = .ok (.ireturn, 1) := by decide +kernel
theorem dL_contest_653 : decode cL_contest 653 = .ok (.aload_n 0, 1) := by decide +kernel
theorem dL_contest_654 : decode cL_contest 654 = .ok (.iconst 0, 1) := by decide +kernel
theorem dL_contest_655 : decode cL_contest 655 = .ok (.iconst 1, 1) := by decide +kernel
theorem dL_contest_656 : decode cL_contest 656 = .ok (.invokevirtual 34, 3) := by decide +kernel
theorem dL_contest_659 : decode cL_contest 659 = .ok (.iconst 3, 1) := by decide +kernel
theorem dL_contest_660 : decode cL_contest 660 = .ok (.if_icmp .ne 126, 3) := by decide +kernel
theorem dL_contest_663 : decode cL_contest 663 = .ok (.aload_n 0, 1) := by decide +kernel
theorem dL_contest_664 : decode cL_contest 664 = .ok (.iconst 0, 1) := by decide +kernel
theorem dL_contest_665 : decode cL_contest 665 = .ok (.invokevirtual 46, 3) := by decide +kernel
theorem dL_contest_668 : decode cL_contest 668 = .ok (.bipush 6, 2) := by decide +kernel
theorem dL_contest_670 : decode cL_contest 670 = .ok (.if_icmp .ne 116, 3) := by decide +kernel
theorem dL_contest_673 : decode cL_contest 673 = .ok (.aload_n 0, 1) := by decide +kernel
theorem dL_contest_674 : decode cL_contest 674 = .ok (.iconst 0, 1) := by decide +kernel
theorem dL_contest_675 : decode cL_contest 675 = .ok (.invokevirtual 46, 3) := by decide +kernel
theorem dL_contest_678 : decode cL_contest 678 = .ok (.ifCond .ne 108, 3) := by decide +kernel
theorem dL_contest_681 : decode cL_contest 681 = .ok (.aload_n 0, 1) := by decide +kernel
theorem dL_contest_682 : decode cL_contest 682 = .ok (.iconst 0, 1) := by decide +kernel
theorem dL_contest_683 : decode cL_contest 683 = .ok (.iconst (-1), 1) := by decide +kernel
theorem dL_contest_684 : decode cL_contest 684 = .ok (.iconst (-1), 1) := by decide +kernel
theorem dL_contest_685 : decode cL_contest 685 = .ok (.iconst 0, 1) := by decide +kernel
theorem dL_contest_686 : decode cL_contest 686 = .ok (.iconst (-1), 1) := by decide +kernel
theorem dL_contest_687 : decode cL_contest 687 = .ok (.invokestatic 113, 3) := by decide +kernel
theorem dL_contest_690 : decode cL_contest 690 = .ok (.ifCond .eq 96, 3) := by decide +kernel
theorem dL_contest_693 : decode cL_contest 693 = .ok (.aload_n 0, 1) := by decide +kernel
theorem dL_contest_694 : decode cL_contest 694 = .ok (.iconst 2, 1) := by decide +kernel
theorem dL_contest_695 : decode cL_contest 695 = .ok (.iconst 0, 1) := by decide +kernel
theorem dL_contest_696 : decode cL_contest 696 = .ok (.iconst 1, 1) := by decide +kernel
theorem dL_contest_697 : decode cL_contest 697 = .ok (.invokevirtual 60, 3) := by decide +kernel
theorem dL_contest_700 : decode cL_contest 700 = .ok (.ifCond .ne 86, 3) := by decide +kernel
theorem dL_contest_703 : decode cL_contest 703 = .ok (.aload_n 0, 1) := by decide +kernel
theorem dL_contest_704 : decode cL_contest 704 = .ok (.invokevirtual 107, 3) := by decide +kernel
theorem dL_contest_707 : decode cL_contest 707 = .ok (.ifCond .ne 79, 3) := by decide +kernel
theorem dL_contest_710 : decode cL_contest 710 = .ok (.aload_n 0, 1) := by decide +kernel
theorem dL_contest_711 : decode cL_contest 711 = .ok (.iconst 0, 1) := by decide +kernel
theorem dL_contest_712 : decode cL_contest 712 = .ok (.iconst 0, 1) := by decide +kernel
theorem dL_contest_713 : decode cL_contest 713 = .ok (.iconst (-1), 1) := by decide +kernel
theorem dL_contest_714 : decode cL_contest 714 = .ok (.bipush 65, 2) := by decide +kernel
theorem dL_contest_716 : decode cL_contest 716 = .ok (.iconst 3, 1) := by decide +kernel
theorem dL_contest_717 : decode cL_contest 717 = .ok (.invokestatic 113, 3) := by decide +kernel
theorem dL_contest_720 : decode cL_contest 720 = .ok (.ifCond .eq 66, 3) := by decide +kernel
theorem dL_contest_723 : decode cL_contest 723 = .ok (.aload_n 0, 1) := by decide +kernel
theorem dL_contest_724 : decode cL_contest 724 = .ok (.invokevirtual 107, 3) := by decide +kernel
theorem dL_contest_727 : decode cL_contest 727 = .ok (.iconst 3, 1) := by decide +kernel
theorem dL_contest_728 : decode cL_contest 728 = .ok (.if_icmp .ne 58, 3) := by decide +kernel
theorem dL_contest_731 : decode cL_contest 731 = .ok (.aload_n 0, 1) := by decide +kernel
theorem dL_contest_732 : decode cL_contest 732 = .ok (.invokevirtual 107, 3) := by decide +kernel
theorem dL_contest_735 : decode cL_contest 735 = .ok (.iconst 1, 1) := by decide +kernel
theorem dL_contest_736 : decode cL_contest 736 = .ok (.if_icmp .ne 50, 3) := by decide +kernel
theorem dL_contest_739 : decode cL_contest 739 = .ok (.aload_n 0, 1) := by decide +kernel
theorem dL_contest_740 : decode cL_contest 740 = .ok (.invokevirtual 107, 3) := by decide +kernel
theorem dL_contest_743 : decode cL_contest 743 = .ok (.iconst 4, 1) := by decide +kernel
theorem dL_contest_744 : decode cL_contest 744 = .ok (.if_icmp .ne 42, 3) := by decide +kernel
theorem dL_contest_747 : decode cL_contest 747 = .ok (.aload_n 0, 1) := by decide +kernel
theorem dL_contest_748 : decode cL_contest 748 = .ok (.invokevirtual 107, 3) := by decide +kernel
theorem dL_contest_751 : decode cL_contest 751 = .ok (.iconst 2, 1) := by decide +kernel
theorem dL_contest_752 : decode cL_contest 752 = .ok (.if_icmp .ne 34, 3) := by decide +kernel
theorem dL_contest_755 : decode cL_contest 755 = .ok (.aload_n 0, 1) := by decide +kernel
theorem dL_contest_756 : decode cL_contest 756 = .ok (.invokevirtual 107, 3) := by decide +kernel
theorem dL_contest_759 : decode cL_contest 759 = .ok (.iconst 5, 1) := by decide +kernel
theorem dL_contest_760 : decode cL_contest 760 = .ok (.if_icmp .ne 26, 3) := by decide +kernel
theorem dL_contest_763 : decode cL_contest 763 = .ok (.aload_n 0, 1) := by decide +kernel
theorem dL_contest_764 : decode cL_contest 764 = .ok (.invokevirtual 107, 3) := by decide +kernel
theorem dL_contest_767 : decode cL_contest 767 = .ok (.iconst (-1), 1) := by decide +kernel
theorem dL_contest_768 : decode cL_contest 768 = .ok (.if_icmp .ne 18, 3) := by decide +kernel
theorem dL_contest_771 : decode cL_contest 771 = .ok (.aload_n 0, 1) := by decide +kernel
theorem dL_contest_772 : decode cL_contest 772 = .ok (.iconst 3, 1) := by decide +kernel
theorem dL_contest_773 : decode cL_contest 773 = .ok (.iconst 0, 1) := by decide +kernel
theorem dL_contest_774 : decode cL_contest 774 = .ok (.iconst 1, 1) := by decide +kernel
theorem dL_contest_775 : decode cL_contest 775 = .ok (.iconst 1, 1) := by decide +kernel
theorem dL_contest_776 : decode cL_contest 776 = .ok (.bipush 50, 2) := by decide +kernel
theorem dL_contest_778 : decode cL_contest 778 = .ok (.bipush 10, 2) := by decide +kernel
theorem dL_contest_780 : decode cL_contest 780 = .ok (.invokestatic 116, 3) := by decide +kernel
theorem dL_contest_783 : decode cL_contest 783 = .ok (.ifCond .ne 5, 3) := by decide +kernel
theorem dL_contest_786 : decode cL_contest 786 = .ok (.iconst 0, 1) := by decide +kernel
theorem dL_contest_787 : decode cL_contest 787 = .ok (.ireturn, 1) := by decide +kernel
theorem dL_contest_788 : decode cL_contest 788 = .ok (.aload_n 0, 1) := by decide +kernel
theorem dL_contest_789 : decode cL_contest 789 = .ok (.bipush 50, 2) := by decide +kernel
theorem dL_contest_791 : decode cL_contest 791 = .ok (.iconst 2, 1) := by decide +kernel
theorem dL_contest_792 : decode cL_contest 792 = .ok (.invokestatic 90, 3) := by decide +kernel
theorem dL_contest_795 : decode cL_contest 795 = .ok (.iconst 2, 1) := by decide +kernel
theorem dL_contest_796 : decode cL_contest 796 = .ok (.if_icmp .ne 326, 3) := by decide +kernel
theorem dL_contest_799 : decode cL_contest 799 = .ok (.aload_n 0, 1) := by decide +kernel
theorem dL_contest_800 : decode cL_contest 800 = .ok (.bipush 7, 2) := by decide +kernel
theorem dL_contest_802 : decode cL_contest 802 = .ok (.bipush (-9), 2) := by decide +kernel
theorem dL_contest_804 : decode cL_contest 804 = .ok (.invokevirtual 13, 3) := by decide +kernel
theorem dL_contest_807 : decode cL_contest 807 = .ok (.iconst 3, 1) := by decide +kernel
theorem dL_contest_808 : decode cL_contest 808 = .ok (.if_icmp .ne 314, 3) := by decide +kernel
theorem dL_contest_811 : decode cL_contest 811 = .ok (.aload_n 0, 1) := by decide +kernel
theorem dL_contest_812 : decode cL_contest 812 = .ok (.sipush 920, 3) := by decide +kernel
theorem dL_contest_815 : decode cL_contest 815 = .ok (.iconst 3, 1) := by decide +kernel
theorem dL_contest_816 : decode cL_contest 816 = .ok (.invokestatic 90, 3) := by decide +kernel
theorem dL_contest_819 : decode cL_contest 819 = .ok (.bipush 6, 2) := by decide +kernel
theorem dL_contest_821 : decode cL_contest 821 = .ok (.if_icmp .ne 301, 3) := by decide +kernel
theorem dL_contest_824 : decode cL_contest 824 = .ok (.aload_n 0, 1) := by decide +kernel
theorem dL_contest_825 : decode cL_contest 825 = .ok (.iconst 5, 1) := by decide +kernel
theorem dL_contest_826 : decode cL_contest 826 = .ok (.iconst 0, 1) := by decide +kernel
theorem dL_contest_827 : decode cL_contest 827 = .ok (.invokevirtual 40, 3) := by decide +kernel
theorem dL_contest_830 : decode cL_contest 830 = .ok (.bipush 6, 2) := by decide +kernel
theorem dL_contest_832 : decode cL_contest 832 = .ok (.if_icmp .ne 290, 3) := by decide +kernel
theorem dL_contest_835 : decode cL_contest 835 = .ok (.aload_n 0, 1) := by decide +kernel
theorem dL_contest_836 : decode cL_contest 836 = .ok (.invokevirtual 107, 3) := by decide +kernel
theorem dL_contest_839 : decode cL_contest 839 = .ok (.bipush 6, 2) := by decide +kernel
theorem dL_contest_841 : decode cL_contest 841 = .ok (.if_icmp .ne 281, 3) := by decide +kernel
theorem dL_contest_844 : decode cL_contest 844 = .ok (.aload_n 0, 1) := by decide +kernel
theorem dL_contest_845 : decode cL_contest 845 = .ok (.bipush 6, 2) := by decide +kernel
theorem dL_contest_847 : decode cL_contest 847 = .ok (.iconst 0, 1) := by decide +kernel
theorem dL_contest_848 : decode cL_contest 848 = .ok (.iconst (-1), 1) := by decide +kernel
theorem dL_contest_849 : decode cL_contest 849 = .ok (.bipush 65, 2) := by decide +kernel
theorem dL_contest_851 : decode cL_contest 851 = .ok (.iconst 3, 1) := by decide +kernel
theorem dL_contest_852 : decode cL_contest 852 = .ok (.invokestatic 113, 3) := by decide +kernel
theorem dL_contest_855 : decode cL_contest 855 = .ok (.ifCond .eq 267, 3) := by decide +kernel
theorem dL_contest_858 : decode cL_contest 858 = .ok (.aload_n 0, 1) := by decide +kernel
theorem dL_contest_859 : decode cL_contest 859 = .ok (.bipush 16, 2) := by decide +kernel
theorem dL_contest_861 : decode cL_contest 861 = .ok (.iconst 2, 1) := by decide +kernel
theorem dL_contest_862 : decode cL_contest 862 = .ok (.bipush 6, 2) := by decide +kernel
theorem dL_contest_864 : decode cL_contest 864 = .ok (.iconst 0, 1) := by decide +kernel
theorem dL_contest_865 : decode cL_contest 865 = .ok (.invokestatic 81, 3) := by decide +kernel
theorem dL_contest_868 : decode cL_contest 868 = .ok (.ldc 79, 2) := by decide +kernel
theorem dL_contest_870 : decode cL_contest 870 = .ok (.if_icmp .ne 252, 3) := by decide +kernel
theorem dL_contest_873 : decode cL_contest 873 = .ok (.aload_n 0, 1) := by decide +kernel
theorem dL_contest_874 : decode cL_contest 874 = .ok (.iconst 1, 1) := by decide +kernel
theorem dL_contest_875 : decode cL_contest 875 = .ok (.invokevirtual 17, 3) := by decide +kernel
theorem dL_contest_878 : decode cL_contest 878 = .ok (.iconst 1, 1) := by decide +kernel
theorem dL_contest_879 : decode cL_contest 879 = .ok (.if_icmp .ne 243, 3) := by decide +kernel
theorem dL_contest_882 : decode cL_contest 882 = .ok (.aload_n 0, 1) := by decide +kernel
theorem dL_contest_883 : decode cL_contest 883 = .ok (.iconst 1, 1) := by decide +kernel
theorem dL_contest_884 : decode cL_contest 884 = .ok (.invokevirtual 17, 3) := by decide +kernel
theorem dL_contest_887 : decode cL_contest 887 = .ok (.iconst 2, 1) := by decide +kernel
theorem dL_contest_888 : decode cL_contest 888 = .ok (.if_icmp .ne 234, 3) := by decide +kernel
theorem dL_contest_891 : decode cL_contest 891 = .ok (.aload_n 0, 1) := by decide +kernel
theorem dL_contest_892 : decode cL_contest 892 = .ok (.bipush 16, 2) := by decide +kernel
theorem dL_contest_894 : decode cL_contest 894 = .ok (.iconst 4, 1) := by decide +kernel
theorem dL_contest_895 : decode cL_contest 895 = .ok (.bipush 6, 2) := by decide +kernel
theorem dL_contest_897 : decode cL_contest 897 = .ok (.iconst 0, 1) := by decide +kernel
theorem dL_contest_898 : decode cL_contest 898 = .ok (.invokestatic 81, 3) := by decide +kernel
theorem dL_contest_901 : decode cL_contest 901 = .ok (.ldc 79, 2) := by decide +kernel
theorem dL_contest_903 : decode cL_contest 903 = .ok (.if_icmp .ne 219, 3) := by decide +kernel
theorem dL_contest_906 : decode cL_contest 906 = .ok (.aload_n 0, 1) := by decide +kernel
theorem dL_contest_907 : decode cL_contest 907 = .ok (.bipush 16, 2) := by decide +kernel
theorem dL_contest_909 : decode cL_contest 909 = .ok (.iconst 5, 1) := by decide +kernel
theorem dL_contest_910 : decode cL_contest 910 = .ok (.bipush 6, 2) := by decide +kernel
theorem dL_contest_912 : decode cL_contest 912 = .ok (.iconst 0, 1) := by decide +kernel
theorem dL_contest_913 : decode cL_contest 913 = .ok (.invokestatic 81, 3) := by decide +kernel
theorem dL_contest_916 : decode cL_contest 916 = .ok (.ldc 79, 2) := by decide +kernel
theorem dL_contest_918 : decode cL_contest 918 = .ok (.if_icmp .ne 204, 3) := by decide +kernel
theorem dL_contest_921 : decode cL_contest 921 = .ok (.aload_n 0, 1) := by decide +kernel
theorem dL_contest_922 : decode cL_contest 922 = .ok (.bipush 16, 2) := by decide +kernel
theorem dL_contest_924 : decode cL_contest 924 = .ok (.iconst 2, 1) := by decide +kernel
theorem dL_contest_925 : decode cL_contest 925 = .ok (.iconst 1, 1) := by decide +kernel
theorem dL_contest_926 : decode cL_contest 926 = .ok (.iconst 0, 1) := by decide +kernel
theorem dL_contest_927 : decode cL_contest 927 = .ok (.invokestatic 81, 3) := by decide +kernel
theorem dL_contest_930 : decode cL_contest 930 = .ok (.ldc 79, 2) := by decide +kernel
theorem dL_contest_932 : decode cL_contest 932 = .ok (.if_icmp .ne 190, 3) := by decide +kernel
theorem dL_contest_935 : decode cL_contest 935 = .ok (.aload_n 0, 1) := by decide +kernel
theorem dL_contest_936 : decode cL_contest 936 = .ok (.iconst 2, 1) := by decide +kernel
theorem dL_contest_937 : decode cL_contest 937 = .ok (.bipush 6, 2) := by decide +kernel
theorem dL_contest_939 : decode cL_contest 939 = .ok (.invokevirtual 67, 3) := by decide +kernel
theorem dL_contest_942 : decode cL_contest 942 = .ok (.ifCond .ne 180, 3) := by decide +kernel
theorem dL_contest_945 : decode cL_contest 945 = .ok (.aload_n 0, 1) := by decide +kernel
theorem dL_contest_946 : decode cL_contest 946 = .ok (.iconst 2, 1) := by decide +kernel
theorem dL_contest_947 : decode cL_contest 947 = .ok (.iconst 0, 1) := by decide +kernel
theorem dL_contest_948 : decode cL_contest 948 = .ok (.iconst 4, 1) := by decide +kernel
theorem dL_contest_949 : decode cL_contest 949 = .ok (.invokevirtual 60, 3) := by decide +kernel
theorem dL_contest_952 : decode cL_contest 952 = .ok (.iconst (-1), 1) := by decide +kernel
theorem dL_contest_953 : decode cL_contest 953 = .ok (.if_icmp .ne 169, 3) := by decide +kernel
theorem dL_contest_956 : decode cL_contest 956 = .ok (.aload_n 0, 1) := by decide +kernel
theorem dL_contest_957 : decode cL_contest 957 = .ok (.iconst 0, 1) := by decide +kernel
theorem dL_contest_958 : decode cL_contest 958 = .ok (.iconst 1, 1) := by decide +kernel
theorem dL_contest_959 : decode cL_contest 959 = .ok (.iconst 0, 1) := by decide +kernel
theorem dL_contest_960 : decode cL_contest 960 = .ok (.invokevirtual 37, 3) := by decide +kernel
theorem dL_contest_963 : decode cL_contest 963 = .ok (.iconst (-1), 1) := by decide +kernel
theorem dL_contest_964 : decode cL_contest 964 = .ok (.if_icmp .ne 158, 3) := by decide +kernel
theorem dL_contest_967 : decode cL_contest 967 = .ok (.aload_n 0, 1) := by decide +kernel
theorem dL_contest_968 : decode cL_contest 968 = .ok (.bipush 7, 2) := by decide +kernel
theorem dL_contest_970 : decode cL_contest 970 = .ok (.iconst 0, 1) := by decide +kernel
theorem dL_contest_971 : decode cL_contest 971 = .ok (.iconst 2, 1) := by decide +kernel
theorem dL_contest_972 : decode cL_contest 972 = .ok (.iconst 0, 1) := by decide +kernel
theorem dL_contest_973 : decode cL_contest 973 = .ok (.invokestatic 81, 3) := by decide +kernel
theorem dL_contest_976 : decode cL_contest 976 = .ok (.ldc 73, 2) := by decide +kernel
theorem dL_contest_978 : decode cL_contest 978 = .ok (.if_icmp .ne 144, 3) := by decide +kernel
theorem dL_contest_981 : decode cL_contest 981 = .ok (.aload_n 0, 1) := by decide +kernel
theorem dL_contest_982 : decode cL_contest 982 = .ok (.iconst 0, 1) := by decide +kernel
theorem dL_contest_983 : decode cL_contest 983 = .ok (.invokevirtual 17, 3) := by decide +kernel
theorem dL_contest_986 : decode cL_contest 986 = .ok (.iconst 1, 1) := by decide +kernel
theorem dL_contest_987 : decode cL_contest 987 = .ok (.if_icmp .ne 135, 3) := by decide +kernel
theorem dL_contest_990 : decode cL_contest 990 = .ok (.aload_n 0, 1) := by decide +kernel
theorem dL_contest_991 : decode cL_contest 991 = .ok (.iconst 5, 1) := by decide +kernel
theorem dL_contest_992 : decode cL_contest 992 = .ok (.invokevirtual 17, 3) := by decide +kernel
theorem dL_contest_995 : decode cL_contest 995 = .ok (.iconst 2, 1) := by decide +kernel
theorem dL_contest_996 : decode cL_contest 996 = .ok (.if_icmp .ne 126, 3) := by decide +kernel
theorem dL_contest_999 : decode cL_contest 999 = .ok (.aload_n 0, 1) := by decide +kernel
theorem dL_contest_1000 : decode cL_contest 1000 = .ok (.iconst 2, 1) := by decide +kernel
theorem dL_contest_1001 : decode cL_contest 1001 = .ok (.bipush 6, 2) := by decide +kernel
theorem dL_contest_1003 : decode cL_contest 1003 = .ok (.invokevirtual 67, 3) := by decide +kernel
theorem dL_contest_1006 : decode cL_contest 1006 = .ok (.ifCond .eq 116, 3) := by decide +kernel
theorem dL_contest_1009 : decode cL_contest 1009 = .ok (.aload_n 0, 1) := by decide +kernel
theorem dL_contest_1010 : decode cL_contest 1010 = .ok (.iconst 2, 1) := by decide +kernel
theorem dL_contest_1011 : decode cL_contest 1011 = .ok (.iconst 1, 1) := by decide +kernel
theorem dL_contest_1012 : decode cL_contest 1012 = .ok (.iconst 4, 1) := by decide +kernel
theorem dL_contest_1013 : decode cL_contest 1013 = .ok (.invokevirtual 60, 3) := by decide +kernel
theorem dL_contest_1016 : decode cL_contest 1016 = .ok (.ifCond .ne 106, 3) := by decide +kernel
theorem dL_contest_1019 : decode cL_contest 1019 = .ok (.aload_n 0, 1) := by decide +kernel
theorem dL_contest_1020 : decode cL_contest 1020 = .ok (.iconst 0, 1) := by decide +kernel
theorem dL_contest_1021 : decode cL_contest 1021 = .ok (.iconst 2, 1) := by decide +kernel
theorem dL_contest_1022 : decode cL_contest 1022 = .ok (.iconst 0, 1) := by decide +kernel
theorem dL_contest_1023 : decode cL_contest 1023 = .ok (.invokevirtual 37, 3) := by decide +kernel
theorem dL_contest_1026 : decode cL_contest 1026 = .ok (.iconst 5, 1) := by decide +kernel
theorem dL_contest_1027 : decode cL_contest 1027 = .ok (.if_icmp .ne 95, 3) := by decide +kernel
theorem dL_contest_1030 : decode cL_contest 1030 = .ok (.aload_n 0, 1) := by decide +kernel
theorem dL_contest_1031 : decode cL_contest 1031 = .ok (.bipush 6, 2) := by decide +kernel
theorem dL_contest_1033 : decode cL_contest 1033 = .ok (.iconst 4, 1) := by decide +kernel
theorem dL_contest_1034 : decode cL_contest 1034 = .ok (.iconst 2, 1) := by decide +kernel
theorem dL_contest_1035 : decode cL_contest 1035 = .ok (.bipush 65, 2) := by decide +kernel
theorem dL_contest_1037 : decode cL_contest 1037 = .ok (.iconst 4, 1) := by decide +kernel
theorem dL_contest_1038 : decode cL_contest 1038 = .ok (.invokestatic 113, 3) := by decide +kernel
theorem dL_contest_1041 : decode cL_contest 1041 = .ok (.ifCond .eq 81, 3) := by decide +kernel
theorem dL_contest_1044 : decode cL_contest 1044 = .ok (.aload_n 0, 1) := by decide +kernel
theorem dL_contest_1045 : decode cL_contest 1045 = .ok (.iconst 0, 1) := by decide +kernel
theorem dL_contest_1046 : decode cL_contest 1046 = .ok (.iconst 0, 1) := by decide +kernel
theorem dL_contest_1047 : decode cL_contest 1047 = .ok (.iconst (-1), 1) := by decide +kernel
theorem dL_contest_1048 : decode cL_contest 1048 = .ok (.bipush 65, 2) := by decide +kernel
theorem dL_contest_1050 : decode cL_contest 1050 = .ok (.iconst 3, 1) := by decide +kernel
theorem dL_contest_1051 : decode cL_contest 1051 = .ok (.invokestatic 113, 3) := by decide +kernel
theorem dL_contest_1054 : decode cL_contest 1054 = .ok (.ifCond .eq 68, 3) := by decide +kernel
theorem dL_contest_1057 : decode cL_contest 1057 = .ok (.aload_n 0, 1) := by decide +kernel
theorem dL_contest_1058 : decode cL_contest 1058 = .ok (.iconst 5, 1) := by decide +kernel
theorem dL_contest_1059 : decode cL_contest 1059 = .ok (.iconst 0, 1) := by decide +kernel
theorem dL_contest_1060 : decode cL_contest 1060 = .ok (.iconst 5, 1) := by decide +kernel
theorem dL_contest_1061 : decode cL_contest 1061 = .ok (.iconst 0, 1) := by decide +kernel
theorem dL_contest_1062 : decode cL_contest 1062 = .ok (.iconst 0, 1) := by decide +kernel
theorem dL_contest_1063 : decode cL_contest 1063 = .ok (.iconst 0, 1) := by decide +kernel
theorem dL_contest_1064 : decode cL_contest 1064 = .ok (.invokestatic 116, 3) := by decide +kernel
theorem dL_contest_1067 : decode cL_contest 1067 = .ok (.ifCond .eq 55, 3) := by decide +kernel
theorem dL_contest_1070 : decode cL_contest 1070 = .ok (.aload_n 0, 1) := by decide +kernel
theorem dL_contest_1071 : decode cL_contest 1071 = .ok (.bipush 7, 2) := by decide +kernel
theorem dL_contest_1073 : decode cL_contest 1073 = .ok (.invokevirtual 17, 3) := by decide +kernel
theorem dL_contest_1076 : decode cL_contest 1076 = .ok (.iconst 1, 1) := by decide +kernel
theorem dL_contest_1077 : decode cL_contest 1077 = .ok (.if_icmp .ne 45, 3) := by decide +kernel
theorem dL_contest_1080 : decode cL_contest 1080 = .ok (.aload_n 0, 1) := by decide +kernel
theorem dL_contest_1081 : decode cL_contest 1081 = .ok (.invokevirtual 94, 3) := by decide +kernel
theorem dL_contest_1084 : decode cL_contest 1084 = .ok (.ifCond .ne 38, 3) := by decide +kernel
theorem dL_contest_1087 : decode cL_contest 1087 = .ok (.aload_n 0, 1) := by decide +kernel
theorem dL_contest_1088 : decode cL_contest 1088 = .ok (.bipush 16, 2) := by decide +kernel
theorem dL_contest_1090 : decode cL_contest 1090 = .ok (.iconst 2, 1) := by decide +kernel
theorem dL_contest_1091 : decode cL_contest 1091 = .ok (.bipush 6, 2) := by decide +kernel
theorem dL_contest_1093 : decode cL_contest 1093 = .ok (.iconst 0, 1) := by decide +kernel
theorem dL_contest_1094 : decode cL_contest 1094 = .ok (.invokestatic 81, 3) := by decide +kernel
theorem dL_contest_1097 : decode cL_contest 1097 = .ok (.ldc 79, 2) := by decide +kernel
theorem dL_contest_1099 : decode cL_contest 1099 = .ok (.if_icmp .ne 23, 3) := by decide +kernel
theorem dL_contest_1102 : decode cL_contest 1102 = .ok (.aload_n 0, 1) := by decide +kernel
theorem dL_contest_1103 : decode cL_contest 1103 = .ok (.iconst 0, 1) := by decide +kernel
theorem dL_contest_1104 : decode cL_contest 1104 = .ok (.invokevirtual 46, 3) := by decide +kernel
theorem dL_contest_1107 : decode cL_contest 1107 = .ok (.bipush 6, 2) := by decide +kernel
theorem dL_contest_1109 : decode cL_contest 1109 = .ok (.if_icmp .ne 13, 3) := by decide +kernel
theorem dL_contest_1112 : decode cL_contest 1112 = .ok (.aload_n 0, 1) := by decide +kernel
theorem dL_contest_1113 : decode cL_contest 1113 = .ok (.iconst 1, 1) := by decide +kernel
theorem dL_contest_1114 : decode cL_contest 1114 = .ok (.bipush 7, 2) := by decide +kernel
theorem dL_contest_1116 : decode cL_contest 1116 = .ok (.invokestatic 99, 3) := by decide +kernel
theorem dL_contest_1119 : decode cL_contest 1119 = .ok (.ifCond .ne 5, 3) := by decide +kernel
theorem dL_contest_1122 : decode cL_contest 1122 = .ok (.iconst 0, 1) := by decide +kernel
theorem dL_contest_1123 : decode cL_contest 1123 = .ok (.ireturn, 1) := by decide +kernel
theorem dL_contest_1124 : decode cL_contest 1124 = .ok (.aload_n 0, 1) := by decide +kernel
theorem dL_contest_1125 : decode cL_contest 1125 = .ok (.invokestatic 119, 3) := by decide +kernel
theorem dL_contest_1128 : decode cL_contest 1128 = .ok (.ifCond .eq 19, 3) := by decide +kernel
theorem dL_contest_1131 : decode cL_contest 1131 = .ok (.invokestatic 123, 3) := by decide +kernel
theorem dL_contest_1134 : decode cL_contest 1134 = .ok (.ifCond .eq 13, 3) := by decide +kernel
theorem dL_contest_1137 : decode cL_contest 1137 = .ok (.invokestatic 126, 3) := by decide +kernel
theorem dL_contest_1140 : decode cL_contest 1140 = .ok (.ifCond .eq 7, 3) := by decide +kernel
theorem dL_contest_1143 : decode cL_contest 1143 = .ok (.iconst 1, 1) := by decide +kernel
theorem dL_contest_1144 : decode cL_contest 1144 = .ok (.goto 4, 3) := by decide +kernel
theorem dL_contest_1147 : decode cL_contest 1147 = .ok (.iconst 0, 1) := by decide +kernel
theorem dL_contest_1148 : decode cL_contest 1148 = .ok (.ireturn, 1) := by decide +kernel
theorem dL_boards_0 : decode cL_boards 0 = .ok (.iconst 0, 1) := by decide +kernel
theorem dL_boards_1 : decode cL_boards 1 = .ok (.istore_n 1, 1) := by decide +kernel
theorem dL_boards_2 : decode cL_boards 2 = .ok (.iload_n 1, 1) := by decide +kernel
theorem dL_boards_3 : decode cL_boards 3 = .ok (.bipush 6, 2) := by decide +kernel
theorem dL_boards_5 : decode cL_boards 5 = .ok (.if_icmp .ge 18, 3) := by decide +kernel
theorem dL_boards_8 : decode cL_boards 8 = .ok (.aload_n 0, 1) := by decide +kernel
theorem dL_boards_9 : decode cL_boards 9 = .ok (.invokevirtual 107, 3) := by decide +kernel
theorem dL_boards_12 : decode cL_boards 12 = .ok (.ifCond .ge 5, 3) := by decide +kernel
theorem dL_boards_15 : decode cL_boards 15 = .ok (.iconst 0, 1) := by decide +kernel
theorem dL_boards_16 : decode cL_boards 16 = .ok (.ireturn, 1) := by decide +kernel
theorem dL_boards_17 : decode cL_boards 17 = .ok (.iinc 1 1, 3) := by decide +kernel
theorem dL_boards_20 : decode cL_boards 20 = .ok (.goto (-18), 3) := by decide +kernel
theorem dL_boards_23 : decode cL_boards 23 = .ok (.aload_n 0, 1) := by decide +kernel
theorem dL_boards_24 : decode cL_boards 24 = .ok (.invokevirtual 107, 3) := by decide +kernel
theorem dL_boards_27 : decode cL_boards 27 = .ok (.iconst (-1), 1) := by decide +kernel
theorem dL_boards_28 : decode cL_boards 28 = .ok (.if_icmp .ne 292, 3) := by decide +kernel
theorem dL_boards_31 : decode cL_boards 31 = .ok (.aload_n 0, 1) := by decide +kernel
theorem dL_boards_32 : decode cL_boards 32 = .ok (.iconst 0, 1) := by decide +kernel
theorem dL_boards_33 : decode cL_boards 33 = .ok (.iconst 0, 1) := by decide +kernel
theorem dL_boards_34 : decode cL_boards 34 = .ok (.iconst (-1), 1) := by decide +kernel
theorem dL_boards_35 : decode cL_boards 35 = .ok (.bipush 90, 2) := by decide +kernel
theorem dL_boards_37 : decode cL_boards 37 = .ok (.iconst 4, 1) := by decide +kernel
theorem dL_boards_38 : decode cL_boards 38 = .ok (.invokestatic 113, 3) := by decide +kernel
theorem dL_boards_41 : decode cL_boards 41 = .ok (.ifCond .eq 279, 3) := by decide +kernel
theorem dL_boards_44 : decode cL_boards 44 = .ok (.aload_n 0, 1) := by decide +kernel
theorem dL_boards_45 : decode cL_boards 45 = .ok (.iconst 5, 1) := by decide +kernel
theorem dL_boards_46 : decode cL_boards 46 = .ok (.iconst 0, 1) := by decide +kernel
theorem dL_boards_47 : decode cL_boards 47 = .ok (.iconst (-1), 1) := by decide +kernel
theorem dL_boards_48 : decode cL_boards 48 = .ok (.bipush 90, 2) := by decide +kernel
theorem dL_boards_50 : decode cL_boards 50 = .ok (.iconst 4, 1) := by decide +kernel
theorem dL_boards_51 : decode cL_boards 51 = .ok (.invokestatic 113, 3) := by decide +kernel
theorem dL_boards_54 : decode cL_boards 54 = .ok (.ifCond .eq 266, 3) := by decide +kernel
theorem dL_boards_57 : decode cL_boards 57 = .ok (.aload_n 0, 1) := by decide +kernel
theorem dL_boards_58 : decode cL_boards 58 = .ok (.bipush 10, 2) := by decide +kernel
theorem dL_boards_60 : decode cL_boards 60 = .ok (.invokestatic 55, 3) := by decide +kernel
theorem dL_boards_63 : decode cL_boards 63 = .ok (.iconst 1, 1) := by decide +kernel
theorem dL_boards_64 : decode cL_boards 64 = .ok (.if_icmp .ne 256, 3) := by decide +kernel
theorem dL_boards_67 : decode cL_boards 67 = .ok (.aload_n 0, 1) := by decide +kernel
theorem dL_boards_68 : decode cL_boards 68 = .ok (.iconst 2, 1) := by decide +kernel
theorem dL_boards_69 : decode cL_boards 69 = .ok (.iconst 1, 1) := by decide +kernel
theorem dL_boards_70 : decode cL_boards 70 = .ok (.iconst 0, 1) := by decide +kernel
theorem dL_boards_71 : decode cL_boards 71 = .ok (.iconst 1, 1) := by decide +kernel
theorem dL_boards_72 : decode cL_boards 72 = .ok (.iconst 0, 1) := by decide +kernel
theorem dL_boards_73 : decode cL_boards 73 = .ok (.iconst 0, 1) := by decide +kernel
theorem dL_boards_74 : decode cL_boards 74 = .ok (.invokestatic 116, 3) := by decide +kernel
theorem dL_boards_77 : decode cL_boards 77 = .ok (.ifCond .eq 243, 3) := by decide +kernel
theorem dL_boards_80 : decode cL_boards 80 = .ok (.aload_n 0, 1) := by decide +kernel
theorem dL_boards_81 : decode cL_boards 81 = .ok (.iconst 3, 1) := by decide +kernel
theorem dL_boards_82 : decode cL_boards 82 = .ok (.iconst 1, 1) := by decide +kernel
theorem dL_boards_83 : decode cL_boards 83 = .ok (.iconst 3, 1) := by decide +kernel
theorem dL_boards_84 : decode cL_boards 84 = .ok (.iconst 0, 1) := by decide +kernel
theorem dL_boards_85 : decode cL_boards 85 = .ok (.iconst 0, 1) := by decide +kernel
theorem dL_boards_86 : decode cL_boards 86 = .ok (.iconst 0, 1) := by decide +kernel
theorem dL_boards_87 : decode cL_boards 87 = .ok (.invokestatic 116, 3) := by decide +kernel
theorem dL_boards_90 : decode cL_boards 90 = .ok (.ifCond .eq 230, 3) := by decide +kernel
theorem dL_boards_93 : decode cL_boards 93 = .ok (.aload_n 0, 1) := by decide +kernel
theorem dL_boards_94 : decode cL_boards 94 = .ok (.iconst 3, 1) := by decide +kernel
theorem dL_boards_95 : decode cL_boards 95 = .ok (.iconst 0, 1) := by decide +kernel
theorem dL_boards_96 : decode cL_boards 96 = .ok (.iconst 1, 1) := by decide +kernel
theorem dL_boards_97 : decode cL_boards 97 = .ok (.iconst 1, 1) := by decide +kernel
theorem dL_boards_98 : decode cL_boards 98 = .ok (.bipush 50, 2) := by decide +kernel
theorem dL_boards_100 : decode cL_boards 100 = .ok (.bipush 10, 2) := by decide +kernel
theorem dL_boards_102 : decode cL_boards 102 = .ok (.invokestatic 116, 3) := by decide +kernel
theorem dL_boards_105 : decode cL_boards 105 = .ok (.ifCond .eq 215, 3) := by decide +kernel
theorem dL_boards_108 : decode cL_boards 108 = .ok (.aload_n 0, 1) := by decide +kernel
theorem dL_boards_109 : decode cL_boards 109 = .ok (.invokevirtual 110, 3) := by decide +kernel
theorem dL_boards_112 : decode cL_boards 112 = .ok (.bipush 50, 2) := by decide +kernel
theorem dL_boards_114 : decode cL_boards 114 = .ok (.if_icmp .ne 206, 3) := by decide +kernel
theorem dL_boards_117 : decode cL_boards 117 = .ok (.aload_n 0, 1) := by decide +kernel
theorem dL_boards_118 : decode cL_boards 118 = .ok (.iconst 5, 1) := by decide +kernel
theorem dL_boards_119 : decode cL_boards 119 = .ok (.iconst 1, 1) := by decide +kernel
theorem dL_boards_120 : decode cL_boards 120 = .ok (.iconst 0, 1) := by decide +kernel
theorem dL_boards_121 : decode cL_boards 121 = .ok (.invokevirtual 60, 3) := by decide +kernel
theorem dL_boards_124 : decode cL_boards 124 = .ok (.iconst 5, 1) := by decide +kernel
theorem dL_boards_125 : decode cL_boards 125 = .ok (.if_icmp .ne 195, 3) := by decide +kernel
theorem dL_boards_128 : decode cL_boards 128 = .ok (.aload_n 0, 1) := by decide +kernel
theorem dL_boards_129 : decode cL_boards 129 = .ok (.invokevirtual 110, 3) := by decide +kernel
theorem dL_boards_132 : decode cL_boards 132 = .ok (.bipush 40, 2) := by decide +kernel
theorem dL_boards_134 : decode cL_boards 134 = .ok (.if_icmp .ne 186, 3) := by decide +kernel
theorem dL_boards_137 : decode cL_boards 137 = .ok (.aload_n 0, 1) := by decide +kernel
theorem dL_boards_138 : decode cL_boards 138 = .ok (.invokevirtual 110, 3) := by decide +kernel
theorem dL_boards_141 : decode cL_boards 141 = .ok (.bipush 30, 2) := by decide +kernel
theorem dL_boards_143 : decode cL_boards 143 = .ok (.if_icmp .ne 177, 3) := by decide +kernel
theorem dL_boards_146 : decode cL_boards 146 = .ok (.aload_n 0, 1) := by decide +kernel
theorem dL_boards_147 : decode cL_boards 147 = .ok (.iconst 3, 1) := by decide +kernel
theorem dL_boards_148 : decode cL_boards 148 = .ok (.iconst 1, 1) := by decide +kernel
theorem dL_boards_149 : decode cL_boards 149 = .ok (.iconst 1, 1) := by decide +kernel
theorem dL_boards_150 : decode cL_boards 150 = .ok (.iconst 1, 1) := by decide +kernel
theorem dL_boards_151 : decode cL_boards 151 = .ok (.bipush 50, 2) := by decide +kernel
theorem dL_boards_153 : decode cL_boards 153 = .ok (.bipush 10, 2) := by decide +kernel
theorem dL_boards_155 : decode cL_boards 155 = .ok (.invokestatic 116, 3) := by decide +kernel
theorem dL_boards_158 : decode cL_boards 158 = .ok (.ifCond .eq 162, 3) := by decide +kernel
theorem dL_boards_161 : decode cL_boards 161 = .ok (.aload_n 0, 1) := by decide +kernel
theorem dL_boards_162 : decode cL_boards 162 = .ok (.invokevirtual 110, 3) := by decide +kernel
theorem dL_boards_165 : decode cL_boards 165 = .ok (.iconst (-1), 1) := by decide +kernel
theorem dL_boards_166 : decode cL_boards 166 = .ok (.if_icmp .ne 154, 3) := by decide +kernel
theorem dL_boards_169 : decode cL_boards 169 = .ok (.aload_n 0, 1) := by decide +kernel
theorem dL_boards_170 : decode cL_boards 170 = .ok (.bipush 11, 2) := by decide +kernel
theorem dL_boards_172 : decode cL_boards 172 = .ok (.invokestatic 55, 3) := by decide +kernel
theorem dL_boards_175 : decode cL_boards 175 = .ok (.iconst 1, 1) := by decide +kernel
theorem dL_boards_176 : decode cL_boards 176 = .ok (.if_icmp .ne 144, 3) := by decide +kernel
theorem dL_boards_179 : decode cL_boards 179 = .ok (.aload_n 0, 1) := by decide +kernel
theorem dL_boards_180 : decode cL_boards 180 = .ok (.iconst 3, 1) := by decide +kernel
theorem dL_boards_181 : decode cL_boards 181 = .ok (.iconst 1, 1) := by decide +kernel
theorem dL_boards_182 : decode cL_boards 182 = .ok (.iconst 1, 1) := by decide +kernel
theorem dL_boards_183 : decode cL_boards 183 = .ok (.iconst 1, 1) := by decide +kernel
theorem dL_boards_184 : decode cL_boards 184 = .ok (.bipush 50, 2) := by decide +kernel
theorem dL_boards_186 : decode cL_boards 186 = .ok (.bipush 10, 2) := by decide +kernel
theorem dL_boards_188 : decode cL_boards 188 = .ok (.invokestatic 116, 3) := by decide +kernel
theorem dL_boards_191 : decode cL_boards 191 = .ok (.ifCond .eq 129, 3) := by decide +kernel
theorem dL_boards_194 : decode cL_boards 194 = .ok (.aload_n 0, 1) := by decide +kernel
theorem dL_boards_195 : decode cL_boards 195 = .ok (.invokevirtual 110, 3) := by decide +kernel
theorem dL_boards_198 : decode cL_boards 198 = .ok (.iconst (-1), 1) := by decide +kernel
theorem dL_boards_199 : decode cL_boards 199 = .ok (.if_icmp .ne 121, 3) := by decide +kernel
theorem dL_boards_202 : decode cL_boards 202 = .ok (.aload_n 0, 1) := by decide +kernel
theorem dL_boards_203 : decode cL_boards 203 = .ok (.iconst 0, 1) := by decide +kernel
theorem dL_boards_204 : decode cL_boards 204 = .ok (.invokestatic 55, 3) := by decide +kernel
theorem dL_boards_207 : decode cL_boards 207 = .ok (.iconst 1, 1) := by decide +kernel
theorem dL_boards_208 : decode cL_boards 208 = .ok (.if_icmp .ne 112, 3) := by decide +kernel
theorem dL_boards_211 : decode cL_boards 211 = .ok (.aload_n 0, 1) := by decide +kernel
theorem dL_boards_212 : decode cL_boards 212 = .ok (.iconst 2, 1) := by decide +kernel
theorem dL_boards_213 : decode cL_boards 213 = .ok (.iconst 1, 1) := by decide +kernel
theorem dL_boards_214 : decode cL_boards 214 = .ok (.iconst 2, 1) := by decide +kernel
theorem dL_boards_215 : decode cL_boards 215 = .ok (.iconst 0, 1) := by decide +kernel
theorem dL_boards_216 : decode cL_boards 216 = .ok (.iconst 0, 1) := by decide +kernel
theorem dL_boards_217 : decode cL_boards 217 = .ok (.iconst 0, 1) := by decide +kernel
theorem dL_boards_218 : decode cL_boards 218 = .ok (.invokestatic 116, 3) := by decide +kernel
theorem dL_boards_221 : decode cL_boards 221 = .ok (.ifCond .eq 99, 3) := by decide +kernel
theorem dL_boards_224 : decode cL_boards 224 = .ok (.aload_n 0, 1) := by decide +kernel
theorem dL_boards_225 : decode cL_boards 225 = .ok (.invokevirtual 110, 3) := by decide +kernel
theorem dL_boards_228 : decode cL_boards 228 = .ok (.bipush 50, 2) := by decide +kernel
theorem dL_boards_230 : decode cL_boards 230 = .ok (.if_icmp .ne 90, 3) := by decide +kernel
theorem dL_boards_233 : decode cL_boards 233 = .ok (.aload_n 0, 1) := by decide +kernel
theorem dL_boards_234 : decode cL_boards 234 = .ok (.invokevirtual 110, 3) := by decide +kernel
theorem dL_boards_237 : decode cL_boards 237 = .ok (.bipush 40, 2) := by decide +kernel
theorem dL_boards_239 : decode cL_boards 239 = .ok (.if_icmp .ne 81, 3) := by decide +kernel
theorem dL_boards_242 : decode cL_boards 242 = .ok (.aload_n 0, 1) := by decide +kernel
theorem dL_boards_243 : decode cL_boards 243 = .ok (.invokevirtual 110, 3) := by decide +kernel
theorem dL_boards_246 : decode cL_boards 246 = .ok (.bipush 30, 2) := by decide +kernel
theorem dL_boards_248 : decode cL_boards 248 = .ok (.if_icmp .ne 72, 3) := by decide +kernel
theorem dL_boards_251 : decode cL_boards 251 = .ok (.aload_n 0, 1) := by decide +kernel
theorem dL_boards_252 : decode cL_boards 252 = .ok (.iconst 3, 1) := by decide +kernel
theorem dL_boards_253 : decode cL_boards 253 = .ok (.iconst 1, 1) := by decide +kernel
theorem dL_boards_254 : decode cL_boards 254 = .ok (.iconst 0, 1) := by decide +kernel
theorem dL_boards_255 : decode cL_boards 255 = .ok (.iconst 1, 1) := by decide +kernel
theorem dL_boards_256 : decode cL_boards 256 = .ok (.bipush 50, 2) := by decide +kernel
theorem dL_boards_258 : decode cL_boards 258 = .ok (.bipush 10, 2) := by decide +kernel
theorem dL_boards_260 : decode cL_boards 260 = .ok (.invokestatic 116, 3) := by decide +kernel
theorem dL_boards_263 : decode cL_boards 263 = .ok (.ifCond .eq 57, 3) := by decide +kernel
theorem dL_boards_266 : decode cL_boards 266 = .ok (.aload_n 0, 1) := by decide +kernel
theorem dL_boards_267 : decode cL_boards 267 = .ok (.invokevirtual 110, 3) := by decide +kernel
theorem dL_boards_270 : decode cL_boards 270 = .ok (.bipush 20, 2) := by decide +kernel
theorem dL_boards_272 : decode cL_boards 272 = .ok (.if_icmp .ne 48, 3) := by decide +kernel
theorem dL_boards_275 : decode cL_boards 275 = .ok (.aload_n 0, 1) := by decide +kernel
theorem dL_boards_276 : decode cL_boards 276 = .ok (.iconst 2, 1) := by decide +kernel
theorem dL_boards_277 : decode cL_boards 277 = .ok (.iconst 1, 1) := by decide +kernel
theorem dL_boards_278 : decode cL_boards 278 = .ok (.iconst 0, 1) := by decide +kernel
theorem dL_boards_279 : decode cL_boards 279 = .ok (.iconst 1, 1) := by decide +kernel
theorem dL_boards_280 : decode cL_boards 280 = .ok (.iconst 0, 1) := by decide +kernel
theorem dL_boards_281 : decode cL_boards 281 = .ok (.iconst 0, 1) := by decide +kernel
theorem dL_boards_282 : decode cL_boards 282 = .ok (.invokestatic 116, 3) := by decide +kernel
theorem dL_boards_285 : decode cL_boards 285 = .ok (.ifCond .eq 35, 3) := by decide +kernel
theorem dL_boards_288 : decode cL_boards 288 = .ok (.aload_n 0, 1) := by decide +kernel
theorem dL_boards_289 : decode cL_boards 289 = .ok (.invokevirtual 110, 3) := by decide +kernel
theorem dL_boards_292 : decode cL_boards 292 = .ok (.iconst (-1), 1) := by decide +kernel
theorem dL_boards_293 : decode cL_boards 293 = .ok (.if_icmp .ne 27, 3) := by decide +kernel
theorem dL_boards_296 : decode cL_boards 296 = .ok (.aload_n 0, 1) := by decide +kernel
theorem dL_boards_297 : decode cL_boards 297 = .ok (.iconst (-1), 1) := by decide +kernel
theorem dL_boards_298 : decode cL_boards 298 = .ok (.invokestatic 55, 3) := by decide +kernel
theorem dL_boards_301 : decode cL_boards 301 = .ok (.iconst 1, 1) := by decide +kernel
theorem dL_boards_302 : decode cL_boards 302 = .ok (.if_icmp .ne 18, 3) := by decide +kernel
theorem dL_boards_305 : decode cL_boards 305 = .ok (.aload_n 0, 1) := by decide +kernel
theorem dL_boards_306 : decode cL_boards 306 = .ok (.iconst 3, 1) := by decide +kernel
theorem dL_boards_307 : decode cL_boards 307 = .ok (.iconst 1, 1) := by decide +kernel
theorem dL_boards_308 : decode cL_boards 308 = .ok (.iconst 1, 1) := by decide +kernel
theorem dL_boards_309 : decode cL_boards 309 = .ok (.iconst 1, 1) := by decide +kernel
theorem dL_boards_310 : decode cL_boards 310 = .ok (.bipush 50, 2) := by decide +kernel
theorem dL_boards_312 : decode cL_boards 312 = .ok (.bipush 10, 2) := by decide +kernel
theorem dL_boards_314 : decode cL_boards 314 = .ok (.invokestatic 116, 3) := by decide +kernel
theorem dL_boards_317 : decode cL_boards 317 = .ok (.ifCond .ne 5, 3) := by decide +kernel
theorem dL_boards_320 : decode cL_boards 320 = .ok (.iconst 0, 1) := by decide +kernel
theorem dL_boards_321 : decode cL_boards 321 = .ok (.ireturn, 1) := by decide +kernel
theorem dL_boards_322 : decode cL_boards 322 = .ok (.aload_n 0, 1) := by decide +kernel
theorem dL_boards_323 : decode cL_boards 323 = .ok (.sipush 300, 3) := by decide +kernel
theorem dL_boards_326 : decode cL_boards 326 = .ok (.invokevirtual 43, 3) := by decide +kernel
theorem dL_boards_329 : decode cL_boards 329 = .ok (.sipush 310, 3) := by decide +kernel
theorem dL_boards_332 : decode cL_boards 332 = .ok (.if_icmp .ne 43, 3) := by decide +kernel
theorem dL_boards_335 : decode cL_boards 335 = .ok (.aload_n 0, 1) := by decide +kernel
theorem dL_boards_336 : decode cL_boards 336 = .ok (.iconst 2, 1) := by decide +kernel
theorem dL_boards_337 : decode cL_boards 337 = .ok (.invokevirtual 64, 3) := by decide +kernel
theorem dL_boards_340 : decode cL_boards 340 = .ok (.ifCond .ne 35, 3) := by decide +kernel
theorem dL_boards_343 : decode cL_boards 343 = .ok (.aload_n 0, 1) := by decide +kernel
theorem dL_boards_344 : decode cL_boards 344 = .ok (.iconst 3, 1) := by decide +kernel
theorem dL_boards_345 : decode cL_boards 345 = .ok (.invokevirtual 64, 3) := by decide +kernel
theorem dL_boards_348 : decode cL_boards 348 = .ok (.iconst 1, 1) := by decide +kernel
theorem dL_boards_349 : decode cL_boards 349 = .ok (.if_icmp .ne 26, 3) := by decide +kernel
theorem dL_boards_352 : decode cL_boards 352 = .ok (.aload_n 0, 1) := by decide +kernel
theorem dL_boards_353 : decode cL_boards 353 = .ok (.iconst 5, 1) := by decide +kernel
theorem dL_boards_354 : decode cL_boards 354 = .ok (.invokevirtual 64, 3) := by decide +kernel
theorem dL_boards_357 : decode cL_boards 357 = .ok (.iconst 5, 1) := by decide +kernel
theorem dL_boards_358 : decode cL_boards 358 = .ok (.if_icmp .ne 17, 3) := by decide +kernel
theorem dL_boards_361 : decode cL_boards 361 = .ok (.aload_n 0, 1) := by decide +kernel
theorem dL_boards_362 : decode cL_boards 362 = .ok (.iconst 1, 1) := by decide +kernel
theorem dL_boards_363 : decode cL_boards 363 = .ok (.bipush 7, 2) := by decide +kernel
theorem dL_boards_365 : decode cL_boards 365 = .ok (.invokestatic 99, 3) := by decide +kernel
theorem dL_boards_368 : decode cL_boards 368 = .ok (.ifCond .eq 7, 3) := by decide +kernel
theorem dL_boards_371 : decode cL_boards 371 = .ok (.iconst 1, 1) := by decide +kernel
theorem dL_boards_372 : decode cL_boards 372 = .ok (.goto 4, 3) := by decide +kernel
theorem dL_boards_375 : decode cL_boards 375 = .ok (.iconst 0, 1) := by decide +kernel
theorem dL_boards_376 : decode cL_boards 376 = .ok (.ireturn, 1) := by decide +kernel
theorem dL_tables_0 : decode cL_tables 0 = .ok (.new 8, 3) := by decide +kernel
theorem dL_tables_3 : decode cL_tables 3 = .ok (.dup, 1) := by decide +kernel
theorem dL_tables_4 : decode cL_tables 4 = .ok (.invokespecial 85, 3) := by decide +kernel
theorem dL_tables_7 : decode cL_tables 7 = .ok (.astore_n 0, 1) := by decide +kernel
theorem dL_tables_8 : decode cL_tables 8 = .ok (.aload_n 0, 1) := by decide +kernel
theorem dL_tables_9 : decode cL_tables 9 = .ok (.iconst 3, 1) := by decide +kernel
theorem dL_tables_10 : decode cL_tables 10 = .ok (.iconst 0, 1) := by decide +kernel
theorem dL_tables_11 : decode cL_tables 11 = .ok (.invokevirtual 24, 3) := by decide +kernel
theorem dL_tables_14 : decode cL_tables 14 = .ok (.ifCond .ne 148, 3) := by decide +kernel
theorem dL_tables_17 : decode cL_tables 17 = .ok (.aload_n 0, 1) := by decide +kernel
theorem dL_tables_18 : decode cL_tables 18 = .ok (.iconst 0, 1) := by decide +kernel
theorem dL_tables_19 : decode cL_tables 19 = .ok (.iconst 3, 1) := by decide +kernel
theorem dL_tables_20 : decode cL_tables 20 = .ok (.invokevirtual 27, 3) := by decide +kernel
theorem dL_tables_23 : decode cL_tables 23 = .ok (.ifCond .ne 139, 3) := by decide +kernel
theorem dL_tables_26 : decode cL_tables 26 = .ok (.aload_n 0, 1) := by decide +kernel
theorem dL_tables_27 : decode cL_tables 27 = .ok (.iconst 0, 1) := by decide +kernel
theorem dL_tables_28 : decode cL_tables 28 = .ok (.iconst 0, 1) := by decide +kernel
theorem dL_tables_29 : decode cL_tables 29 = .ok (.iconst 0, 1) := by decide +kernel
theorem dL_tables_30 : decode cL_tables 30 = .ok (.invokevirtual 37, 3) := by decide +kernel
theorem dL_tables_33 : decode cL_tables 33 = .ok (.ifCond .ne 129, 3) := by decide +kernel
theorem dL_tables_36 : decode cL_tables 36 = .ok (.aload_n 0, 1) := by decide +kernel
theorem dL_tables_37 : decode cL_tables 37 = .ok (.ldc 129, 2) := by decide +kernel
theorem dL_tables_39 : decode cL_tables 39 = .ok (.iconst 5, 1) := by decide +kernel
theorem dL_tables_40 : decode cL_tables 40 = .ok (.invokestatic 90, 3) := by decide +kernel
theorem dL_tables_43 : decode cL_tables 43 = .ok (.iconst 5, 1) := by decide +kernel
theorem dL_tables_44 : decode cL_tables 44 = .ok (.if_icmp .ne 118, 3) := by decide +kernel
theorem dL_tables_47 : decode cL_tables 47 = .ok (.aload_n 0, 1) := by decide +kernel
theorem dL_tables_48 : decode cL_tables 48 = .ok (.invokevirtual 94, 3) := by decide +kernel
theorem dL_tables_51 : decode cL_tables 51 = .ok (.iconst 5, 1) := by decide +kernel
theorem dL_tables_52 : decode cL_tables 52 = .ok (.if_icmp .ne 110, 3) := by decide +kernel
theorem dL_tables_55 : decode cL_tables 55 = .ok (.aload_n 0, 1) := by decide +kernel
theorem dL_tables_56 : decode cL_tables 56 = .ok (.sipush 9950, 3) := by decide +kernel
theorem dL_tables_59 : decode cL_tables 59 = .ok (.iconst 4, 1) := by decide +kernel
theorem dL_tables_60 : decode cL_tables 60 = .ok (.invokestatic 90, 3) := by decide +kernel
theorem dL_tables_63 : decode cL_tables 63 = .ok (.iconst 4, 1) := by decide +kernel
theorem dL_tables_64 : decode cL_tables 64 = .ok (.if_icmp .ne 98, 3) := by decide +kernel
theorem dL_tables_67 : decode cL_tables 67 = .ok (.aload_n 0, 1) := by decide +kernel
theorem dL_tables_68 : decode cL_tables 68 = .ok (.iconst 4, 1) := by decide +kernel
theorem dL_tables_69 : decode cL_tables 69 = .ok (.iconst 1, 1) := by decide +kernel
theorem dL_tables_70 : decode cL_tables 70 = .ok (.invokevirtual 24, 3) := by decide +kernel
theorem dL_tables_73 : decode cL_tables 73 = .ok (.iconst 1, 1) := by decide +kernel
theorem dL_tables_74 : decode cL_tables 74 = .ok (.if_icmp .ne 88, 3) := by decide +kernel
theorem dL_tables_77 : decode cL_tables 77 = .ok (.aload_n 0, 1) := by decide +kernel
theorem dL_tables_78 : decode cL_tables 78 = .ok (.bipush 6, 2) := by decide +kernel
theorem dL_tables_80 : decode cL_tables 80 = .ok (.invokevirtual 17, 3) := by decide +kernel
theorem dL_tables_83 : decode cL_tables 83 = .ok (.iconst 1, 1) := by decide +kernel
theorem dL_tables_84 : decode cL_tables 84 = .ok (.if_icmp .ne 78, 3) := by decide +kernel
theorem dL_tables_87 : decode cL_tables 87 = .ok (.aload_n 0, 1) := by decide +kernel
theorem dL_tables_88 : decode cL_tables 88 = .ok (.iconst 1, 1) := by decide +kernel
theorem dL_tables_89 : decode cL_tables 89 = .ok (.iconst 0, 1) := by decide +kernel
theorem dL_tables_90 : decode cL_tables 90 = .ok (.invokevirtual 27, 3) := by decide +kernel
theorem dL_tables_93 : decode cL_tables 93 = .ok (.ifCond .ne 69, 3) := by decide +kernel
theorem dL_tables_96 : decode cL_tables 96 = .ok (.aload_n 0, 1) := by decide +kernel
theorem dL_tables_97 : decode cL_tables 97 = .ok (.iconst 1, 1) := by decide +kernel
theorem dL_tables_98 : decode cL_tables 98 = .ok (.iconst 0, 1) := by decide +kernel
theorem dL_tables_99 : decode cL_tables 99 = .ok (.iconst 1, 1) := by decide +kernel
theorem dL_tables_100 : decode cL_tables 100 = .ok (.invokevirtual 37, 3) := by decide +kernel
theorem dL_tables_103 : decode cL_tables 103 = .ok (.bipush 6, 2) := by decide +kernel
theorem dL_tables_105 : decode cL_tables 105 = .ok (.if_icmp .ne 57, 3) := by decide +kernel
theorem dL_tables_108 : decode cL_tables 108 = .ok (.aload_n 0, 1) := by decide +kernel
theorem dL_tables_109 : decode cL_tables 109 = .ok (.iconst 1, 1) := by decide +kernel
theorem dL_tables_110 : decode cL_tables 110 = .ok (.iconst 1, 1) := by decide +kernel
theorem dL_tables_111 : decode cL_tables 111 = .ok (.invokevirtual 13, 3) := by decide +kernel
theorem dL_tables_114 : decode cL_tables 114 = .ok (.iconst 1, 1) := by decide +kernel
theorem dL_tables_115 : decode cL_tables 115 = .ok (.if_icmp .ne 47, 3) := by decide +kernel
theorem dL_tables_118 : decode cL_tables 118 = .ok (.aload_n 0, 1) := by decide +kernel
theorem dL_tables_119 : decode cL_tables 119 = .ok (.bipush 9, 2) := by decide +kernel
theorem dL_tables_121 : decode cL_tables 121 = .ok (.iconst 0, 1) := by decide +kernel
theorem dL_tables_122 : decode cL_tables 122 = .ok (.invokevirtual 13, 3) := by decide +kernel
theorem dL_tables_125 : decode cL_tables 125 = .ok (.iconst 2, 1) := by decide +kernel
theorem dL_tables_126 : decode cL_tables 126 = .ok (.if_icmp .ne 36, 3) := by decide +kernel
theorem dL_tables_129 : decode cL_tables 129 = .ok (.aload_n 0, 1) := by decide +kernel
theorem dL_tables_130 : decode cL_tables 130 = .ok (.iconst 1, 1) := by decide +kernel
theorem dL_tables_131 : decode cL_tables 131 = .ok (.iconst 2, 1) := by decide +kernel
theorem dL_tables_132 : decode cL_tables 132 = .ok (.invokevirtual 13, 3) := by decide +kernel
theorem dL_tables_135 : decode cL_tables 135 = .ok (.iconst 3, 1) := by decide +kernel
theorem dL_tables_136 : decode cL_tables 136 = .ok (.if_icmp .ne 26, 3) := by decide +kernel
theorem dL_tables_139 : decode cL_tables 139 = .ok (.aload_n 0, 1) := by decide +kernel
theorem dL_tables_140 : decode cL_tables 140 = .ok (.bipush 9, 2) := by decide +kernel
theorem dL_tables_142 : decode cL_tables 142 = .ok (.iconst 0, 1) := by decide +kernel
theorem dL_tables_143 : decode cL_tables 143 = .ok (.invokevirtual 13, 3) := by decide +kernel
theorem dL_tables_146 : decode cL_tables 146 = .ok (.iconst 4, 1) := by decide +kernel
theorem dL_tables_147 : decode cL_tables 147 = .ok (.if_icmp .ne 15, 3) := by decide +kernel
theorem dL_tables_150 : decode cL_tables 150 = .ok (.aload_n 0, 1) := by decide +kernel
theorem dL_tables_151 : decode cL_tables 151 = .ok (.sipush 500, 3) := by decide +kernel
theorem dL_tables_154 : decode cL_tables 154 = .ok (.iconst 1, 1) := by decide +kernel
theorem dL_tables_155 : decode cL_tables 155 = .ok (.invokevirtual 24, 3) := by decide +kernel
theorem dL_tables_158 : decode cL_tables 158 = .ok (.iconst 2, 1) := by decide +kernel
theorem dL_tables_159 : decode cL_tables 159 = .ok (.if_icmp .eq 5, 3) := by decide +kernel
theorem dL_tables_162 : decode cL_tables 162 = .ok (.iconst 0, 1) := by decide +kernel
theorem dL_tables_163 : decode cL_tables 163 = .ok (.ireturn, 1) := by decide +kernel
theorem dL_tables_164 : decode cL_tables 164 = .ok (.aload_n 0, 1) := by decide +kernel
theorem dL_tables_165 : decode cL_tables 165 = .ok (.iconst 1, 1) := by decide +kernel
theorem dL_tables_166 : decode cL_tables 166 = .ok (.bipush 7, 2) := by decide +kernel
theorem dL_tables_168 : decode cL_tables 168 = .ok (.invokevirtual 13, 3) := by decide +kernel
theorem dL_tables_171 : decode cL_tables 171 = .ok (.iconst 1, 1) := by decide +kernel
theorem dL_tables_172 : decode cL_tables 172 = .ok (.if_icmp .ne 228, 3) := by decide +kernel
theorem dL_tables_175 : decode cL_tables 175 = .ok (.aload_n 0, 1) := by decide +kernel
theorem dL_tables_176 : decode cL_tables 176 = .ok (.bipush 9, 2) := by decide +kernel
theorem dL_tables_178 : decode cL_tables 178 = .ok (.iconst 0, 1) := by decide +kernel
theorem dL_tables_179 : decode cL_tables 179 = .ok (.invokevirtual 13, 3) := by decide +kernel
theorem dL_tables_182 : decode cL_tables 182 = .ok (.iconst 2, 1) := by decide +kernel
theorem dL_tables_183 : decode cL_tables 183 = .ok (.if_icmp .ne 217, 3) := by decide +kernel
theorem dL_tables_186 : decode cL_tables 186 = .ok (.aload_n 0, 1) := by decide +kernel
theorem dL_tables_187 : decode cL_tables 187 = .ok (.iconst 1, 1) := by decide +kernel
theorem dL_tables_188 : decode cL_tables 188 = .ok (.iconst 5, 1) := by decide +kernel
theorem dL_tables_189 : decode cL_tables 189 = .ok (.invokevirtual 13, 3) := by decide +kernel
theorem dL_tables_192 : decode cL_tables 192 = .ok (.iconst 3, 1) := by decide +kernel
theorem dL_tables_193 : decode cL_tables 193 = .ok (.if_icmp .ne 207, 3) := by decide +kernel
theorem dL_tables_196 : decode cL_tables 196 = .ok (.aload_n 0, 1) := by decide +kernel
theorem dL_tables_197 : decode cL_tables 197 = .ok (.bipush 9, 2) := by decide +kernel
theorem dL_tables_199 : decode cL_tables 199 = .ok (.iconst 0, 1) := by decide +kernel
theorem dL_tables_200 : decode cL_tables 200 = .ok (.invokevirtual 13, 3) := by decide +kernel
theorem dL_tables_203 : decode cL_tables 203 = .ok (.iconst 4, 1) := by decide +kernel
theorem dL_tables_204 : decode cL_tables 204 = .ok (.if_icmp .ne 196, 3) := by decide +kernel
theorem dL_tables_207 : decode cL_tables 207 = .ok (.aload_n 0, 1) := by decide +kernel
theorem dL_tables_208 : decode cL_tables 208 = .ok (.iconst 0, 1) := by decide +kernel
theorem dL_tables_209 : decode cL_tables 209 = .ok (.iconst 1, 1) := by decide +kernel
theorem dL_tables_210 : decode cL_tables 210 = .ok (.invokevirtual 40, 3) := by decide +kernel
theorem dL_tables_213 : decode cL_tables 213 = .ok (.ifCond .ne 187, 3) := by decide +kernel
theorem dL_tables_216 : decode cL_tables 216 = .ok (.aload_n 0, 1) := by decide +kernel
theorem dL_tables_217 : decode cL_tables 217 = .ok (.iconst 1, 1) := by decide +kernel
theorem dL_tables_218 : decode cL_tables 218 = .ok (.bipush 7, 2) := by decide +kernel
theorem dL_tables_220 : decode cL_tables 220 = .ok (.invokevirtual 13, 3) := by decide +kernel
theorem dL_tables_223 : decode cL_tables 223 = .ok (.iconst 1, 1) := by decide +kernel
theorem dL_tables_224 : decode cL_tables 224 = .ok (.if_icmp .ne 176, 3) := by decide +kernel
theorem dL_tables_227 : decode cL_tables 227 = .ok (.aload_n 0, 1) := by decide +kernel
theorem dL_tables_228 : decode cL_tables 228 = .ok (.bipush 9, 2) := by decide +kernel
theorem dL_tables_230 : decode cL_tables 230 = .ok (.iconst 0, 1) := by decide +kernel
theorem dL_tables_231 : decode cL_tables 231 = .ok (.invokevirtual 13, 3) := by decide +kernel
theorem dL_tables_234 : decode cL_tables 234 = .ok (.iconst 2, 1) := by decide +kernel
theorem dL_tables_235 : decode cL_tables 235 = .ok (.if_icmp .ne 165, 3) := by decide +kernel
theorem dL_tables_238 : decode cL_tables 238 = .ok (.aload_n 0, 1) := by decide +kernel
theorem dL_tables_239 : decode cL_tables 239 = .ok (.iconst 1, 1) := by decide +kernel
theorem dL_tables_240 : decode cL_tables 240 = .ok (.bipush 8, 2) := by decide +kernel
theorem dL_tables_242 : decode cL_tables 242 = .ok (.invokevirtual 13, 3) := by decide +kernel
theorem dL_tables_245 : decode cL_tables 245 = .ok (.iconst 3, 1) := by decide +kernel
theorem dL_tables_246 : decode cL_tables 246 = .ok (.if_icmp .ne 154, 3) := by decide +kernel
theorem dL_tables_249 : decode cL_tables 249 = .ok (.aload_n 0, 1) := by decide +kernel
theorem dL_tables_250 : decode cL_tables 250 = .ok (.bipush 9, 2) := by decide +kernel
theorem dL_tables_252 : decode cL_tables 252 = .ok (.iconst 0, 1) := by decide +kernel
theorem dL_tables_253 : decode cL_tables 253 = .ok (.invokevirtual 13, 3) := by decide +kernel
theorem dL_tables_256 : decode cL_tables 256 = .ok (.iconst 4, 1) := by decide +kernel
theorem dL_tables_257 : decode cL_tables 257 = .ok (.if_icmp .ne 143, 3) := by decide +kernel
theorem dL_tables_260 : decode cL_tables 260 = .ok (.aload_n 0, 1) := by decide +kernel
theorem dL_tables_261 : decode cL_tables 261 = .ok (.iconst 1, 1) := by decide +kernel
theorem dL_tables_262 : decode cL_tables 262 = .ok (.iconst 1, 1) := by decide +kernel
theorem dL_tables_263 : decode cL_tables 263 = .ok (.invokevirtual 40, 3) := by decide +kernel
theorem dL_tables_266 : decode cL_tables 266 = .ok (.iconst 1, 1) := by decide +kernel
theorem dL_tables_267 : decode cL_tables 267 = .ok (.if_icmp .ne 133, 3) := by decide +kernel
theorem dL_tables_270 : decode cL_tables 270 = .ok (.aload_n 0, 1) := by decide +kernel
theorem dL_tables_271 : decode cL_tables 271 = .ok (.bipush 90, 2) := by decide +kernel
theorem dL_tables_273 : decode cL_tables 273 = .ok (.iconst 2, 1) := by decide +kernel
theorem dL_tables_274 : decode cL_tables 274 = .ok (.invokestatic 90, 3) := by decide +kernel
theorem dL_tables_277 : decode cL_tables 277 = .ok (.iconst 2, 1) := by decide +kernel
theorem dL_tables_278 : decode cL_tables 278 = .ok (.if_icmp .ne 122, 3) := by decide +kernel
theorem dL_tables_281 : decode cL_tables 281 = .ok (.aload_n 0, 1) := by decide +kernel
theorem dL_tables_282 : decode cL_tables 282 = .ok (.iconst 2, 1) := by decide +kernel
theorem dL_tables_283 : decode cL_tables 283 = .ok (.iconst 1, 1) := by decide +kernel
theorem dL_tables_284 : decode cL_tables 284 = .ok (.invokevirtual 40, 3) := by decide +kernel
theorem dL_tables_287 : decode cL_tables 287 = .ok (.iconst 2, 1) := by decide +kernel
theorem dL_tables_288 : decode cL_tables 288 = .ok (.if_icmp .ne 112, 3) := by decide +kernel
theorem dL_tables_291 : decode cL_tables 291 = .ok (.aload_n 0, 1) := by decide +kernel
theorem dL_tables_292 : decode cL_tables 292 = .ok (.sipush 9950, 3) := by decide +kernel
theorem dL_tables_295 : decode cL_tables 295 = .ok (.iconst 4, 1) := by decide +kernel
theorem dL_tables_296 : decode cL_tables 296 = .ok (.invokestatic 90, 3) := by decide +kernel
theorem dL_tables_299 : decode cL_tables 299 = .ok (.iconst 4, 1) := by decide +kernel
theorem dL_tables_300 : decode cL_tables 300 = .ok (.if_icmp .ne 100, 3) := by decide +kernel
theorem dL_tables_303 : decode cL_tables 303 = .ok (.aload_n 0, 1) := by decide +kernel
theorem dL_tables_304 : decode cL_tables 304 = .ok (.bipush 8, 2) := by decide +kernel
theorem dL_tables_306 : decode cL_tables 306 = .ok (.iconst 5, 1) := by decide +kernel
theorem dL_tables_307 : decode cL_tables 307 = .ok (.invokevirtual 13, 3) := by decide +kernel
theorem dL_tables_310 : decode cL_tables 310 = .ok (.iconst 5, 1) := by decide +kernel
theorem dL_tables_311 : decode cL_tables 311 = .ok (.if_icmp .ne 89, 3) := by decide +kernel
theorem dL_tables_314 : decode cL_tables 314 = .ok (.aload_n 0, 1) := by decide +kernel
theorem dL_tables_315 : decode cL_tables 315 = .ok (.iconst 3, 1) := by decide +kernel
theorem dL_tables_316 : decode cL_tables 316 = .ok (.iconst 1, 1) := by decide +kernel
theorem dL_tables_317 : decode cL_tables 317 = .ok (.invokevirtual 40, 3) := by decide +kernel
theorem dL_tables_320 : decode cL_tables 320 = .ok (.iconst 3, 1) := by decide +kernel
theorem dL_tables_321 : decode cL_tables 321 = .ok (.if_icmp .ne 79, 3) := by decide +kernel
theorem dL_tables_324 : decode cL_tables 324 = .ok (.aload_n 0, 1) := by decide +kernel
theorem dL_tables_325 : decode cL_tables 325 = .ok (.iconst 4, 1) := by decide +kernel
theorem dL_tables_326 : decode cL_tables 326 = .ok (.iconst 0, 1) := by decide +kernel
theorem dL_tables_327 : decode cL_tables 327 = .ok (.invokevirtual 40, 3) := by decide +kernel
theorem dL_tables_330 : decode cL_tables 330 = .ok (.iconst 4, 1) := by decide +kernel
theorem dL_tables_331 : decode cL_tables 331 = .ok (.if_icmp .ne 69, 3) := by decide +kernel
theorem dL_tables_334 : decode cL_tables 334 = .ok (.aload_n 0, 1) := by decide +kernel
theorem dL_tables_335 : decode cL_tables 335 = .ok (.bipush 9, 2) := by decide +kernel
theorem dL_tables_337 : decode cL_tables 337 = .ok (.iconst 1, 1) := by decide +kernel
theorem dL_tables_338 : decode cL_tables 338 = .ok (.invokestatic 90, 3) := by decide +kernel
theorem dL_tables_341 : decode cL_tables 341 = .ok (.iconst 1, 1) := by decide +kernel
theorem dL_tables_342 : decode cL_tables 342 = .ok (.if_icmp .ne 58, 3) := by decide +kernel
theorem dL_tables_345 : decode cL_tables 345 = .ok (.aload_n 0, 1) := by decide +kernel
theorem dL_tables_346 : decode cL_tables 346 = .ok (.iconst 5, 1) := by decide +kernel
theorem dL_tables_347 : decode cL_tables 347 = .ok (.iconst 0, 1) := by decide +kernel
theorem dL_tables_348 : decode cL_tables 348 = .ok (.invokevirtual 40, 3) := by decide +kernel
theorem dL_tables_351 : decode cL_tables 351 = .ok (.iconst 5, 1) := by decide +kernel
theorem dL_tables_352 : decode cL_tables 352 = .ok (.if_icmp .ne 48, 3) := by decide +kernel
theorem dL_tables_355 : decode cL_tables 355 = .ok (.aload_n 0, 1) := by decide +kernel
theorem dL_tables_356 : decode cL_tables 356 = .ok (.iconst 1, 1) := by decide +kernel
theorem dL_tables_357 : decode cL_tables 357 = .ok (.iconst 1, 1) := by decide +kernel
theorem dL_tables_358 : decode cL_tables 358 = .ok (.invokevirtual 13, 3) := by decide +kernel
theorem dL_tables_361 : decode cL_tables 361 = .ok (.iconst 1, 1) := by decide +kernel
theorem dL_tables_362 : decode cL_tables 362 = .ok (.if_icmp .ne 38, 3) := by decide +kernel
theorem dL_tables_365 : decode cL_tables 365 = .ok (.aload_n 0, 1) := by decide +kernel
theorem dL_tables_366 : decode cL_tables 366 = .ok (.bipush 9, 2) := by decide +kernel
theorem dL_tables_368 : decode cL_tables 368 = .ok (.iconst 0, 1) := by decide +kernel
theorem dL_tables_369 : decode cL_tables 369 = .ok (.invokevirtual 13, 3) := by decide +kernel
theorem dL_tables_372 : decode cL_tables 372 = .ok (.iconst 2, 1) := by decide +kernel
theorem dL_tables_373 : decode cL_tables 373 = .ok (.if_icmp .ne 27, 3) := by decide +kernel
theorem dL_tables_376 : decode cL_tables 376 = .ok (.aload_n 0, 1) := by decide +kernel
theorem dL_tables_377 : decode cL_tables 377 = .ok (.bipush 6, 2) := by decide +kernel
theorem dL_tables_379 : decode cL_tables 379 = .ok (.iconst 0, 1) := by decide +kernel
theorem dL_tables_380 : decode cL_tables 380 = .ok (.invokevirtual 40, 3) := by decide +kernel
theorem dL_tables_383 : decode cL_tables 383 = .ok (.bipush 6, 2) := by decide +kernel
theorem dL_tables_385 : decode cL_tables 385 = .ok (.if_icmp .ne 15, 3) := by decide +kernel
theorem dL_tables_388 : decode cL_tables 388 = .ok (.aload_n 0, 1) := by decide +kernel
theorem dL_tables_389 : decode cL_tables 389 = .ok (.bipush 7, 2) := by decide +kernel
theorem dL_tables_391 : decode cL_tables 391 = .ok (.iconst 2, 1) := by decide +kernel
theorem dL_tables_392 : decode cL_tables 392 = .ok (.invokevirtual 40, 3) := by decide +kernel
theorem dL_tables_395 : decode cL_tables 395 = .ok (.bipush 7, 2) := by decide +kernel
theorem dL_tables_397 : decode cL_tables 397 = .ok (.if_icmp .eq 5, 3) := by decide +kernel
theorem dL_tables_400 : decode cL_tables 400 = .ok (.iconst 0, 1) := by decide +kernel
theorem dL_tables_401 : decode cL_tables 401 = .ok (.ireturn, 1) := by decide +kernel
theorem dL_tables_402 : decode cL_tables 402 = .ok (.iconst 0, 1) := by decide +kernel
theorem dL_tables_403 : decode cL_tables 403 = .ok (.istore_n 1, 1) := by decide +kernel
theorem dL_tables_404 : decode cL_tables 404 = .ok (.iload_n 1, 1) := by decide +kernel
theorem dL_tables_405 : decode cL_tables 405 = .ok (.bipush 8, 2) := by decide +kernel
theorem dL_tables_407 : decode cL_tables 407 = .ok (.if_icmp .ge 19, 3) := by decide +kernel
theorem dL_tables_410 : decode cL_tables 410 = .ok (.aload_n 0, 1) := by decide +kernel
theorem dL_tables_411 : decode cL_tables 411 = .ok (.invokevirtual 107, 3) := by decide +kernel
theorem dL_tables_414 : decode cL_tables 414 = .ok (.iload_n 1, 1) := by decide +kernel
theorem dL_tables_415 : decode cL_tables 415 = .ok (.if_icmp .eq 5, 3) := by decide +kernel
theorem dL_tables_418 : decode cL_tables 418 = .ok (.iconst 0, 1) := by decide +kernel
theorem dL_tables_419 : decode cL_tables 419 = .ok (.ireturn, 1) := by decide +kernel
theorem dL_tables_420 : decode cL_tables 420 = .ok (.iinc 1 1, 3) := by decide +kernel
theorem dL_tables_423 : decode cL_tables 423 = .ok (.goto (-19), 3) := by decide +kernel
theorem dL_tables_426 : decode cL_tables 426 = .ok (.aload_n 0, 1) := by decide +kernel
theorem dL_tables_427 : decode cL_tables 427 = .ok (.iconst 0, 1) := by decide +kernel
theorem dL_tables_428 : decode cL_tables 428 = .ok (.iconst 0, 1) := by decide +kernel
theorem dL_tables_429 : decode cL_tables 429 = .ok (.iconst (-1), 1) := by decide +kernel
theorem dL_tables_430 : decode cL_tables 430 = .ok (.bipush 25, 2) := by decide +kernel
theorem dL_tables_432 : decode cL_tables 432 = .ok (.iconst 1, 1) := by decide +kernel
theorem dL_tables_433 : decode cL_tables 433 = .ok (.invokestatic 113, 3) := by decide +kernel
theorem dL_tables_436 : decode cL_tables 436 = .ok (.ifCond .eq 130, 3) := by decide +kernel
theorem dL_tables_439 : decode cL_tables 439 = .ok (.aload_n 0, 1) := by decide +kernel
theorem dL_tables_440 : decode cL_tables 440 = .ok (.iconst 1, 1) := by decide +kernel
theorem dL_tables_441 : decode cL_tables 441 = .ok (.iconst 1, 1) := by decide +kernel
theorem dL_tables_442 : decode cL_tables 442 = .ok (.iconst 0, 1) := by decide +kernel
theorem dL_tables_443 : decode cL_tables 443 = .ok (.iconst 0, 1) := by decide +kernel
theorem dL_tables_444 : decode cL_tables 444 = .ok (.iconst 1, 1) := by decide +kernel
theorem dL_tables_445 : decode cL_tables 445 = .ok (.invokestatic 113, 3) := by decide +kernel
theorem dL_tables_448 : decode cL_tables 448 = .ok (.ifCond .eq 118, 3) := by decide +kernel
theorem dL_tables_451 : decode cL_tables 451 = .ok (.aload_n 0, 1) := by decide +kernel
theorem dL_tables_452 : decode cL_tables 452 = .ok (.iconst 2, 1) := by decide +kernel
theorem dL_tables_453 : decode cL_tables 453 = .ok (.iconst 1, 1) := by decide +kernel
theorem dL_tables_454 : decode cL_tables 454 = .ok (.iconst 0, 1) := by decide +kernel
theorem dL_tables_455 : decode cL_tables 455 = .ok (.iconst 0, 1) := by decide +kernel
theorem dL_tables_456 : decode cL_tables 456 = .ok (.iconst 1, 1) := by decide +kernel
theorem dL_tables_457 : decode cL_tables 457 = .ok (.invokestatic 113, 3) := by decide +kernel
theorem dL_tables_460 : decode cL_tables 460 = .ok (.ifCond .eq 106, 3) := by decide +kernel
theorem dL_tables_463 : decode cL_tables 463 = .ok (.aload_n 0, 1) := by decide +kernel
theorem dL_tables_464 : decode cL_tables 464 = .ok (.iconst 3, 1) := by decide +kernel
theorem dL_tables_465 : decode cL_tables 465 = .ok (.iconst 2, 1) := by decide +kernel
theorem dL_tables_466 : decode cL_tables 466 = .ok (.iconst 0, 1) := by decide +kernel
theorem dL_tables_467 : decode cL_tables 467 = .ok (.iconst 0, 1) := by decide +kernel
theorem dL_tables_468 : decode cL_tables 468 = .ok (.iconst 1, 1) := by decide +kernel
theorem dL_tables_469 : decode cL_tables 469 = .ok (.invokestatic 113, 3) := by decide +kernel
theorem dL_tables_472 : decode cL_tables 472 = .ok (.ifCond .eq 94, 3) := by decide +kernel
theorem dL_tables_475 : decode cL_tables 475 = .ok (.aload_n 0, 1) := by decide +kernel
theorem dL_tables_476 : decode cL_tables 476 = .ok (.iconst 4, 1) := by decide +kernel
theorem dL_tables_477 : decode cL_tables 477 = .ok (.iconst 0, 1) := by decide +kernel
theorem dL_tables_478 : decode cL_tables 478 = .ok (.iconst (-1), 1) := by decide +kernel
theorem dL_tables_479 : decode cL_tables 479 = .ok (.bipush 25, 2) := by decide +kernel
theorem dL_tables_481 : decode cL_tables 481 = .ok (.iconst 1, 1) := by decide +kernel
theorem dL_tables_482 : decode cL_tables 482 = .ok (.invokestatic 113, 3) := by decide +kernel
theorem dL_tables_485 : decode cL_tables 485 = .ok (.ifCond .eq 81, 3) := by decide +kernel
theorem dL_tables_488 : decode cL_tables 488 = .ok (.aload_n 0, 1) := by decide +kernel
theorem dL_tables_489 : decode cL_tables 489 = .ok (.iconst 5, 1) := by decide +kernel
theorem dL_tables_490 : decode cL_tables 490 = .ok (.iconst 4, 1) := by decide +kernel
theorem dL_tables_491 : decode cL_tables 491 = .ok (.iconst 0, 1) := by decide +kernel
theorem dL_tables_492 : decode cL_tables 492 = .ok (.iconst 0, 1) := by decide +kernel
theorem dL_tables_493 : decode cL_tables 493 = .ok (.iconst 1, 1) := by decide +kernel
theorem dL_tables_494 : decode cL_tables 494 = .ok (.invokestatic 113, 3) := by decide +kernel
theorem dL_tables_497 : decode cL_tables 497 = .ok (.ifCond .eq 69, 3) := by decide +kernel
theorem dL_tables_500 : decode cL_tables 500 = .ok (.aload_n 0, 1) := by decide +kernel
theorem dL_tables_501 : decode cL_tables 501 = .ok (.bipush 6, 2) := by decide +kernel
theorem dL_tables_503 : decode cL_tables 503 = .ok (.iconst 1, 1) := by decide +kernel
theorem dL_tables_504 : decode cL_tables 504 = .ok (.iconst 0, 1) := by decide +kernel
theorem dL_tables_505 : decode cL_tables 505 = .ok (.iconst 0, 1) := by decide +kernel
theorem dL_tables_506 : decode cL_tables 506 = .ok (.iconst 1, 1) := by decide +kernel
theorem dL_tables_507 : decode cL_tables 507 = .ok (.invokestatic 113, 3) := by decide +kernel
theorem dL_tables_510 : decode cL_tables 510 = .ok (.ifCond .eq 56, 3) := by decide +kernel
theorem dL_tables_513 : decode cL_tables 513 = .ok (.aload_n 0, 1) := by decide +kernel
theorem dL_tables_514 : decode cL_tables 514 = .ok (.bipush 7, 2) := by decide +kernel
theorem dL_tables_516 : decode cL_tables 516 = .ok (.iconst 0, 1) := by decide +kernel
theorem dL_tables_517 : decode cL_tables 517 = .ok (.iconst (-1), 1) := by decide +kernel
theorem dL_tables_518 : decode cL_tables 518 = .ok (.iconst 0, 1) := by decide +kernel
theorem dL_tables_519 : decode cL_tables 519 = .ok (.iconst 0, 1) := by decide +kernel
theorem dL_tables_520 : decode cL_tables 520 = .ok (.invokestatic 113, 3) := by decide +kernel
theorem dL_tables_523 : decode cL_tables 523 = .ok (.ifCond .eq 43, 3) := by decide +kernel
theorem dL_tables_526 : decode cL_tables 526 = .ok (.aload_n 0, 1) := by decide +kernel
theorem dL_tables_527 : decode cL_tables 527 = .ok (.iconst 4, 1) := by decide +kernel
theorem dL_tables_528 : decode cL_tables 528 = .ok (.iconst 0, 1) := by decide +kernel
theorem dL_tables_529 : decode cL_tables 529 = .ok (.iconst 1, 1) := by decide +kernel
theorem dL_tables_530 : decode cL_tables 530 = .ok (.iconst 1, 1) := by decide +kernel
theorem dL_tables_531 : decode cL_tables 531 = .ok (.iconst 0, 1) := by decide +kernel
theorem dL_tables_532 : decode cL_tables 532 = .ok (.iconst 0, 1) := by decide +kernel
theorem dL_tables_533 : decode cL_tables 533 = .ok (.invokestatic 116, 3) := by decide +kernel
theorem dL_tables_536 : decode cL_tables 536 = .ok (.ifCond .eq 30, 3) := by decide +kernel
theorem dL_tables_539 : decode cL_tables 539 = .ok (.aload_n 0, 1) := by decide +kernel
theorem dL_tables_540 : decode cL_tables 540 = .ok (.bipush 7, 2) := by decide +kernel
theorem dL_tables_542 : decode cL_tables 542 = .ok (.iconst 0, 1) := by decide +kernel
theorem dL_tables_543 : decode cL_tables 543 = .ok (.iconst 2, 1) := by decide +kernel
theorem dL_tables_544 : decode cL_tables 544 = .ok (.iconst 1, 1) := by decide +kernel
theorem dL_tables_545 : decode cL_tables 545 = .ok (.iconst 0, 1) := by decide +kernel
theorem dL_tables_546 : decode cL_tables 546 = .ok (.iconst 0, 1) := by decide +kernel
theorem dL_tables_547 : decode cL_tables 547 = .ok (.invokestatic 116, 3) := by decide +kernel
theorem dL_tables_550 : decode cL_tables 550 = .ok (.ifCond .eq 16, 3) := by decide +kernel
theorem dL_tables_553 : decode cL_tables 553 = .ok (.aload_n 0, 1) := by decide +kernel
theorem dL_tables_554 : decode cL_tables 554 = .ok (.iconst 1, 1) := by decide +kernel
theorem dL_tables_555 : decode cL_tables 555 = .ok (.iconst 0, 1) := by decide +kernel
theorem dL_tables_556 : decode cL_tables 556 = .ok (.iconst 3, 1) := by decide +kernel
theorem dL_tables_557 : decode cL_tables 557 = .ok (.iconst 0, 1) := by decide +kernel
theorem dL_tables_558 : decode cL_tables 558 = .ok (.iconst 0, 1) := by decide +kernel
theorem dL_tables_559 : decode cL_tables 559 = .ok (.iconst 0, 1) := by decide +kernel
theorem dL_tables_560 : decode cL_tables 560 = .ok (.invokestatic 116, 3) := by decide +kernel
theorem dL_tables_563 : decode cL_tables 563 = .ok (.ifCond .ne 5, 3) := by decide +kernel
theorem dL_tables_566 : decode cL_tables 566 = .ok (.iconst 0, 1) := by decide +kernel
theorem dL_tables_567 : decode cL_tables 567 = .ok (.ireturn, 1) := by decide +kernel
theorem dL_tables_568 : decode cL_tables 568 = .ok (.aload_n 0, 1) := by decide +kernel
theorem dL_tables_569 : decode cL_tables 569 = .ok (.bipush 8, 2) := by decide +kernel
theorem dL_tables_571 : decode cL_tables 571 = .ok (.iconst 0, 1) := by decide +kernel
theorem dL_tables_572 : decode cL_tables 572 = .ok (.invokevirtual 13, 3) := by decide +kernel
theorem dL_tables_575 : decode cL_tables 575 = .ok (.iconst 1, 1) := by decide +kernel
theorem dL_tables_576 : decode cL_tables 576 = .ok (.if_icmp .ne 165, 3) := by decide +kernel
theorem dL_tables_579 : decode cL_tables 579 = .ok (.aload_n 0, 1) := by decide +kernel
theorem dL_tables_580 : decode cL_tables 580 = .ok (.bipush 6, 2) := by decide +kernel
theorem dL_tables_582 : decode cL_tables 582 = .ok (.iconst 1, 1) := by decide +kernel
theorem dL_tables_583 : decode cL_tables 583 = .ok (.iconst 0, 1) := by decide +kernel
theorem dL_tables_584 : decode cL_tables 584 = .ok (.iconst 0, 1) := by decide +kernel
theorem dL_tables_585 : decode cL_tables 585 = .ok (.invokestatic 81, 3) := by decide +kernel
theorem dL_tables_588 : decode cL_tables 588 = .ok (.ldc 79, 2) := by decide +kernel
theorem dL_tables_590 : decode cL_tables 590 = .ok (.if_icmp .ne 151, 3) := by decide +kernel
theorem dL_tables_593 : decode cL_tables 593 = .ok (.aload_n 0, 1) := by decide +kernel
theorem dL_tables_594 : decode cL_tables 594 = .ok (.bipush 9, 2) := by decide +kernel
theorem dL_tables_596 : decode cL_tables 596 = .ok (.iconst 0, 1) := by decide +kernel
theorem dL_tables_597 : decode cL_tables 597 = .ok (.invokevirtual 21, 3) := by decide +kernel
theorem dL_tables_600 : decode cL_tables 600 = .ok (.iconst 2, 1) := by decide +kernel
theorem dL_tables_601 : decode cL_tables 601 = .ok (.if_icmp .ne 140, 3) := by decide +kernel
theorem dL_tables_604 : decode cL_tables 604 = .ok (.aload_n 0, 1) := by decide +kernel
theorem dL_tables_605 : decode cL_tables 605 = .ok (.invokevirtual 94, 3) := by decide +kernel
theorem dL_tables_608 : decode cL_tables 608 = .ok (.iconst 1, 1) := by decide +kernel
theorem dL_tables_609 : decode cL_tables 609 = .ok (.if_icmp .ne 132, 3) := by decide +kernel
theorem dL_tables_612 : decode cL_tables 612 = .ok (.aload_n 0, 1) := by decide +kernel
theorem dL_tables_613 : decode cL_tables 613 = .ok (.iconst 1, 1) := by decide +kernel
theorem dL_tables_614 : decode cL_tables 614 = .ok (.iconst 5, 1) := by decide +kernel
theorem dL_tables_615 : decode cL_tables 615 = .ok (.invokevirtual 13, 3) := by decide +kernel
theorem dL_tables_618 : decode cL_tables 618 = .ok (.iconst 1, 1) := by decide +kernel
theorem dL_tables_619 : decode cL_tables 619 = .ok (.if_icmp .ne 122, 3) := by decide +kernel
theorem dL_tables_622 : decode cL_tables 622 = .ok (.aload_n 0, 1) := by decide +kernel
theorem dL_tables_623 : decode cL_tables 623 = .ok (.sipush 995, 3) := by decide +kernel
theorem dL_tables_626 : decode cL_tables 626 = .ok (.iconst 3, 1) := by decide +kernel
theorem dL_tables_627 : decode cL_tables 627 = .ok (.invokestatic 90, 3) := by decide +kernel
theorem dL_tables_630 : decode cL_tables 630 = .ok (.iconst 4, 1) := by decide +kernel
theorem dL_tables_631 : decode cL_tables 631 = .ok (.if_icmp .ne 110, 3) := by decide +kernel
theorem dL_tables_634 : decode cL_tables 634 = .ok (.aload_n 0, 1) := by decide +kernel
theorem dL_tables_635 : decode cL_tables 635 = .ok (.iconst 1, 1) := by decide +kernel
theorem dL_tables_636 : decode cL_tables 636 = .ok (.iconst 0, 1) := by decide +kernel
theorem dL_tables_637 : decode cL_tables 637 = .ok (.invokevirtual 34, 3) := by decide +kernel
theorem dL_tables_640 : decode cL_tables 640 = .ok (.iconst 2, 1) := by decide +kernel
theorem dL_tables_641 : decode cL_tables 641 = .ok (.if_icmp .ne 100, 3) := by decide +kernel
theorem dL_tables_644 : decode cL_tables 644 = .ok (.aload_n 0, 1) := by decide +kernel
theorem dL_tables_645 : decode cL_tables 645 = .ok (.iconst 1, 1) := by decide +kernel
theorem dL_tables_646 : decode cL_tables 646 = .ok (.iconst 0, 1) := by decide +kernel
theorem dL_tables_647 : decode cL_tables 647 = .ok (.iconst 0, 1) := by decide +kernel
theorem dL_tables_648 : decode cL_tables 648 = .ok (.invokevirtual 37, 3) := by decide +kernel
theorem dL_tables_651 : decode cL_tables 651 = .ok (.iconst 5, 1) := by decide +kernel
theorem dL_tables_652 : decode cL_tables 652 = .ok (.if_icmp .ne 89, 3) := by decide +kernel
theorem dL_tables_655 : decode cL_tables 655 = .ok (.aload_n 0, 1) := by decide +kernel
theorem dL_tables_656 : decode cL_tables 656 = .ok (.iconst 1, 1) := by decide +kernel
theorem dL_tables_657 : decode cL_tables 657 = .ok (.iconst 0, 1) := by decide +kernel
theorem dL_tables_658 : decode cL_tables 658 = .ok (.iconst 1, 1) := by decide +kernel
theorem dL_tables_659 : decode cL_tables 659 = .ok (.invokevirtual 37, 3) := by decide +kernel
theorem dL_tables_662 : decode cL_tables 662 = .ok (.iconst 5, 1) := by decide +kernel
theorem dL_tables_663 : decode cL_tables 663 = .ok (.if_icmp .ne 78, 3) := by decide +kernel
theorem dL_tables_666 : decode cL_tables 666 = .ok (.aload_n 0, 1) := by decide +kernel
theorem dL_tables_667 : decode cL_tables 667 = .ok (.iconst 1, 1) := by decide +kernel
theorem dL_tables_668 : decode cL_tables 668 = .ok (.iconst 0, 1) := by decide +kernel
theorem dL_tables_669 : decode cL_tables 669 = .ok (.iconst 2, 1) := by decide +kernel
theorem dL_tables_670 : decode cL_tables 670 = .ok (.invokevirtual 37, 3) := by decide +kernel
theorem dL_tables_673 : decode cL_tables 673 = .ok (.ifCond .ne 68, 3) := by decide +kernel
theorem dL_tables_676 : decode cL_tables 676 = .ok (.aload_n 0, 1) := by decide +kernel
theorem dL_tables_677 : decode cL_tables 677 = .ok (.invokevirtual 94, 3) := by decide +kernel
theorem dL_tables_680 : decode cL_tables 680 = .ok (.ifCond .ne 61, 3) := by decide +kernel
theorem dL_tables_683 : decode cL_tables 683 = .ok (.aload_n 0, 1) := by decide +kernel
theorem dL_tables_684 : decode cL_tables 684 = .ok (.iconst 1, 1) := by decide +kernel
theorem dL_tables_685 : decode cL_tables 685 = .ok (.invokevirtual 46, 3) := by decide +kernel
theorem dL_tables_688 : decode cL_tables 688 = .ok (.iconst 4, 1) := by decide +kernel
theorem dL_tables_689 : decode cL_tables 689 = .ok (.if_icmp .ne 52, 3) := by decide +kernel
theorem dL_tables_692 : decode cL_tables 692 = .ok (.aload_n 0, 1) := by decide +kernel
theorem dL_tables_693 : decode cL_tables 693 = .ok (.invokevirtual 107, 3) := by decide +kernel
theorem dL_tables_696 : decode cL_tables 696 = .ok (.ifCond .ne 45, 3) := by decide +kernel
theorem dL_tables_699 : decode cL_tables 699 = .ok (.aload_n 0, 1) := by decide +kernel
theorem dL_tables_700 : decode cL_tables 700 = .ok (.iconst 0, 1) := by decide +kernel
theorem dL_tables_701 : decode cL_tables 701 = .ok (.iconst 1, 1) := by decide +kernel
theorem dL_tables_702 : decode cL_tables 702 = .ok (.iconst 0, 1) := by decide +kernel
theorem dL_tables_703 : decode cL_tables 703 = .ok (.iconst 0, 1) := by decide +kernel
theorem dL_tables_704 : decode cL_tables 704 = .ok (.iconst 2, 1) := by decide +kernel
theorem dL_tables_705 : decode cL_tables 705 = .ok (.invokestatic 113, 3) := by decide +kernel
theorem dL_tables_708 : decode cL_tables 708 = .ok (.ifCond .eq 33, 3) := by decide +kernel
theorem dL_tables_711 : decode cL_tables 711 = .ok (.aload_n 0, 1) := by decide +kernel
theorem dL_tables_712 : decode cL_tables 712 = .ok (.iconst 0, 1) := by decide +kernel
theorem dL_tables_713 : decode cL_tables 713 = .ok (.iconst 0, 1) := by decide +kernel
theorem dL_tables_714 : decode cL_tables 714 = .ok (.iconst 1, 1) := by decide +kernel
theorem dL_tables_715 : decode cL_tables 715 = .ok (.invokevirtual 60, 3) := by decide +kernel
theorem dL_tables_718 : decode cL_tables 718 = .ok (.ifCond .ne 23, 3) := by decide +kernel
theorem dL_tables_721 : decode cL_tables 721 = .ok (.aload_n 0, 1) := by decide +kernel
theorem dL_tables_722 : decode cL_tables 722 = .ok (.iconst 0, 1) := by decide +kernel
theorem dL_tables_723 : decode cL_tables 723 = .ok (.invokevirtual 64, 3) := by decide +kernel
theorem dL_tables_726 : decode cL_tables 726 = .ok (.iconst 2, 1) := by decide +kernel
theorem dL_tables_727 : decode cL_tables 727 = .ok (.if_icmp .ne 14, 3) := by decide +kernel
theorem dL_tables_730 : decode cL_tables 730 = .ok (.aload_n 0, 1) := by decide +kernel
theorem dL_tables_731 : decode cL_tables 731 = .ok (.bipush 7, 2) := by decide +kernel
theorem dL_tables_733 : decode cL_tables 733 = .ok (.invokevirtual 43, 3) := by decide +kernel
theorem dL_tables_736 : decode cL_tables 736 = .ok (.bipush 7, 2) := by decide +kernel
theorem dL_tables_738 : decode cL_tables 738 = .ok (.if_icmp .eq 5, 3) := by decide +kernel
theorem dL_tables_741 : decode cL_tables 741 = .ok (.iconst 0, 1) := by decide +kernel
theorem dL_tables_742 : decode cL_tables 742 = .ok (.ireturn, 1) := by decide +kernel
theorem dL_tables_743 : decode cL_tables 743 = .ok (.aload_n 0, 1) := by decide +kernel
theorem dL_tables_744 : decode cL_tables 744 = .ok (.iconst 0, 1) := by decide +kernel
theorem dL_tables_745 : decode cL_tables 745 = .ok (.iconst 2, 1) := by decide +kernel
theorem dL_tables_746 : decode cL_tables 746 = .ok (.invokevirtual 40, 3) := by decide +kernel
theorem dL_tables_749 : decode cL_tables 749 = .ok (.bipush 8, 2) := by decide +kernel
theorem dL_tables_751 : decode cL_tables 751 = .ok (.if_icmp .ne 162, 3) := by decide +kernel
theorem dL_tables_754 : decode cL_tables 754 = .ok (.aload_n 0, 1) := by decide +kernel
theorem dL_tables_755 : decode cL_tables 755 = .ok (.iconst 0, 1) := by decide +kernel
theorem dL_tables_756 : decode cL_tables 756 = .ok (.iconst 2, 1) := by decide +kernel
theorem dL_tables_757 : decode cL_tables 757 = .ok (.invokevirtual 40, 3) := by decide +kernel
theorem dL_tables_760 : decode cL_tables 760 = .ok (.bipush 9, 2) := by decide +kernel
theorem dL_tables_762 : decode cL_tables 762 = .ok (.if_icmp .ne 151, 3) := by decide +kernel
theorem dL_tables_765 : decode cL_tables 765 = .ok (.aload_n 0, 1) := by decide +kernel
theorem dL_tables_766 : decode cL_tables 766 = .ok (.iconst 1, 1) := by decide +kernel
theorem dL_tables_767 : decode cL_tables 767 = .ok (.iconst 1, 1) := by decide +kernel
theorem dL_tables_768 : decode cL_tables 768 = .ok (.invokevirtual 13, 3) := by decide +kernel
theorem dL_tables_771 : decode cL_tables 771 = .ok (.iconst 1, 1) := by decide +kernel
theorem dL_tables_772 : decode cL_tables 772 = .ok (.if_icmp .ne 141, 3) := by decide +kernel
theorem dL_tables_775 : decode cL_tables 775 = .ok (.aload_n 0, 1) := by decide +kernel
theorem dL_tables_776 : decode cL_tables 776 = .ok (.bipush 9, 2) := by decide +kernel
theorem dL_tables_778 : decode cL_tables 778 = .ok (.iconst 0, 1) := by decide +kernel
theorem dL_tables_779 : decode cL_tables 779 = .ok (.invokevirtual 13, 3) := by decide +kernel
theorem dL_tables_782 : decode cL_tables 782 = .ok (.iconst 2, 1) := by decide +kernel
theorem dL_tables_783 : decode cL_tables 783 = .ok (.if_icmp .ne 130, 3) := by decide +kernel
theorem dL_tables_786 : decode cL_tables 786 = .ok (.aload_n 0, 1) := by decide +kernel
theorem dL_tables_787 : decode cL_tables 787 = .ok (.iconst 1, 1) := by decide +kernel
theorem dL_tables_788 : decode cL_tables 788 = .ok (.iconst 2, 1) := by decide +kernel
theorem dL_tables_789 : decode cL_tables 789 = .ok (.invokevirtual 13, 3) := by decide +kernel
theorem dL_tables_792 : decode cL_tables 792 = .ok (.iconst 3, 1) := by decide +kernel
theorem dL_tables_793 : decode cL_tables 793 = .ok (.if_icmp .ne 120, 3) := by decide +kernel
theorem dL_tables_796 : decode cL_tables 796 = .ok (.aload_n 0, 1) := by decide +kernel
theorem dL_tables_797 : decode cL_tables 797 = .ok (.bipush 9, 2) := by decide +kernel
theorem dL_tables_799 : decode cL_tables 799 = .ok (.iconst 0, 1) := by decide +kernel
theorem dL_tables_800 : decode cL_tables 800 = .ok (.invokevirtual 13, 3) := by decide +kernel
theorem dL_tables_803 : decode cL_tables 803 = .ok (.iconst 4, 1) := by decide +kernel
theorem dL_tables_804 : decode cL_tables 804 = .ok (.if_icmp .ne 109, 3) := by decide +kernel
theorem dL_tables_807 : decode cL_tables 807 = .ok (.aload_n 0, 1) := by decide +kernel
theorem dL_tables_808 : decode cL_tables 808 = .ok (.iconst 0, 1) := by decide +kernel
theorem dL_tables_809 : decode cL_tables 809 = .ok (.iconst 2, 1) := by decide +kernel
theorem dL_tables_810 : decode cL_tables 810 = .ok (.invokevirtual 40, 3) := by decide +kernel
theorem dL_tables_813 : decode cL_tables 813 = .ok (.bipush 10, 2) := by decide +kernel
theorem dL_tables_815 : decode cL_tables 815 = .ok (.if_icmp .ne 98, 3) := by decide +kernel
theorem dL_tables_818 : decode cL_tables 818 = .ok (.aload_n 0, 1) := by decide +kernel
theorem dL_tables_819 : decode cL_tables 819 = .ok (.bipush 9, 2) := by decide +kernel
theorem dL_tables_821 : decode cL_tables 821 = .ok (.invokevirtual 17, 3) := by decide +kernel
theorem dL_tables_824 : decode cL_tables 824 = .ok (.iconst 1, 1) := by decide +kernel
theorem dL_tables_825 : decode cL_tables 825 = .ok (.if_icmp .ne 88, 3) := by decide +kernel
theorem dL_tables_828 : decode cL_tables 828 = .ok (.aload_n 0, 1) := by decide +kernel
theorem dL_tables_829 : decode cL_tables 829 = .ok (.iconst 2, 1) := by decide +kernel
theorem dL_tables_830 : decode cL_tables 830 = .ok (.iconst 2, 1) := by decide +kernel
theorem dL_tables_831 : decode cL_tables 831 = .ok (.invokevirtual 27, 3) := by decide +kernel
theorem dL_tables_834 : decode cL_tables 834 = .ok (.ifCond .ne 79, 3) := by decide +kernel
theorem dL_tables_837 : decode cL_tables 837 = .ok (.aload_n 0, 1) := by decide +kernel
theorem dL_tables_838 : decode cL_tables 838 = .ok (.bipush 40, 2) := by decide +kernel
theorem dL_tables_840 : decode cL_tables 840 = .ok (.invokevirtual 43, 3) := by decide +kernel
theorem dL_tables_843 : decode cL_tables 843 = .ok (.bipush 47, 2) := by decide +kernel
theorem dL_tables_845 : decode cL_tables 845 = .ok (.if_icmp .ne 68, 3) := by decide +kernel
theorem dL_tables_848 : decode cL_tables 848 = .ok (.aload_n 0, 1) := by decide +kernel
theorem dL_tables_849 : decode cL_tables 849 = .ok (.iconst 1, 1) := by decide +kernel
theorem dL_tables_850 : decode cL_tables 850 = .ok (.iconst 2, 1) := by decide +kernel
theorem dL_tables_851 : decode cL_tables 851 = .ok (.invokevirtual 13, 3) := by decide +kernel
theorem dL_tables_854 : decode cL_tables 854 = .ok (.iconst 1, 1) := by decide +kernel
theorem dL_tables_855 : decode cL_tables 855 = .ok (.if_icmp .ne 58, 3) := by decide +kernel
theorem dL_tables_858 : decode cL_tables 858 = .ok (.aload_n 0, 1) := by decide +kernel
theorem dL_tables_859 : decode cL_tables 859 = .ok (.bipush 9, 2) := by decide +kernel
theorem dL_tables_861 : decode cL_tables 861 = .ok (.iconst 0, 1) := by decide +kernel
theorem dL_tables_862 : decode cL_tables 862 = .ok (.invokevirtual 13, 3) := by decide +kernel
theorem dL_tables_865 : decode cL_tables 865 = .ok (.iconst 2, 1) := by decide +kernel
theorem dL_tables_866 : decode cL_tables 866 = .ok (.if_icmp .ne 47, 3) := by decide +kernel
theorem dL_tables_869 : decode cL_tables 869 = .ok (.aload_n 0, 1) := by decide +kernel
theorem dL_tables_870 : decode cL_tables 870 = .ok (.iconst 1, 1) := by decide +kernel
theorem dL_tables_871 : decode cL_tables 871 = .ok (.iconst 1, 1) := by decide +kernel
theorem dL_tables_872 : decode cL_tables 872 = .ok (.invokevirtual 13, 3) := by decide +kernel
theorem dL_tables_875 : decode cL_tables 875 = .ok (.iconst 3, 1) := by decide +kernel
theorem dL_tables_876 : decode cL_tables 876 = .ok (.if_icmp .ne 37, 3) := by decide +kernel
theorem dL_tables_879 : decode cL_tables 879 = .ok (.aload_n 0, 1) := by decide +kernel
theorem dL_tables_880 : decode cL_tables 880 = .ok (.bipush 9, 2) := by decide +kernel
theorem dL_tables_882 : decode cL_tables 882 = .ok (.iconst 0, 1) := by decide +kernel
theorem dL_tables_883 : decode cL_tables 883 = .ok (.invokevirtual 13, 3) := by decide +kernel
theorem dL_tables_886 : decode cL_tables 886 = .ok (.iconst 4, 1) := by decide +kernel
theorem dL_tables_887 : decode cL_tables 887 = .ok (.if_icmp .ne 26, 3) := by decide +kernel
theorem dL_tables_890 : decode cL_tables 890 = .ok (.aload_n 0, 1) := by decide +kernel
theorem dL_tables_891 : decode cL_tables 891 = .ok (.iconst 4, 1) := by decide +kernel
theorem dL_tables_892 : decode cL_tables 892 = .ok (.iconst 2, 1) := by decide +kernel
theorem dL_tables_893 : decode cL_tables 893 = .ok (.invokevirtual 40, 3) := by decide +kernel
theorem dL_tables_896 : decode cL_tables 896 = .ok (.bipush 11, 2) := by decide +kernel
theorem dL_tables_898 : decode cL_tables 898 = .ok (.if_icmp .ne 15, 3) := by decide +kernel
theorem dL_tables_901 : decode cL_tables 901 = .ok (.aload_n 0, 1) := by decide +kernel
theorem dL_tables_902 : decode cL_tables 902 = .ok (.bipush 7, 2) := by decide +kernel
theorem dL_tables_904 : decode cL_tables 904 = .ok (.iconst 0, 1) := by decide +kernel
theorem dL_tables_905 : decode cL_tables 905 = .ok (.invokevirtual 40, 3) := by decide +kernel
theorem dL_tables_908 : decode cL_tables 908 = .ok (.bipush 12, 2) := by decide +kernel
theorem dL_tables_910 : decode cL_tables 910 = .ok (.if_icmp .eq 5, 3) := by decide +kernel
theorem dL_tables_913 : decode cL_tables 913 = .ok (.iconst 0, 1) := by decide +kernel
theorem dL_tables_914 : decode cL_tables 914 = .ok (.ireturn, 1) := by decide +kernel
theorem dL_tables_915 : decode cL_tables 915 = .ok (.iconst 0, 1) := by decide +kernel
theorem dL_tables_916 : decode cL_tables 916 = .ok (.istore_n 1, 1) := by decide +kernel
theorem dL_tables_917 : decode cL_tables 917 = .ok (.iload_n 1, 1) := by decide +kernel
theorem dL_tables_918 : decode cL_tables 918 = .ok (.bipush 8, 2) := by decide +kernel
theorem dL_tables_920 : decode cL_tables 920 = .ok (.if_icmp .ge 18, 3) := by decide +kernel
theorem dL_tables_923 : decode cL_tables 923 = .ok (.aload_n 0, 1) := by decide +kernel
theorem dL_tables_924 : decode cL_tables 924 = .ok (.invokevirtual 107, 3) := by decide +kernel
theorem dL_tables_927 : decode cL_tables 927 = .ok (.ifCond .ge 5, 3) := by decide +kernel
theorem dL_tables_930 : decode cL_tables 930 = .ok (.iconst 0, 1) := by decide +kernel
theorem dL_tables_931 : decode cL_tables 931 = .ok (.ireturn, 1) := by decide +kernel
theorem dL_tables_932 : decode cL_tables 932 = .ok (.iinc 1 1, 3) := by decide +kernel
theorem dL_tables_935 : decode cL_tables 935 = .ok (.goto (-18), 3) := by decide +kernel
theorem dL_tables_938 : decode cL_tables 938 = .ok (.aload_n 0, 1) := by decide +kernel
theorem dL_tables_939 : decode cL_tables 939 = .ok (.invokevirtual 107, 3) := by decide +kernel
theorem dL_tables_942 : decode cL_tables 942 = .ok (.iconst (-1), 1) := by decide +kernel
theorem dL_tables_943 : decode cL_tables 943 = .ok (.if_icmp .ne 165, 3) := by decide +kernel
theorem dL_tables_946 : decode cL_tables 946 = .ok (.aload_n 0, 1) := by decide +kernel
theorem dL_tables_947 : decode cL_tables 947 = .ok (.bipush 8, 2) := by decide +kernel
theorem dL_tables_949 : decode cL_tables 949 = .ok (.iconst 5, 1) := by decide +kernel
theorem dL_tables_950 : decode cL_tables 950 = .ok (.iconst 0, 1) := by decide +kernel
theorem dL_tables_951 : decode cL_tables 951 = .ok (.iconst 0, 1) := by decide +kernel
theorem dL_tables_952 : decode cL_tables 952 = .ok (.iconst 1, 1) := by decide +kernel
theorem dL_tables_953 : decode cL_tables 953 = .ok (.invokestatic 113, 3) := by decide +kernel
theorem dL_tables_956 : decode cL_tables 956 = .ok (.ifCond .eq 152, 3) := by decide +kernel
theorem dL_tables_959 : decode cL_tables 959 = .ok (.aload_n 0, 1) := by decide +kernel
theorem dL_tables_960 : decode cL_tables 960 = .ok (.bipush 10, 2) := by decide +kernel
theorem dL_tables_962 : decode cL_tables 962 = .ok (.iconst 0, 1) := by decide +kernel
theorem dL_tables_963 : decode cL_tables 963 = .ok (.iconst (-1), 1) := by decide +kernel
theorem dL_tables_964 : decode cL_tables 964 = .ok (.bipush 25, 2) := by decide +kernel
theorem dL_tables_966 : decode cL_tables 966 = .ok (.iconst 1, 1) := by decide +kernel
theorem dL_tables_967 : decode cL_tables 967 = .ok (.invokestatic 113, 3) := by decide +kernel
theorem dL_tables_970 : decode cL_tables 970 = .ok (.ifCond .eq 138, 3) := by decide +kernel
theorem dL_tables_973 : decode cL_tables 973 = .ok (.aload_n 0, 1) := by decide +kernel
theorem dL_tables_974 : decode cL_tables 974 = .ok (.bipush 11, 2) := by decide +kernel
theorem dL_tables_976 : decode cL_tables 976 = .ok (.iconst 0, 1) := by decide +kernel
theorem dL_tables_977 : decode cL_tables 977 = .ok (.iconst (-1), 1) := by decide +kernel
theorem dL_tables_978 : decode cL_tables 978 = .ok (.bipush 25, 2) := by decide +kernel
theorem dL_tables_980 : decode cL_tables 980 = .ok (.iconst 1, 1) := by decide +kernel
theorem dL_tables_981 : decode cL_tables 981 = .ok (.invokestatic 113, 3) := by decide +kernel
theorem dL_tables_984 : decode cL_tables 984 = .ok (.ifCond .eq 124, 3) := by decide +kernel
theorem dL_tables_987 : decode cL_tables 987 = .ok (.aload_n 0, 1) := by decide +kernel
theorem dL_tables_988 : decode cL_tables 988 = .ok (.iconst 4, 1) := by decide +kernel
theorem dL_tables_989 : decode cL_tables 989 = .ok (.iconst 0, 1) := by decide +kernel
theorem dL_tables_990 : decode cL_tables 990 = .ok (.iconst 0, 1) := by decide +kernel
theorem dL_tables_991 : decode cL_tables 991 = .ok (.iconst 2, 1) := by decide +kernel
theorem dL_tables_992 : decode cL_tables 992 = .ok (.bipush 47, 2) := by decide +kernel
theorem dL_tables_994 : decode cL_tables 994 = .ok (.bipush 47, 2) := by decide +kernel
theorem dL_tables_996 : decode cL_tables 996 = .ok (.invokestatic 116, 3) := by decide +kernel
theorem dL_tables_999 : decode cL_tables 999 = .ok (.ifCond .eq 109, 3) := by decide +kernel
theorem dL_tables_1002 : decode cL_tables 1002 = .ok (.aload_n 0, 1) := by decide +kernel
theorem dL_tables_1003 : decode cL_tables 1003 = .ok (.bipush 7, 2) := by decide +kernel
theorem dL_tables_1005 : decode cL_tables 1005 = .ok (.iconst 0, 1) := by decide +kernel
theorem dL_tables_1006 : decode cL_tables 1006 = .ok (.iconst 1, 1) := by decide +kernel
theorem dL_tables_1007 : decode cL_tables 1007 = .ok (.iconst 2, 1) := by decide +kernel
theorem dL_tables_1008 : decode cL_tables 1008 = .ok (.bipush 47, 2) := by decide +kernel
theorem dL_tables_1010 : decode cL_tables 1010 = .ok (.bipush 47, 2) := by decide +kernel
theorem dL_tables_1012 : decode cL_tables 1012 = .ok (.invokestatic 116, 3) := by decide +kernel
theorem dL_tables_1015 : decode cL_tables 1015 = .ok (.ifCond .eq 93, 3) := by decide +kernel
theorem dL_tables_1018 : decode cL_tables 1018 = .ok (.aload_n 0, 1) := by decide +kernel
theorem dL_tables_1019 : decode cL_tables 1019 = .ok (.iconst 0, 1) := by decide +kernel
theorem dL_tables_1020 : decode cL_tables 1020 = .ok (.iconst 0, 1) := by decide +kernel
theorem dL_tables_1021 : decode cL_tables 1021 = .ok (.iconst 2, 1) := by decide +kernel
theorem dL_tables_1022 : decode cL_tables 1022 = .ok (.iconst 1, 1) := by decide +kernel
theorem dL_tables_1023 : decode cL_tables 1023 = .ok (.bipush 47, 2) := by decide +kernel
theorem dL_tables_1025 : decode cL_tables 1025 = .ok (.bipush 7, 2) := by decide +kernel
theorem dL_tables_1027 : decode cL_tables 1027 = .ok (.invokestatic 116, 3) := by decide +kernel
theorem dL_tables_1030 : decode cL_tables 1030 = .ok (.ifCond .eq 78, 3) := by decide +kernel
theorem dL_tables_1033 : decode cL_tables 1033 = .ok (.aload_n 0, 1) := by decide +kernel
theorem dL_tables_1034 : decode cL_tables 1034 = .ok (.iconst 1, 1) := by decide +kernel
theorem dL_tables_1035 : decode cL_tables 1035 = .ok (.iconst 0, 1) := by decide +kernel
theorem dL_tables_1036 : decode cL_tables 1036 = .ok (.iconst 3, 1) := by decide +kernel
theorem dL_tables_1037 : decode cL_tables 1037 = .ok (.iconst 0, 1) := by decide +kernel
theorem dL_tables_1038 : decode cL_tables 1038 = .ok (.iconst 0, 1) := by decide +kernel
theorem dL_tables_1039 : decode cL_tables 1039 = .ok (.iconst 0, 1) := by decide +kernel
theorem dL_tables_1040 : decode cL_tables 1040 = .ok (.invokestatic 116, 3) := by decide +kernel
theorem dL_tables_1043 : decode cL_tables 1043 = .ok (.ifCond .eq 65, 3) := by decide +kernel
theorem dL_tables_1046 : decode cL_tables 1046 = .ok (.aload_n 0, 1) := by decide +kernel
theorem dL_tables_1047 : decode cL_tables 1047 = .ok (.iconst 2, 1) := by decide +kernel
theorem dL_tables_1048 : decode cL_tables 1048 = .ok (.invokevirtual 46, 3) := by decide +kernel
theorem dL_tables_1051 : decode cL_tables 1051 = .ok (.iconst 1, 1) := by decide +kernel
theorem dL_tables_1052 : decode cL_tables 1052 = .ok (.if_icmp .ne 56, 3) := by decide +kernel
theorem dL_tables_1055 : decode cL_tables 1055 = .ok (.aload_n 0, 1) := by decide +kernel
theorem dL_tables_1056 : decode cL_tables 1056 = .ok (.invokevirtual 107, 3) := by decide +kernel
theorem dL_tables_1059 : decode cL_tables 1059 = .ok (.bipush 7, 2) := by decide +kernel
theorem dL_tables_1061 : decode cL_tables 1061 = .ok (.if_icmp .ne 47, 3) := by decide +kernel
theorem dL_tables_1064 : decode cL_tables 1064 = .ok (.aload_n 0, 1) := by decide +kernel
theorem dL_tables_1065 : decode cL_tables 1065 = .ok (.bipush 7, 2) := by decide +kernel
theorem dL_tables_1067 : decode cL_tables 1067 = .ok (.iconst 5, 1) := by decide +kernel
theorem dL_tables_1068 : decode cL_tables 1068 = .ok (.iconst 0, 1) := by decide +kernel
theorem dL_tables_1069 : decode cL_tables 1069 = .ok (.iconst 0, 1) := by decide +kernel
theorem dL_tables_1070 : decode cL_tables 1070 = .ok (.iconst 1, 1) := by decide +kernel
theorem dL_tables_1071 : decode cL_tables 1071 = .ok (.invokestatic 113, 3) := by decide +kernel
theorem dL_tables_1074 : decode cL_tables 1074 = .ok (.ifCond .eq 34, 3) := by decide +kernel
theorem dL_tables_1077 : decode cL_tables 1077 = .ok (.aload_n 0, 1) := by decide +kernel
theorem dL_tables_1078 : decode cL_tables 1078 = .ok (.bipush 7, 2) := by decide +kernel
theorem dL_tables_1080 : decode cL_tables 1080 = .ok (.iconst 0, 1) := by decide +kernel
theorem dL_tables_1081 : decode cL_tables 1081 = .ok (.iconst 2, 1) := by decide +kernel
theorem dL_tables_1082 : decode cL_tables 1082 = .ok (.iconst 1, 1) := by decide +kernel
theorem dL_tables_1083 : decode cL_tables 1083 = .ok (.bipush 47, 2) := by decide +kernel
theorem dL_tables_1085 : decode cL_tables 1085 = .ok (.bipush 47, 2) := by decide +kernel
theorem dL_tables_1087 : decode cL_tables 1087 = .ok (.invokestatic 116, 3) := by decide +kernel
theorem dL_tables_1090 : decode cL_tables 1090 = .ok (.ifCond .eq 18, 3) := by decide +kernel
theorem dL_tables_1093 : decode cL_tables 1093 = .ok (.aload_n 0, 1) := by decide +kernel
theorem dL_tables_1094 : decode cL_tables 1094 = .ok (.iconst 0, 1) := by decide +kernel
theorem dL_tables_1095 : decode cL_tables 1095 = .ok (.iconst 0, 1) := by decide +kernel
theorem dL_tables_1096 : decode cL_tables 1096 = .ok (.iconst 1, 1) := by decide +kernel
theorem dL_tables_1097 : decode cL_tables 1097 = .ok (.iconst 1, 1) := by decide +kernel
theorem dL_tables_1098 : decode cL_tables 1098 = .ok (.bipush 47, 2) := by decide +kernel
theorem dL_tables_1100 : decode cL_tables 1100 = .ok (.bipush 7, 2) := by decide +kernel
theorem dL_tables_1102 : decode cL_tables 1102 = .ok (.invokestatic 116, 3) := by decide +kernel
theorem dL_tables_1105 : decode cL_tables 1105 = .ok (.ifCond .ne 5, 3) := by decide +kernel
theorem dL_tables_1108 : decode cL_tables 1108 = .ok (.iconst 0, 1) := by decide +kernel
theorem dL_tables_1109 : decode cL_tables 1109 = .ok (.ireturn, 1) := by decide +kernel
theorem dL_tables_1110 : decode cL_tables 1110 = .ok (.aload_n 0, 1) := by decide +kernel
theorem dL_tables_1111 : decode cL_tables 1111 = .ok (.iconst 3, 1) := by decide +kernel
theorem dL_tables_1112 : decode cL_tables 1112 = .ok (.bipush 13, 2) := by decide +kernel
theorem dL_tables_1114 : decode cL_tables 1114 = .ok (.invokestatic 99, 3) := by decide +kernel
theorem dL_tables_1117 : decode cL_tables 1117 = .ok (.ireturn, 1) := by decide +kernel
theorem dL_most_0 : decode cL_most 0 = .ok (.new 8, 3) := by decide +kernel
theorem dL_most_3 : decode cL_most 3 = .ok (.dup, 1) := by decide +kernel
theorem dL_most_4 : decode cL_most 4 = .ok (.invokespecial 85, 3) := by decide +kernel
theorem dL_most_7 : decode cL_most 7 = .ok (.astore_n 0, 1) := by decide +kernel
theorem dL_most_8 : decode cL_most 8 = .ok (.iconst 0, 1) := by decide +kernel
theorem dL_most_9 : decode cL_most 9 = .ok (.istore_n 1, 1) := by decide +kernel
theorem dL_most_10 : decode cL_most 10 = .ok (.iload_n 1, 1) := by decide +kernel
theorem dL_most_11 : decode cL_most 11 = .ok (.bipush 7, 2) := by decide +kernel
theorem dL_most_13 : decode cL_most 13 = .ok (.if_icmp .ge 38, 3) := by decide +kernel
theorem dL_most_16 : decode cL_most 16 = .ok (.aload_n 0, 1) := by decide +kernel
theorem dL_most_17 : decode cL_most 17 = .ok (.iconst 3, 1) := by decide +kernel
theorem dL_most_18 : decode cL_most 18 = .ok (.sipush 500, 3) := by decide +kernel
theorem dL_most_21 : decode cL_most 21 = .ok (.iload_n 1, 1) := by decide +kernel
theorem dL_most_22 : decode cL_most 22 = .ok (.iconst 2, 1) := by decide +kernel
theorem dL_most_23 : decode cL_most 23 = .ok (.irem, 1) := by decide +kernel
theorem dL_most_24 : decode cL_most 24 = .ok (.iconst 0, 1) := by decide +kernel
theorem dL_most_25 : decode cL_most 25 = .ok (.invokestatic 81, 3) := by decide +kernel
theorem dL_most_28 : decode cL_most 28 = .ok (.iload_n 1, 1) := by decide +kernel
theorem dL_most_29 : decode cL_most 29 = .ok (.bipush 6, 2) := by decide +kernel
theorem dL_most_31 : decode cL_most 31 = .ok (.if_icmp .ge 7, 3) := by decide +kernel
theorem dL_most_34 : decode cL_most 34 = .ok (.iload_n 1, 1) := by decide +kernel
theorem dL_most_35 : decode cL_most 35 = .ok (.goto 5, 3) := by decide +kernel
theorem dL_most_38 : decode cL_most 38 = .ok (.ldc 79, 2) := by decide +kernel
theorem dL_most_40 : decode cL_most 40 = .ok (.if_icmp .eq 5, 3) := by decide +kernel
theorem dL_most_43 : decode cL_most 43 = .ok (.iconst 0, 1) := by decide +kernel
theorem dL_most_44 : decode cL_most 44 = .ok (.ireturn, 1) := by decide +kernel
theorem dL_most_45 : decode cL_most 45 = .ok (.iinc 1 1, 3) := by decide +kernel
theorem dL_most_48 : decode cL_most 48 = .ok (.goto (-38), 3) := by decide +kernel
theorem dL_most_51 : decode cL_most 51 = .ok (.iconst 0, 1) := by decide +kernel
theorem dL_most_52 : decode cL_most 52 = .ok (.istore_n 1, 1) := by decide +kernel
theorem dL_most_53 : decode cL_most 53 = .ok (.iload_n 1, 1) := by decide +kernel
theorem dL_most_54 : decode cL_most 54 = .ok (.bipush 13, 2) := by decide +kernel
theorem dL_most_56 : decode cL_most 56 = .ok (.if_icmp .ge 48, 3) := by decide +kernel
theorem dL_most_59 : decode cL_most 59 = .ok (.aload_n 0, 1) := by decide +kernel
theorem dL_most_60 : decode cL_most 60 = .ok (.iload_n 1, 1) := by decide +kernel
theorem dL_most_61 : decode cL_most 61 = .ok (.bipush 9, 2) := by decide +kernel
theorem dL_most_63 : decode cL_most 63 = .ok (.irem, 1) := by decide +kernel
theorem dL_most_64 : decode cL_most 64 = .ok (.invokevirtual 17, 3) := by decide +kernel
theorem dL_most_67 : decode cL_most 67 = .ok (.iconst 1, 1) := by decide +kernel
theorem dL_most_68 : decode cL_most 68 = .ok (.if_icmp .ne 28, 3) := by decide +kernel
theorem dL_most_71 : decode cL_most 71 = .ok (.aload_n 0, 1) := by decide +kernel
theorem dL_most_72 : decode cL_most 72 = .ok (.iconst 4, 1) := by decide +kernel
theorem dL_most_73 : decode cL_most 73 = .ok (.iconst 5, 1) := by decide +kernel
theorem dL_most_74 : decode cL_most 74 = .ok (.iload_n 1, 1) := by decide +kernel
theorem dL_most_75 : decode cL_most 75 = .ok (.iconst 4, 1) := by decide +kernel
theorem dL_most_76 : decode cL_most 76 = .ok (.irem, 1) := by decide +kernel
theorem dL_most_77 : decode cL_most 77 = .ok (.iconst 0, 1) := by decide +kernel
theorem dL_most_78 : decode cL_most 78 = .ok (.invokestatic 81, 3) := by decide +kernel
theorem dL_most_81 : decode cL_most 81 = .ok (.iload_n 1, 1) := by decide +kernel
theorem dL_most_82 : decode cL_most 82 = .ok (.bipush 12, 2) := by decide +kernel
theorem dL_most_84 : decode cL_most 84 = .ok (.if_icmp .ge 7, 3) := by decide +kernel
theorem dL_most_87 : decode cL_most 87 = .ok (.iload_n 1, 1) := by decide +kernel
theorem dL_most_88 : decode cL_most 88 = .ok (.goto 5, 3) := by decide +kernel
theorem dL_most_91 : decode cL_most 91 = .ok (.ldc 79, 2) := by decide +kernel
theorem dL_most_93 : decode cL_most 93 = .ok (.if_icmp .eq 5, 3) := by decide +kernel
theorem dL_most_96 : decode cL_most 96 = .ok (.iconst 0, 1) := by decide +kernel
theorem dL_most_97 : decode cL_most 97 = .ok (.ireturn, 1) := by decide +kernel
theorem dL_most_98 : decode cL_most 98 = .ok (.iinc 1 1, 3) := by decide +kernel
theorem dL_most_101 : decode cL_most 101 = .ok (.goto (-48), 3) := by decide +kernel
theorem dL_most_104 : decode cL_most 104 = .ok (.iconst 0, 1) := by decide +kernel
theorem dL_most_105 : decode cL_most 105 = .ok (.istore_n 1, 1) := by decide +kernel
theorem dL_most_106 : decode cL_most 106 = .ok (.iload_n 1, 1) := by decide +kernel
theorem dL_most_107 : decode cL_most 107 = .ok (.bipush 61, 2) := by decide +kernel
theorem dL_most_109 : decode cL_most 109 = .ok (.if_icmp .ge 41, 3) := by decide +kernel
theorem dL_most_112 : decode cL_most 112 = .ok (.aload_n 0, 1) := by decide +kernel
theorem dL_most_113 : decode cL_most 113 = .ok (.bipush 8, 2) := by decide +kernel
theorem dL_most_115 : decode cL_most 115 = .ok (.iload_n 1, 1) := by decide +kernel
theorem dL_most_116 : decode cL_most 116 = .ok (.bipush 8, 2) := by decide +kernel
theorem dL_most_118 : decode cL_most 118 = .ok (.irem, 1) := by decide +kernel
theorem dL_most_119 : decode cL_most 119 = .ok (.iload_n 1, 1) := by decide +kernel
theorem dL_most_120 : decode cL_most 120 = .ok (.bipush 6, 2) := by decide +kernel
theorem dL_most_122 : decode cL_most 122 = .ok (.irem, 1) := by decide +kernel
theorem dL_most_123 : decode cL_most 123 = .ok (.iconst 0, 1) := by decide +kernel
theorem dL_most_124 : decode cL_most 124 = .ok (.invokestatic 81, 3) := by decide +kernel
theorem dL_most_127 : decode cL_most 127 = .ok (.iload_n 1, 1) := by decide +kernel
theorem dL_most_128 : decode cL_most 128 = .ok (.bipush 60, 2) := by decide +kernel
theorem dL_most_130 : decode cL_most 130 = .ok (.if_icmp .ge 7, 3) := by decide +kernel
theorem dL_most_133 : decode cL_most 133 = .ok (.iload_n 1, 1) := by decide +kernel
theorem dL_most_134 : decode cL_most 134 = .ok (.goto 5, 3) := by decide +kernel
theorem dL_most_137 : decode cL_most 137 = .ok (.ldc 79, 2) := by decide +kernel
theorem dL_most_139 : decode cL_most 139 = .ok (.if_icmp .eq 5, 3) := by decide +kernel
theorem dL_most_142 : decode cL_most 142 = .ok (.iconst 0, 1) := by decide +kernel
theorem dL_most_143 : decode cL_most 143 = .ok (.ireturn, 1) := by decide +kernel
theorem dL_most_144 : decode cL_most 144 = .ok (.iinc 1 1, 3) := by decide +kernel
theorem dL_most_147 : decode cL_most 147 = .ok (.goto (-41), 3) := by decide +kernel
theorem dL_most_150 : decode cL_most 150 = .ok (.iconst 0, 1) := by decide +kernel
theorem dL_most_151 : decode cL_most 151 = .ok (.istore_n 1, 1) := by decide +kernel
theorem dL_most_152 : decode cL_most 152 = .ok (.iload_n 1, 1) := by decide +kernel
theorem dL_most_153 : decode cL_most 153 = .ok (.bipush 60, 2) := by decide +kernel
theorem dL_most_155 : decode cL_most 155 = .ok (.if_icmp .ge 19, 3) := by decide +kernel
theorem dL_most_158 : decode cL_most 158 = .ok (.aload_n 0, 1) := by decide +kernel
theorem dL_most_159 : decode cL_most 159 = .ok (.invokevirtual 107, 3) := by decide +kernel
theorem dL_most_162 : decode cL_most 162 = .ok (.iload_n 1, 1) := by decide +kernel
theorem dL_most_163 : decode cL_most 163 = .ok (.if_icmp .eq 5, 3) := by decide +kernel
theorem dL_most_166 : decode cL_most 166 = .ok (.iconst 0, 1) := by decide +kernel
theorem dL_most_167 : decode cL_most 167 = .ok (.ireturn, 1) := by decide +kernel
theorem dL_most_168 : decode cL_most 168 = .ok (.iinc 1 1, 3) := by decide +kernel
theorem dL_most_171 : decode cL_most 171 = .ok (.goto (-19), 3) := by decide +kernel
theorem dL_most_174 : decode cL_most 174 = .ok (.aload_n 0, 1) := by decide +kernel
theorem dL_most_175 : decode cL_most 175 = .ok (.iconst 5, 1) := by decide +kernel
theorem dL_most_176 : decode cL_most 176 = .ok (.iconst 0, 1) := by decide +kernel
theorem dL_most_177 : decode cL_most 177 = .ok (.iconst (-1), 1) := by decide +kernel
theorem dL_most_178 : decode cL_most 178 = .ok (.bipush 100, 2) := by decide +kernel
theorem dL_most_180 : decode cL_most 180 = .ok (.bipush 12, 2) := by decide +kernel
theorem dL_most_182 : decode cL_most 182 = .ok (.invokestatic 113, 3) := by decide +kernel
theorem dL_most_185 : decode cL_most 185 = .ok (.ifCond .eq 72, 3) := by decide +kernel
theorem dL_most_188 : decode cL_most 188 = .ok (.aload_n 0, 1) := by decide +kernel
theorem dL_most_189 : decode cL_most 189 = .ok (.iconst 4, 1) := by decide +kernel
theorem dL_most_190 : decode cL_most 190 = .ok (.iconst 0, 1) := by decide +kernel
theorem dL_most_191 : decode cL_most 191 = .ok (.iconst (-1), 1) := by decide +kernel
theorem dL_most_192 : decode cL_most 192 = .ok (.iconst 0, 1) := by decide +kernel
theorem dL_most_193 : decode cL_most 193 = .ok (.iconst 0, 1) := by decide +kernel
theorem dL_most_194 : decode cL_most 194 = .ok (.invokestatic 113, 3) := by decide +kernel
theorem dL_most_197 : decode cL_most 197 = .ok (.ifCond .eq 60, 3) := by decide +kernel
theorem dL_most_200 : decode cL_most 200 = .ok (.aload_n 0, 1) := by decide +kernel
theorem dL_most_201 : decode cL_most 201 = .ok (.bipush 16, 2) := by decide +kernel
theorem dL_most_203 : decode cL_most 203 = .ok (.iconst 2, 1) := by decide +kernel
theorem dL_most_204 : decode cL_most 204 = .ok (.iconst 5, 1) := by decide +kernel
theorem dL_most_205 : decode cL_most 205 = .ok (.iconst 0, 1) := by decide +kernel
theorem dL_most_206 : decode cL_most 206 = .ok (.invokestatic 81, 3) := by decide +kernel
theorem dL_most_209 : decode cL_most 209 = .ok (.ldc 79, 2) := by decide +kernel
theorem dL_most_211 : decode cL_most 211 = .ok (.if_icmp .ne 46, 3) := by decide +kernel
theorem dL_most_214 : decode cL_most 214 = .ok (.aload_n 0, 1) := by decide +kernel
theorem dL_most_215 : decode cL_most 215 = .ok (.bipush 16, 2) := by decide +kernel
theorem dL_most_217 : decode cL_most 217 = .ok (.iconst 5, 1) := by decide +kernel
theorem dL_most_218 : decode cL_most 218 = .ok (.bipush 53, 2) := by decide +kernel
theorem dL_most_220 : decode cL_most 220 = .ok (.iconst 0, 1) := by decide +kernel
theorem dL_most_221 : decode cL_most 221 = .ok (.invokestatic 81, 3) := by decide +kernel
theorem dL_most_224 : decode cL_most 224 = .ok (.ldc 79, 2) := by decide +kernel
theorem dL_most_226 : decode cL_most 226 = .ok (.if_icmp .ne 31, 3) := by decide +kernel
theorem dL_most_229 : decode cL_most 229 = .ok (.aload_n 0, 1) := by decide +kernel
theorem dL_most_230 : decode cL_most 230 = .ok (.iconst 0, 1) := by decide +kernel
theorem dL_most_231 : decode cL_most 231 = .ok (.iconst 0, 1) := by decide +kernel
theorem dL_most_232 : decode cL_most 232 = .ok (.iconst 0, 1) := by decide +kernel
theorem dL_most_233 : decode cL_most 233 = .ok (.iconst 3, 1) := by decide +kernel
theorem dL_most_234 : decode cL_most 234 = .ok (.iconst 0, 1) := by decide +kernel
theorem dL_most_235 : decode cL_most 235 = .ok (.iconst 0, 1) := by decide +kernel
theorem dL_most_236 : decode cL_most 236 = .ok (.invokestatic 116, 3) := by decide +kernel
theorem dL_most_239 : decode cL_most 239 = .ok (.ifCond .eq 18, 3) := by decide +kernel
theorem dL_most_242 : decode cL_most 242 = .ok (.aload_n 0, 1) := by decide +kernel
theorem dL_most_243 : decode cL_most 243 = .ok (.bipush 7, 2) := by decide +kernel
theorem dL_most_245 : decode cL_most 245 = .ok (.iconst 1, 1) := by decide +kernel
theorem dL_most_246 : decode cL_most 246 = .ok (.bipush 7, 2) := by decide +kernel
theorem dL_most_248 : decode cL_most 248 = .ok (.iconst 3, 1) := by decide +kernel
theorem dL_most_249 : decode cL_most 249 = .ok (.iconst 0, 1) := by decide +kernel
theorem dL_most_250 : decode cL_most 250 = .ok (.iconst 0, 1) := by decide +kernel
theorem dL_most_251 : decode cL_most 251 = .ok (.invokestatic 116, 3) := by decide +kernel
theorem dL_most_254 : decode cL_most 254 = .ok (.ifCond .ne 5, 3) := by decide +kernel
theorem dL_most_257 : decode cL_most 257 = .ok (.iconst 0, 1) := by decide +kernel
theorem dL_most_258 : decode cL_most 258 = .ok (.ireturn, 1) := by decide +kernel
theorem dL_most_259 : decode cL_most 259 = .ok (.iconst 1, 1) := by decide +kernel
theorem dL_most_260 : decode cL_most 260 = .ok (.istore_n 1, 1) := by decide +kernel
theorem dL_most_261 : decode cL_most 261 = .ok (.iload_n 1, 1) := by decide +kernel
theorem dL_most_262 : decode cL_most 262 = .ok (.bipush 34, 2) := by decide +kernel
theorem dL_most_264 : decode cL_most 264 = .ok (.if_icmp .ge 26, 3) := by decide +kernel
theorem dL_most_267 : decode cL_most 267 = .ok (.aload_n 0, 1) := by decide +kernel
theorem dL_most_268 : decode cL_most 268 = .ok (.sipush 300, 3) := by decide +kernel
theorem dL_most_271 : decode cL_most 271 = .ok (.invokevirtual 43, 3) := by decide +kernel
theorem dL_most_274 : decode cL_most 274 = .ok (.sipush 300, 3) := by decide +kernel
theorem dL_most_277 : decode cL_most 277 = .ok (.iload_n 1, 1) := by decide +kernel
theorem dL_most_278 : decode cL_most 278 = .ok (.imul, 1) := by decide +kernel
theorem dL_most_279 : decode cL_most 279 = .ok (.if_icmp .eq 5, 3) := by decide +kernel
theorem dL_most_282 : decode cL_most 282 = .ok (.iconst 0, 1) := by decide +kernel
theorem dL_most_283 : decode cL_most 283 = .ok (.ireturn, 1) := by decide +kernel
theorem dL_most_284 : decode cL_most 284 = .ok (.iinc 1 1, 3) := by decide +kernel
theorem dL_most_287 : decode cL_most 287 = .ok (.goto (-26), 3) := by decide +kernel
theorem dL_most_290 : decode cL_most 290 = .ok (.aload_n 0, 1) := by decide +kernel
theorem dL_most_291 : decode cL_most 291 = .ok (.bipush 9, 2) := by decide +kernel
theorem dL_most_293 : decode cL_most 293 = .ok (.bipush 100, 2) := by decide +kernel
theorem dL_most_295 : decode cL_most 295 = .ok (.iconst 0, 1) := by decide +kernel
theorem dL_most_296 : decode cL_most 296 = .ok (.iconst 0, 1) := by decide +kernel
theorem dL_most_297 : decode cL_most 297 = .ok (.invokestatic 81, 3) := by decide +kernel
theorem dL_most_300 : decode cL_most 300 = .ok (.ldc 79, 2) := by decide +kernel
theorem dL_most_302 : decode cL_most 302 = .ok (.if_icmp .ne 44, 3) := by decide +kernel
theorem dL_most_305 : decode cL_most 305 = .ok (.aload_n 0, 1) := by decide +kernel
theorem dL_most_306 : decode cL_most 306 = .ok (.bipush 99, 2) := by decide +kernel
theorem dL_most_308 : decode cL_most 308 = .ok (.invokevirtual 43, 3) := by decide +kernel
theorem dL_most_311 : decode cL_most 311 = .ok (.sipush 9999, 3) := by decide +kernel
theorem dL_most_314 : decode cL_most 314 = .ok (.if_icmp .ne 32, 3) := by decide +kernel
theorem dL_most_317 : decode cL_most 317 = .ok (.aload_n 0, 1) := by decide +kernel
theorem dL_most_318 : decode cL_most 318 = .ok (.bipush 9, 2) := by decide +kernel
theorem dL_most_320 : decode cL_most 320 = .ok (.iconst 1, 1) := by decide +kernel
theorem dL_most_321 : decode cL_most 321 = .ok (.iconst 0, 1) := by decide +kernel
theorem dL_most_322 : decode cL_most 322 = .ok (.iconst 0, 1) := by decide +kernel
theorem dL_most_323 : decode cL_most 323 = .ok (.invokestatic 81, 3) := by decide +kernel
theorem dL_most_326 : decode cL_most 326 = .ok (.ldc 79, 2) := by decide +kernel
theorem dL_most_328 : decode cL_most 328 = .ok (.if_icmp .ne 18, 3) := by decide +kernel
theorem dL_most_331 : decode cL_most 331 = .ok (.aload_n 0, 1) := by decide +kernel
theorem dL_most_332 : decode cL_most 332 = .ok (.bipush 6, 2) := by decide +kernel
theorem dL_most_334 : decode cL_most 334 = .ok (.bipush 60, 2) := by decide +kernel
theorem dL_most_336 : decode cL_most 336 = .ok (.invokestatic 99, 3) := by decide +kernel
theorem dL_most_339 : decode cL_most 339 = .ok (.ifCond .eq 7, 3) := by decide +kernel
theorem dL_most_342 : decode cL_most 342 = .ok (.iconst 1, 1) := by decide +kernel
theorem dL_most_343 : decode cL_most 343 = .ok (.goto 4, 3) := by decide +kernel
theorem dL_most_346 : decode cL_most 346 = .ok (.iconst 0, 1) := by decide +kernel
theorem dL_most_347 : decode cL_most 347 = .ok (.ireturn, 1) := by decide +kernel
theorem dL_law_0 : decode cL_law 0 = .ok (.invokestatic 130, 3) := by decide +kernel
theorem dL_law_3 : decode cL_law 3 = .ok (.ifCond .ne 5, 3) := by decide +kernel
theorem dL_law_6 : decode cL_law 6 = .ok (.iconst 0, 1) := by decide +kernel
theorem dL_law_7 : decode cL_law 7 = .ok (.ireturn, 1) := by decide +kernel
theorem dL_law_8 : decode cL_law 8 = .ok (.new 8, 3) := by decide +kernel
theorem dL_law_11 : decode cL_law 11 = .ok (.dup, 1) := by decide +kernel
theorem dL_law_12 : decode cL_law 12 = .ok (.invokespecial 85, 3) := by decide +kernel
theorem dL_law_15 : decode cL_law 15 = .ok (.astore_n 1, 1) := by decide +kernel
theorem dL_law_16 : decode cL_law 16 = .ok (.iconst 0, 1) := by decide +kernel
theorem dL_law_17 : decode cL_law 17 = .ok (.istore_n 2, 1) := by decide +kernel
theorem dL_law_18 : decode cL_law 18 = .ok (.iconst 0, 1) := by decide +kernel
theorem dL_law_19 : decode cL_law 19 = .ok (.istore_n 3, 1) := by decide +kernel
theorem dL_law_20 : decode cL_law 20 = .ok (.iconst 0, 1) := by decide +kernel
theorem dL_law_21 : decode cL_law 21 = .ok (.istore 4, 2) := by decide +kernel
theorem dL_law_23 : decode cL_law 23 = .ok (.iconst 0, 1) := by decide +kernel
theorem dL_law_24 : decode cL_law 24 = .ok (.istore 5, 2) := by decide +kernel
theorem dL_law_26 : decode cL_law 26 = .ok (.iload 5, 2) := by decide +kernel
theorem dL_law_28 : decode cL_law 28 = .ok (.bipush 80, 2) := by decide +kernel
theorem dL_law_30 : decode cL_law 30 = .ok (.if_icmp .ge 769, 3) := by decide +kernel
theorem dL_law_33 : decode cL_law 33 = .ok (.aload_n 0, 1) := by decide +kernel
theorem dL_law_34 : decode cL_law 34 = .ok (.arraylength, 1) := by decide +kernel
theorem dL_law_35 : decode cL_law 35 = .ok (.ifCond .ne 11, 3) := by decide +kernel
theorem dL_law_38 : decode cL_law 38 = .ok (.bipush 103, 2) := by decide +kernel
theorem dL_law_40 : decode cL_law 40 = .ok (.iload 5, 2) := by decide +kernel
theorem dL_law_42 : decode cL_law 42 = .ok (.imul, 1) := by decide +kernel
theorem dL_law_43 : decode cL_law 43 = .ok (.goto 13, 3) := by decide +kernel
theorem dL_law_46 : decode cL_law 46 = .ok (.aload_n 0, 1) := by decide +kernel
theorem dL_law_47 : decode cL_law 47 = .ok (.iload 5, 2) := by decide +kernel
theorem dL_law_49 : decode cL_law 49 = .ok (.aload_n 0, 1) := by decide +kernel
theorem dL_law_50 : decode cL_law 50 = .ok (.arraylength, 1) := by decide +kernel
theorem dL_law_51 : decode cL_law 51 = .ok (.irem, 1) := by decide +kernel
theorem dL_law_52 : decode cL_law 52 = .ok (.iaload, 1) := by decide +kernel
theorem dL_law_53 : decode cL_law 53 = .ok (.bipush 8, 2) := by decide +kernel
theorem dL_law_55 : decode cL_law 55 = .ok (.iushr, 1) := by decide +kernel
theorem dL_law_56 : decode cL_law 56 = .ok (.istore 6, 2) := by decide +kernel
theorem dL_law_58 : decode cL_law 58 = .ok (.iload 6, 2) := by decide +kernel
theorem dL_law_60 : decode cL_law 60 = .ok (.bipush 16, 2) := by decide +kernel
theorem dL_law_62 : decode cL_law 62 = .ok (.irem, 1) := by decide +kernel
theorem dL_law_63 : decode cL_law 63 = .ok (.istore 7, 2) := by decide +kernel
theorem dL_law_65 : decode cL_law 65 = .ok (.iload 6, 2) := by decide +kernel
theorem dL_law_67 : decode cL_law 67 = .ok (.bipush 16, 2) := by decide +kernel
theorem dL_law_69 : decode cL_law 69 = .ok (.idiv, 1) := by decide +kernel
theorem dL_law_70 : decode cL_law 70 = .ok (.istore 8, 2) := by decide +kernel
theorem dL_law_72 : decode cL_law 72 = .ok (.iload 8, 2) := by decide +kernel
theorem dL_law_74 : decode cL_law 74 = .ok (.bipush 20, 2) := by decide +kernel
theorem dL_law_76 : decode cL_law 76 = .ok (.idiv, 1) := by decide +kernel
theorem dL_law_77 : decode cL_law 77 = .ok (.istore 9, 2) := by decide +kernel
theorem dL_law_79 : decode cL_law 79 = .ok (.iload 7, 2) := by decide +kernel
theorem dL_law_81 : decode cL_law 81 = .ok (.iconst 3, 1) := by decide +kernel
theorem dL_law_82 : decode cL_law 82 = .ok (.if_icmp .lt 7, 3) := by decide +kernel
theorem dL_law_85 : decode cL_law 85 = .ok (.iload_n 2, 1) := by decide +kernel
theorem dL_law_86 : decode cL_law 86 = .ok (.ifCond .ne 170, 3) := by decide +kernel
theorem dL_law_89 : decode cL_law 89 = .ok (.aload_n 1, 1) := by decide +kernel
theorem dL_law_90 : decode cL_law 90 = .ok (.invokevirtual 94, 3) := by decide +kernel
theorem dL_law_93 : decode cL_law 93 = .ok (.pop, 1) := by decide +kernel
theorem dL_law_94 : decode cL_law 94 = .ok (.iload 8, 2) := by decide +kernel
theorem dL_law_96 : decode cL_law 96 = .ok (.bipush 9, 2) := by decide +kernel
theorem dL_law_98 : decode cL_law 98 = .ok (.irem, 1) := by decide +kernel
theorem dL_law_99 : decode cL_law 99 = .ok (.istore 10, 2) := by decide +kernel
theorem dL_law_101 : decode cL_law 101 = .ok (.iconst 0, 1) := by decide +kernel
theorem dL_law_102 : decode cL_law 102 = .ok (.istore 11, 2) := by decide +kernel
theorem dL_law_104 : decode cL_law 104 = .ok (.iload 11, 2) := by decide +kernel
theorem dL_law_106 : decode cL_law 106 = .ok (.iload 10, 2) := by decide +kernel
theorem dL_law_108 : decode cL_law 108 = .ok (.if_icmp .ge 46, 3) := by decide +kernel
theorem dL_law_111 : decode cL_law 111 = .ok (.aload_n 1, 1) := by decide +kernel
theorem dL_law_112 : decode cL_law 112 = .ok (.iload 9, 2) := by decide +kernel
theorem dL_law_114 : decode cL_law 114 = .ok (.bipush 7, 2) := by decide +kernel
theorem dL_law_116 : decode cL_law 116 = .ok (.iload 11, 2) := by decide +kernel
theorem dL_law_118 : decode cL_law 118 = .ok (.imul, 1) := by decide +kernel
theorem dL_law_119 : decode cL_law 119 = .ok (.iload 11, 2) := by decide +kernel
theorem dL_law_121 : decode cL_law 121 = .ok (.imul, 1) := by decide +kernel
theorem dL_law_122 : decode cL_law 122 = .ok (.iadd, 1) := by decide +kernel
theorem dL_law_123 : decode cL_law 123 = .ok (.bipush 10, 2) := by decide +kernel
theorem dL_law_125 : decode cL_law 125 = .ok (.irem, 1) := by decide +kernel
theorem dL_law_126 : decode cL_law 126 = .ok (.iload 8, 2) := by decide +kernel
theorem dL_law_128 : decode cL_law 128 = .ok (.iload 11, 2) := by decide +kernel
theorem dL_law_130 : decode cL_law 130 = .ok (.iushr, 1) := by decide +kernel
theorem dL_law_131 : decode cL_law 131 = .ok (.bipush 12, 2) := by decide +kernel
theorem dL_law_133 : decode cL_law 133 = .ok (.irem, 1) := by decide +kernel
theorem dL_law_134 : decode cL_law 134 = .ok (.iconst 1, 1) := by decide +kernel
theorem dL_law_135 : decode cL_law 135 = .ok (.isub, 1) := by decide +kernel
theorem dL_law_136 : decode cL_law 136 = .ok (.invokevirtual 13, 3) := by decide +kernel
theorem dL_law_139 : decode cL_law 139 = .ok (.iload 11, 2) := by decide +kernel
theorem dL_law_141 : decode cL_law 141 = .ok (.iconst 1, 1) := by decide +kernel
theorem dL_law_142 : decode cL_law 142 = .ok (.iadd, 1) := by decide +kernel
theorem dL_law_143 : decode cL_law 143 = .ok (.if_icmp .eq 5, 3) := by decide +kernel
theorem dL_law_146 : decode cL_law 146 = .ok (.iconst 0, 1) := by decide +kernel
theorem dL_law_147 : decode cL_law 147 = .ok (.ireturn, 1) := by decide +kernel
theorem dL_law_148 : decode cL_law 148 = .ok (.iinc 11 1, 3) := by decide +kernel
theorem dL_law_151 : decode cL_law 151 = .ok (.goto (-47), 3) := by decide +kernel
theorem dL_law_154 : decode cL_law 154 = .ok (.iconst 0, 1) := by decide +kernel
theorem dL_law_155 : decode cL_law 155 = .ok (.istore 11, 2) := by decide +kernel
theorem dL_law_157 : decode cL_law 157 = .ok (.iload 11, 2) := by decide +kernel
theorem dL_law_159 : decode cL_law 159 = .ok (.iload 9, 2) := by decide +kernel
theorem dL_law_161 : decode cL_law 161 = .ok (.iconst 5, 1) := by decide +kernel
theorem dL_law_162 : decode cL_law 162 = .ok (.irem, 1) := by decide +kernel
theorem dL_law_163 : decode cL_law 163 = .ok (.if_icmp .ge 33, 3) := by decide +kernel
theorem dL_law_166 : decode cL_law 166 = .ok (.aload_n 1, 1) := by decide +kernel
theorem dL_law_167 : decode cL_law 167 = .ok (.iload 8, 2) := by decide +kernel
theorem dL_law_169 : decode cL_law 169 = .ok (.iload 11, 2) := by decide +kernel
theorem dL_law_171 : decode cL_law 171 = .ok (.iadd, 1) := by decide +kernel
theorem dL_law_172 : decode cL_law 172 = .ok (.bipush 19, 2) := by decide +kernel
theorem dL_law_174 : decode cL_law 174 = .ok (.irem, 1) := by decide +kernel
theorem dL_law_175 : decode cL_law 175 = .ok (.bipush 9, 2) := by decide +kernel
theorem dL_law_177 : decode cL_law 177 = .ok (.isub, 1) := by decide +kernel
theorem dL_law_178 : decode cL_law 178 = .ok (.invokevirtual 17, 3) := by decide +kernel
theorem dL_law_181 : decode cL_law 181 = .ok (.iload 11, 2) := by decide +kernel
theorem dL_law_183 : decode cL_law 183 = .ok (.iconst 1, 1) := by decide +kernel
theorem dL_law_184 : decode cL_law 184 = .ok (.iadd, 1) := by decide +kernel
theorem dL_law_185 : decode cL_law 185 = .ok (.if_icmp .eq 5, 3) := by decide +kernel
theorem dL_law_188 : decode cL_law 188 = .ok (.iconst 0, 1) := by decide +kernel
theorem dL_law_189 : decode cL_law 189 = .ok (.ireturn, 1) := by decide +kernel
theorem dL_law_190 : decode cL_law 190 = .ok (.iinc 11 1, 3) := by decide +kernel
theorem dL_law_193 : decode cL_law 193 = .ok (.goto (-36), 3) := by decide +kernel
theorem dL_law_196 : decode cL_law 196 = .ok (.iload 7, 2) := by decide +kernel
theorem dL_law_198 : decode cL_law 198 = .ok (.ifCond .eq 7, 3) := by decide +kernel
theorem dL_law_201 : decode cL_law 201 = .ok (.iload_n 2, 1) := by decide +kernel
theorem dL_law_202 : decode cL_law 202 = .ok (.ifCond .ne 51, 3) := by decide +kernel
theorem dL_law_205 : decode cL_law 205 = .ok (.aload_n 1, 1) := by decide +kernel
theorem dL_law_206 : decode cL_law 206 = .ok (.iconst 3, 1) := by decide +kernel
theorem dL_law_207 : decode cL_law 207 = .ok (.iconst 1, 1) := by decide +kernel
theorem dL_law_208 : decode cL_law 208 = .ok (.iload 8, 2) := by decide +kernel
theorem dL_law_210 : decode cL_law 210 = .ok (.bipush 60, 2) := by decide +kernel
theorem dL_law_212 : decode cL_law 212 = .ok (.irem, 1) := by decide +kernel
theorem dL_law_213 : decode cL_law 213 = .ok (.iadd, 1) := by decide +kernel
theorem dL_law_214 : decode cL_law 214 = .ok (.iload 9, 2) := by decide +kernel
theorem dL_law_216 : decode cL_law 216 = .ok (.iconst 2, 1) := by decide +kernel
theorem dL_law_217 : decode cL_law 217 = .ok (.irem, 1) := by decide +kernel
theorem dL_law_218 : decode cL_law 218 = .ok (.iconst 0, 1) := by decide +kernel
theorem dL_law_219 : decode cL_law 219 = .ok (.invokestatic 81, 3) := by decide +kernel
theorem dL_law_222 : decode cL_law 222 = .ok (.iload_n 2, 1) := by decide +kernel
theorem dL_law_223 : decode cL_law 223 = .ok (.bipush 6, 2) := by decide +kernel
theorem dL_law_225 : decode cL_law 225 = .ok (.if_icmp .ge 7, 3) := by decide +kernel
theorem dL_law_228 : decode cL_law 228 = .ok (.iload_n 2, 1) := by decide +kernel
theorem dL_law_229 : decode cL_law 229 = .ok (.goto 5, 3) := by decide +kernel
theorem dL_law_232 : decode cL_law 232 = .ok (.ldc 79, 2) := by decide +kernel
theorem dL_law_234 : decode cL_law 234 = .ok (.if_icmp .eq 5, 3) := by decide +kernel
theorem dL_law_237 : decode cL_law 237 = .ok (.iconst 0, 1) := by decide +kernel
theorem dL_law_238 : decode cL_law 238 = .ok (.ireturn, 1) := by decide +kernel
theorem dL_law_239 : decode cL_law 239 = .ok (.iload_n 2, 1) := by decide +kernel
theorem dL_law_240 : decode cL_law 240 = .ok (.iload_n 2, 1) := by decide +kernel
theorem dL_law_241 : decode cL_law 241 = .ok (.bipush 6, 2) := by decide +kernel
theorem dL_law_243 : decode cL_law 243 = .ok (.if_icmp .ge 7, 3) := by decide +kernel
theorem dL_law_246 : decode cL_law 246 = .ok (.iconst 1, 1) := by decide +kernel
theorem dL_law_247 : decode cL_law 247 = .ok (.goto 4, 3) := by decide +kernel
theorem dL_law_250 : decode cL_law 250 = .ok (.iconst 0, 1) := by decide +kernel
theorem dL_law_251 : decode cL_law 251 = .ok (.iadd, 1) := by decide +kernel
theorem dL_law_252 : decode cL_law 252 = .ok (.istore_n 2, 1) := by decide +kernel
theorem dL_law_253 : decode cL_law 253 = .ok (.goto 381, 3) := by decide +kernel
theorem dL_law_256 : decode cL_law 256 = .ok (.iload 7, 2) := by decide +kernel
theorem dL_law_258 : decode cL_law 258 = .ok (.bipush 6, 2) := by decide +kernel
theorem dL_law_260 : decode cL_law 260 = .ok (.if_icmp .ge 47, 3) := by decide +kernel
theorem dL_law_263 : decode cL_law 263 = .ok (.iload 9, 2) := by decide +kernel
theorem dL_law_265 : decode cL_law 265 = .ok (.iload_n 2, 1) := by decide +kernel
theorem dL_law_266 : decode cL_law 266 = .ok (.irem, 1) := by decide +kernel
theorem dL_law_267 : decode cL_law 267 = .ok (.istore 10, 2) := by decide +kernel
theorem dL_law_269 : decode cL_law 269 = .ok (.aload_n 1, 1) := by decide +kernel
theorem dL_law_270 : decode cL_law 270 = .ok (.iconst 4, 1) := by decide +kernel
theorem dL_law_271 : decode cL_law 271 = .ok (.iload 10, 2) := by decide +kernel
theorem dL_law_273 : decode cL_law 273 = .ok (.iload 8, 2) := by decide +kernel
theorem dL_law_275 : decode cL_law 275 = .ok (.iconst 4, 1) := by decide +kernel
theorem dL_law_276 : decode cL_law 276 = .ok (.irem, 1) := by decide +kernel
theorem dL_law_277 : decode cL_law 277 = .ok (.iconst 0, 1) := by decide +kernel
theorem dL_law_278 : decode cL_law 278 = .ok (.invokestatic 81, 3) := by decide +kernel
theorem dL_law_281 : decode cL_law 281 = .ok (.istore 11, 2) := by decide +kernel
theorem dL_law_283 : decode cL_law 283 = .ok (.iload 11, 2) := by decide +kernel
theorem dL_law_285 : decode cL_law 285 = .ok (.ldc 79, 2) := by decide +kernel
theorem dL_law_287 : decode cL_law 287 = .ok (.if_icmp .eq 17, 3) := by decide +kernel
theorem dL_law_290 : decode cL_law 290 = .ok (.iload 11, 2) := by decide +kernel
theorem dL_law_292 : decode cL_law 292 = .ok (.ifCond .lt 10, 3) := by decide +kernel
theorem dL_law_295 : decode cL_law 295 = .ok (.iload 11, 2) := by decide +kernel
theorem dL_law_297 : decode cL_law 297 = .ok (.bipush 11, 2) := by decide +kernel
theorem dL_law_299 : decode cL_law 299 = .ok (.if_icmp .le 5, 3) := by decide +kernel
theorem dL_law_302 : decode cL_law 302 = .ok (.iconst 0, 1) := by decide +kernel
theorem dL_law_303 : decode cL_law 303 = .ok (.ireturn, 1) := by decide +kernel
theorem dL_law_304 : decode cL_law 304 = .ok (.goto 330, 3) := by decide +kernel
theorem dL_law_307 : decode cL_law 307 = .ok (.iload 7, 2) := by decide +kernel
theorem dL_law_309 : decode cL_law 309 = .ok (.bipush 10, 2) := by decide +kernel
theorem dL_law_311 : decode cL_law 311 = .ok (.if_icmp .ge 53, 3) := by decide +kernel
theorem dL_law_314 : decode cL_law 314 = .ok (.aload_n 1, 1) := by decide +kernel
theorem dL_law_315 : decode cL_law 315 = .ok (.bipush 8, 2) := by decide +kernel
theorem dL_law_317 : decode cL_law 317 = .ok (.iload 8, 2) := by decide +kernel
theorem dL_law_319 : decode cL_law 319 = .ok (.bipush 8, 2) := by decide +kernel
theorem dL_law_321 : decode cL_law 321 = .ok (.irem, 1) := by decide +kernel
theorem dL_law_322 : decode cL_law 322 = .ok (.iload 9, 2) := by decide +kernel
theorem dL_law_324 : decode cL_law 324 = .ok (.iload_n 2, 1) := by decide +kernel
theorem dL_law_325 : decode cL_law 325 = .ok (.irem, 1) := by decide +kernel
theorem dL_law_326 : decode cL_law 326 = .ok (.iconst 0, 1) := by decide +kernel
theorem dL_law_327 : decode cL_law 327 = .ok (.invokestatic 81, 3) := by decide +kernel
theorem dL_law_330 : decode cL_law 330 = .ok (.iload_n 3, 1) := by decide +kernel
theorem dL_law_331 : decode cL_law 331 = .ok (.bipush 60, 2) := by decide +kernel
theorem dL_law_333 : decode cL_law 333 = .ok (.if_icmp .ge 7, 3) := by decide +kernel
theorem dL_law_336 : decode cL_law 336 = .ok (.iload_n 3, 1) := by decide +kernel
theorem dL_law_337 : decode cL_law 337 = .ok (.goto 5, 3) := by decide +kernel
theorem dL_law_340 : decode cL_law 340 = .ok (.ldc 79, 2) := by decide +kernel
theorem dL_law_342 : decode cL_law 342 = .ok (.if_icmp .eq 5, 3) := by decide +kernel
theorem dL_law_345 : decode cL_law 345 = .ok (.iconst 0, 1) := by decide +kernel
theorem dL_law_346 : decode cL_law 346 = .ok (.ireturn, 1) := by decide +kernel
theorem dL_law_347 : decode cL_law 347 = .ok (.iload_n 3, 1) := by decide +kernel
theorem dL_law_348 : decode cL_law 348 = .ok (.iload_n 3, 1) := by decide +kernel
theorem dL_law_349 : decode cL_law 349 = .ok (.bipush 60, 2) := by decide +kernel
theorem dL_law_351 : decode cL_law 351 = .ok (.if_icmp .ge 7, 3) := by decide +kernel
theorem dL_law_354 : decode cL_law 354 = .ok (.iconst 1, 1) := by decide +kernel
theorem dL_law_355 : decode cL_law 355 = .ok (.goto 4, 3) := by decide +kernel
theorem dL_law_358 : decode cL_law 358 = .ok (.iconst 0, 1) := by decide +kernel
theorem dL_law_359 : decode cL_law 359 = .ok (.iadd, 1) := by decide +kernel
theorem dL_law_360 : decode cL_law 360 = .ok (.istore_n 3, 1) := by decide +kernel
theorem dL_law_361 : decode cL_law 361 = .ok (.goto 273, 3) := by decide +kernel
theorem dL_law_364 : decode cL_law 364 = .ok (.iload 7, 2) := by decide +kernel
theorem dL_law_366 : decode cL_law 366 = .ok (.bipush 13, 2) := by decide +kernel
theorem dL_law_368 : decode cL_law 368 = .ok (.if_icmp .ge 108, 3) := by decide +kernel
theorem dL_law_371 : decode cL_law 371 = .ok (.aload_n 1, 1) := by decide +kernel
theorem dL_law_372 : decode cL_law 372 = .ok (.invokevirtual 107, 3) := by decide +kernel
theorem dL_law_375 : decode cL_law 375 = .ok (.istore 10, 2) := by decide +kernel
theorem dL_law_377 : decode cL_law 377 = .ok (.iload 10, 2) := by decide +kernel
theorem dL_law_379 : decode cL_law 379 = .ok (.ifCond .lt 71, 3) := by decide +kernel
theorem dL_law_382 : decode cL_law 382 = .ok (.aload_n 1, 1) := by decide +kernel
theorem dL_law_383 : decode cL_law 383 = .ok (.iload 10, 2) := by decide +kernel
theorem dL_law_385 : decode cL_law 385 = .ok (.iconst 0, 1) := by decide +kernel
theorem dL_law_386 : decode cL_law 386 = .ok (.invokevirtual 49, 3) := by decide +kernel
theorem dL_law_389 : decode cL_law 389 = .ok (.ifCond .lt 59, 3) := by decide +kernel
theorem dL_law_392 : decode cL_law 392 = .ok (.aload_n 1, 1) := by decide +kernel
theorem dL_law_393 : decode cL_law 393 = .ok (.iload 10, 2) := by decide +kernel
theorem dL_law_395 : decode cL_law 395 = .ok (.iconst 0, 1) := by decide +kernel
theorem dL_law_396 : decode cL_law 396 = .ok (.invokevirtual 49, 3) := by decide +kernel
theorem dL_law_399 : decode cL_law 399 = .ok (.ifCond .ne 7, 3) := by decide +kernel
theorem dL_law_402 : decode cL_law 402 = .ok (.iconst 1, 1) := by decide +kernel
theorem dL_law_403 : decode cL_law 403 = .ok (.goto 4, 3) := by decide +kernel
theorem dL_law_406 : decode cL_law 406 = .ok (.iconst 0, 1) := by decide +kernel
theorem dL_law_407 : decode cL_law 407 = .ok (.aload_n 1, 1) := by decide +kernel
theorem dL_law_408 : decode cL_law 408 = .ok (.iload 10, 2) := by decide +kernel
theorem dL_law_410 : decode cL_law 410 = .ok (.iconst 1, 1) := by decide +kernel
theorem dL_law_411 : decode cL_law 411 = .ok (.invokevirtual 49, 3) := by decide +kernel
theorem dL_law_414 : decode cL_law 414 = .ok (.ifCond .ge 7, 3) := by decide +kernel
theorem dL_law_417 : decode cL_law 417 = .ok (.iconst 1, 1) := by decide +kernel
theorem dL_law_418 : decode cL_law 418 = .ok (.goto 4, 3) := by decide +kernel
theorem dL_law_421 : decode cL_law 421 = .ok (.iconst 0, 1) := by decide +kernel
theorem dL_law_422 : decode cL_law 422 = .ok (.if_icmp .ne 26, 3) := by decide +kernel
theorem dL_law_425 : decode cL_law 425 = .ok (.aload_n 1, 1) := by decide +kernel
theorem dL_law_426 : decode cL_law 426 = .ok (.iload 10, 2) := by decide +kernel
theorem dL_law_428 : decode cL_law 428 = .ok (.iconst 0, 1) := by decide +kernel
theorem dL_law_429 : decode cL_law 429 = .ok (.invokevirtual 49, 3) := by decide +kernel
theorem dL_law_432 : decode cL_law 432 = .ok (.ifCond .le 18, 3) := by decide +kernel
theorem dL_law_435 : decode cL_law 435 = .ok (.aload_n 1, 1) := by decide +kernel
theorem dL_law_436 : decode cL_law 436 = .ok (.iload 10, 2) := by decide +kernel
theorem dL_law_438 : decode cL_law 438 = .ok (.iconst 2, 1) := by decide +kernel
theorem dL_law_439 : decode cL_law 439 = .ok (.invokevirtual 49, 3) := by decide +kernel
theorem dL_law_442 : decode cL_law 442 = .ok (.sipush 300, 3) := by decide +kernel
theorem dL_law_445 : decode cL_law 445 = .ok (.if_icmp .le 5, 3) := by decide +kernel
theorem dL_law_448 : decode cL_law 448 = .ok (.iconst 0, 1) := by decide +kernel
theorem dL_law_449 : decode cL_law 449 = .ok (.ireturn, 1) := by decide +kernel
theorem dL_law_450 : decode cL_law 450 = .ok (.iload 10, 2) := by decide +kernel
theorem dL_law_452 : decode cL_law 452 = .ok (.ifCond .ge 21, 3) := by decide +kernel
theorem dL_law_455 : decode cL_law 455 = .ok (.iload_n 3, 1) := by decide +kernel
theorem dL_law_456 : decode cL_law 456 = .ok (.ifCond .le 17, 3) := by decide +kernel
theorem dL_law_459 : decode cL_law 459 = .ok (.aload_n 1, 1) := by decide +kernel
theorem dL_law_460 : decode cL_law 460 = .ok (.iload 8, 2) := by decide +kernel
theorem dL_law_462 : decode cL_law 462 = .ok (.iload_n 3, 1) := by decide +kernel
theorem dL_law_463 : decode cL_law 463 = .ok (.irem, 1) := by decide +kernel
theorem dL_law_464 : decode cL_law 464 = .ok (.iconst 0, 1) := by decide +kernel
theorem dL_law_465 : decode cL_law 465 = .ok (.invokevirtual 49, 3) := by decide +kernel
theorem dL_law_468 : decode cL_law 468 = .ok (.ifCond .ge 5, 3) := by decide +kernel
theorem dL_law_471 : decode cL_law 471 = .ok (.iconst 0, 1) := by decide +kernel
theorem dL_law_472 : decode cL_law 472 = .ok (.ireturn, 1) := by decide +kernel
theorem dL_law_473 : decode cL_law 473 = .ok (.goto 161, 3) := by decide +kernel
theorem dL_law_476 : decode cL_law 476 = .ok (.iload 7, 2) := by decide +kernel
theorem dL_law_478 : decode cL_law 478 = .ok (.bipush 13, 2) := by decide +kernel
theorem dL_law_480 : decode cL_law 480 = .ok (.if_icmp .ne 45, 3) := by decide +kernel
theorem dL_law_483 : decode cL_law 483 = .ok (.aload_n 1, 1) := by decide +kernel
theorem dL_law_484 : decode cL_law 484 = .ok (.bipush 6, 2) := by decide +kernel
theorem dL_law_486 : decode cL_law 486 = .ok (.iload 9, 2) := by decide +kernel
theorem dL_law_488 : decode cL_law 488 = .ok (.iload_n 2, 1) := by decide +kernel
theorem dL_law_489 : decode cL_law 489 = .ok (.irem, 1) := by decide +kernel
theorem dL_law_490 : decode cL_law 490 = .ok (.iload 8, 2) := by decide +kernel
theorem dL_law_492 : decode cL_law 492 = .ok (.iconst 2, 1) := by decide +kernel
theorem dL_law_493 : decode cL_law 493 = .ok (.irem, 1) := by decide +kernel
theorem dL_law_494 : decode cL_law 494 = .ok (.iconst 0, 1) := by decide +kernel
theorem dL_law_495 : decode cL_law 495 = .ok (.invokestatic 81, 3) := by decide +kernel
theorem dL_law_498 : decode cL_law 498 = .ok (.ifCond .eq 25, 3) := by decide +kernel
theorem dL_law_501 : decode cL_law 501 = .ok (.aload_n 1, 1) := by decide +kernel
theorem dL_law_502 : decode cL_law 502 = .ok (.iload 9, 2) := by decide +kernel
theorem dL_law_504 : decode cL_law 504 = .ok (.iload_n 2, 1) := by decide +kernel
theorem dL_law_505 : decode cL_law 505 = .ok (.irem, 1) := by decide +kernel
theorem dL_law_506 : decode cL_law 506 = .ok (.invokevirtual 46, 3) := by decide +kernel
theorem dL_law_509 : decode cL_law 509 = .ok (.ifCond .lt 14, 3) := by decide +kernel
theorem dL_law_512 : decode cL_law 512 = .ok (.aload_n 1, 1) := by decide +kernel
theorem dL_law_513 : decode cL_law 513 = .ok (.iload 9, 2) := by decide +kernel
theorem dL_law_515 : decode cL_law 515 = .ok (.iload_n 2, 1) := by decide +kernel
theorem dL_law_516 : decode cL_law 516 = .ok (.irem, 1) := by decide +kernel
theorem dL_law_517 : decode cL_law 517 = .ok (.invokevirtual 46, 3) := by decide +kernel
theorem dL_law_520 : decode cL_law 520 = .ok (.ifCond .eq 114, 3) := by decide +kernel
theorem dL_law_523 : decode cL_law 523 = .ok (.iconst 0, 1) := by decide +kernel
theorem dL_law_524 : decode cL_law 524 = .ok (.ireturn, 1) := by decide +kernel
theorem dL_law_525 : decode cL_law 525 = .ok (.iload 7, 2) := by decide +kernel
theorem dL_law_527 : decode cL_law 527 = .ok (.bipush 14, 2) := by decide +kernel
theorem dL_law_529 : decode cL_law 529 = .ok (.if_icmp .ne 67, 3) := by decide +kernel
theorem dL_law_532 : decode cL_law 532 = .ok (.iload_n 3, 1) := by decide +kernel
theorem dL_law_533 : decode cL_law 533 = .ok (.ifCond .le 23, 3) := by decide +kernel
theorem dL_law_536 : decode cL_law 536 = .ok (.aload_n 1, 1) := by decide +kernel
theorem dL_law_537 : decode cL_law 537 = .ok (.bipush 16, 2) := by decide +kernel
theorem dL_law_539 : decode cL_law 539 = .ok (.iload 8, 2) := by decide +kernel
theorem dL_law_541 : decode cL_law 541 = .ok (.bipush 8, 2) := by decide +kernel
theorem dL_law_543 : decode cL_law 543 = .ok (.irem, 1) := by decide +kernel
theorem dL_law_544 : decode cL_law 544 = .ok (.iload 9, 2) := by decide +kernel
theorem dL_law_546 : decode cL_law 546 = .ok (.iload_n 3, 1) := by decide +kernel
theorem dL_law_547 : decode cL_law 547 = .ok (.irem, 1) := by decide +kernel
theorem dL_law_548 : decode cL_law 548 = .ok (.iconst 0, 1) := by decide +kernel
theorem dL_law_549 : decode cL_law 549 = .ok (.invokestatic 81, 3) := by decide +kernel
theorem dL_law_552 : decode cL_law 552 = .ok (.iconst 1, 1) := by decide +kernel
theorem dL_law_553 : decode cL_law 553 = .ok (.if_icmp .gt 41, 3) := by decide +kernel
theorem dL_law_556 : decode cL_law 556 = .ok (.aload_n 1, 1) := by decide +kernel
theorem dL_law_557 : decode cL_law 557 = .ok (.bipush 13, 2) := by decide +kernel
theorem dL_law_559 : decode cL_law 559 = .ok (.iload 8, 2) := by decide +kernel
theorem dL_law_561 : decode cL_law 561 = .ok (.iconst 5, 1) := by decide +kernel
theorem dL_law_562 : decode cL_law 562 = .ok (.irem, 1) := by decide +kernel
theorem dL_law_563 : decode cL_law 563 = .ok (.ifCond .ne 7, 3) := by decide +kernel
theorem dL_law_566 : decode cL_law 566 = .ok (.iconst (-1), 1) := by decide +kernel
theorem dL_law_567 : decode cL_law 567 = .ok (.goto 10, 3) := by decide +kernel
theorem dL_law_570 : decode cL_law 570 = .ok (.iload 9, 2) := by decide +kernel
theorem dL_law_572 : decode cL_law 572 = .ok (.iload 4, 2) := by decide +kernel
theorem dL_law_574 : decode cL_law 574 = .ok (.iconst 1, 1) := by decide +kernel
theorem dL_law_575 : decode cL_law 575 = .ok (.iadd, 1) := by decide +kernel
theorem dL_law_576 : decode cL_law 576 = .ok (.irem, 1) := by decide +kernel
theorem dL_law_577 : decode cL_law 577 = .ok (.iconst 0, 1) := by decide +kernel
theorem dL_law_578 : decode cL_law 578 = .ok (.iconst 0, 1) := by decide +kernel
theorem dL_law_579 : decode cL_law 579 = .ok (.invokestatic 81, 3) := by decide +kernel
theorem dL_law_582 : decode cL_law 582 = .ok (.iconst 1, 1) := by decide +kernel
theorem dL_law_583 : decode cL_law 583 = .ok (.if_icmp .ne 11, 3) := by decide +kernel
theorem dL_law_586 : decode cL_law 586 = .ok (.aload_n 1, 1) := by decide +kernel
theorem dL_law_587 : decode cL_law 587 = .ok (.invokevirtual 110, 3) := by decide +kernel
theorem dL_law_590 : decode cL_law 590 = .ok (.iconst (-1), 1) := by decide +kernel
theorem dL_law_591 : decode cL_law 591 = .ok (.if_icmp .ge 43, 3) := by decide +kernel
theorem dL_law_594 : decode cL_law 594 = .ok (.iconst 0, 1) := by decide +kernel
theorem dL_law_595 : decode cL_law 595 = .ok (.ireturn, 1) := by decide +kernel
theorem dL_law_596 : decode cL_law 596 = .ok (.iload 4, 2) := by decide +kernel
theorem dL_law_598 : decode cL_law 598 = .ok (.sipush 9000, 3) := by decide +kernel
theorem dL_law_601 : decode cL_law 601 = .ok (.if_icmp .ge 33, 3) := by decide +kernel
theorem dL_law_604 : decode cL_law 604 = .ok (.iload 4, 2) := by decide +kernel
theorem dL_law_606 : decode cL_law 606 = .ok (.iconst 1, 1) := by decide +kernel
theorem dL_law_607 : decode cL_law 607 = .ok (.iload 8, 2) := by decide +kernel
theorem dL_law_609 : decode cL_law 609 = .ok (.bipush 99, 2) := by decide +kernel
theorem dL_law_611 : decode cL_law 611 = .ok (.irem, 1) := by decide +kernel
theorem dL_law_612 : decode cL_law 612 = .ok (.iadd, 1) := by decide +kernel
theorem dL_law_613 : decode cL_law 613 = .ok (.iadd, 1) := by decide +kernel
theorem dL_law_614 : decode cL_law 614 = .ok (.istore 4, 2) := by decide +kernel
theorem dL_law_616 : decode cL_law 616 = .ok (.aload_n 1, 1) := by decide +kernel
theorem dL_law_617 : decode cL_law 617 = .ok (.iconst 1, 1) := by decide +kernel
theorem dL_law_618 : decode cL_law 618 = .ok (.iload 8, 2) := by decide +kernel
theorem dL_law_620 : decode cL_law 620 = .ok (.bipush 99, 2) := by decide +kernel
theorem dL_law_622 : decode cL_law 622 = .ok (.irem, 1) := by decide +kernel
theorem dL_law_623 : decode cL_law 623 = .ok (.iadd, 1) := by decide +kernel
theorem dL_law_624 : decode cL_law 624 = .ok (.invokevirtual 43, 3) := by decide +kernel
theorem dL_law_627 : decode cL_law 627 = .ok (.iload 4, 2) := by decide +kernel
theorem dL_law_629 : decode cL_law 629 = .ok (.if_icmp .eq 5, 3) := by decide +kernel
theorem dL_law_632 : decode cL_law 632 = .ok (.iconst 0, 1) := by decide +kernel
theorem dL_law_633 : decode cL_law 633 = .ok (.ireturn, 1) := by decide +kernel
theorem dL_law_634 : decode cL_law 634 = .ok (.iconst 0, 1) := by decide +kernel
theorem dL_law_635 : decode cL_law 635 = .ok (.istore 10, 2) := by decide +kernel
theorem dL_law_637 : decode cL_law 637 = .ok (.iconst 0, 1) := by decide +kernel
theorem dL_law_638 : decode cL_law 638 = .ok (.istore 11, 2) := by decide +kernel
theorem dL_law_640 : decode cL_law 640 = .ok (.iconst 0, 1) := by decide +kernel
theorem dL_law_641 : decode cL_law 641 = .ok (.istore 12, 2) := by decide +kernel
theorem dL_law_643 : decode cL_law 643 = .ok (.iconst 0, 1) := by decide +kernel
theorem dL_law_644 : decode cL_law 644 = .ok (.istore 13, 2) := by decide +kernel
theorem dL_law_646 : decode cL_law 646 = .ok (.iload 13, 2) := by decide +kernel
theorem dL_law_648 : decode cL_law 648 = .ok (.bipush 8, 2) := by decide +kernel
theorem dL_law_650 : decode cL_law 650 = .ok (.if_icmp .ge 67, 3) := by decide +kernel
theorem dL_law_653 : decode cL_law 653 = .ok (.iload 10, 2) := by decide +kernel
theorem dL_law_655 : decode cL_law 655 = .ok (.iconst 1, 1) := by decide +kernel
theorem dL_law_656 : decode cL_law 656 = .ok (.aload_n 1, 1) := by decide +kernel
theorem dL_law_657 : decode cL_law 657 = .ok (.iload 13, 2) := by decide +kernel
theorem dL_law_659 : decode cL_law 659 = .ok (.iconst 0, 1) := by decide +kernel
theorem dL_law_660 : decode cL_law 660 = .ok (.iconst 0, 1) := by decide +kernel
theorem dL_law_661 : decode cL_law 661 = .ok (.invokevirtual 60, 3) := by decide +kernel
theorem dL_law_664 : decode cL_law 664 = .ok (.ishl, 1) := by decide +kernel
theorem dL_law_665 : decode cL_law 665 = .ok (.ior, 1) := by decide +kernel
theorem dL_law_666 : decode cL_law 666 = .ok (.istore 10, 2) := by decide +kernel
theorem dL_law_668 : decode cL_law 668 = .ok (.iload 11, 2) := by decide +kernel
theorem dL_law_670 : decode cL_law 670 = .ok (.iconst 1, 1) := by decide +kernel
theorem dL_law_671 : decode cL_law 671 = .ok (.aload_n 1, 1) := by decide +kernel
theorem dL_law_672 : decode cL_law 672 = .ok (.iload 13, 2) := by decide +kernel
theorem dL_law_674 : decode cL_law 674 = .ok (.iconst 1, 1) := by decide +kernel
theorem dL_law_675 : decode cL_law 675 = .ok (.iconst 0, 1) := by decide +kernel
theorem dL_law_676 : decode cL_law 676 = .ok (.invokevirtual 60, 3) := by decide +kernel
theorem dL_law_679 : decode cL_law 679 = .ok (.ishl, 1) := by decide +kernel
theorem dL_law_680 : decode cL_law 680 = .ok (.ior, 1) := by decide +kernel
theorem dL_law_681 : decode cL_law 681 = .ok (.istore 11, 2) := by decide +kernel
theorem dL_law_683 : decode cL_law 683 = .ok (.iload 12, 2) := by decide +kernel
theorem dL_law_685 : decode cL_law 685 = .ok (.iload 5, 2) := by decide +kernel
theorem dL_law_687 : decode cL_law 687 = .ok (.bipush 8, 2) := by decide +kernel
theorem dL_law_689 : decode cL_law 689 = .ok (.irem, 1) := by decide +kernel
theorem dL_law_690 : decode cL_law 690 = .ok (.ifCond .ne 14, 3) := by decide +kernel
theorem dL_law_693 : decode cL_law 693 = .ok (.iconst 1, 1) := by decide +kernel
theorem dL_law_694 : decode cL_law 694 = .ok (.aload_n 1, 1) := by decide +kernel
theorem dL_law_695 : decode cL_law 695 = .ok (.iload 13, 2) := by decide +kernel
theorem dL_law_697 : decode cL_law 697 = .ok (.invokevirtual 64, 3) := by decide +kernel
theorem dL_law_700 : decode cL_law 700 = .ok (.ishl, 1) := by decide +kernel
theorem dL_law_701 : decode cL_law 701 = .ok (.goto 7, 3) := by decide +kernel
theorem dL_law_704 : decode cL_law 704 = .ok (.iconst 1, 1) := by decide +kernel
theorem dL_law_705 : decode cL_law 705 = .ok (.iload 13, 2) := by decide +kernel
theorem dL_law_707 : decode cL_law 707 = .ok (.ishl, 1) := by decide +kernel
theorem dL_law_708 : decode cL_law 708 = .ok (.ior, 1) := by decide +kernel
theorem dL_law_709 : decode cL_law 709 = .ok (.istore 12, 2) := by decide +kernel
theorem dL_law_711 : decode cL_law 711 = .ok (.iinc 13 1, 3) := by decide +kernel
theorem dL_law_714 : decode cL_law 714 = .ok (.goto (-68), 3) := by decide +kernel
theorem dL_law_717 : decode cL_law 717 = .ok (.iload 10, 2) := by decide +kernel
theorem dL_law_719 : decode cL_law 719 = .ok (.sipush 255, 3) := by decide +kernel
theorem dL_law_722 : decode cL_law 722 = .ok (.if_icmp .ne 50, 3) := by decide +kernel
theorem dL_law_725 : decode cL_law 725 = .ok (.iload 11, 2) := by decide +kernel
theorem dL_law_727 : decode cL_law 727 = .ok (.sipush 255, 3) := by decide +kernel
theorem dL_law_730 : decode cL_law 730 = .ok (.if_icmp .ne 42, 3) := by decide +kernel
theorem dL_law_733 : decode cL_law 733 = .ok (.iload 12, 2) := by decide +kernel
theorem dL_law_735 : decode cL_law 735 = .ok (.sipush 255, 3) := by decide +kernel
theorem dL_law_738 : decode cL_law 738 = .ok (.if_icmp .ne 34, 3) := by decide +kernel
theorem dL_law_741 : decode cL_law 741 = .ok (.iload_n 3, 1) := by decide +kernel
theorem dL_law_742 : decode cL_law 742 = .ok (.ifCond .le 32, 3) := by decide +kernel
theorem dL_law_745 : decode cL_law 745 = .ok (.aload_n 1, 1) := by decide +kernel
theorem dL_law_746 : decode cL_law 746 = .ok (.iload 8, 2) := by decide +kernel
theorem dL_law_748 : decode cL_law 748 = .ok (.iload_n 3, 1) := by decide +kernel
theorem dL_law_749 : decode cL_law 749 = .ok (.irem, 1) := by decide +kernel
theorem dL_law_750 : decode cL_law 750 = .ok (.iload 9, 2) := by decide +kernel
theorem dL_law_752 : decode cL_law 752 = .ok (.iload_n 3, 1) := by decide +kernel
theorem dL_law_753 : decode cL_law 753 = .ok (.irem, 1) := by decide +kernel
theorem dL_law_754 : decode cL_law 754 = .ok (.invokevirtual 52, 3) := by decide +kernel
theorem dL_law_757 : decode cL_law 757 = .ok (.aload_n 1, 1) := by decide +kernel
theorem dL_law_758 : decode cL_law 758 = .ok (.iload 9, 2) := by decide +kernel
theorem dL_law_760 : decode cL_law 760 = .ok (.iload_n 3, 1) := by decide +kernel
theorem dL_law_761 : decode cL_law 761 = .ok (.irem, 1) := by decide +kernel
theorem dL_law_762 : decode cL_law 762 = .ok (.iload 8, 2) := by decide +kernel
theorem dL_law_764 : decode cL_law 764 = .ok (.iload_n 3, 1) := by decide +kernel
theorem dL_law_765 : decode cL_law 765 = .ok (.irem, 1) := by decide +kernel
theorem dL_law_766 : decode cL_law 766 = .ok (.invokevirtual 52, 3) := by decide +kernel
theorem dL_law_769 : decode cL_law 769 = .ok (.if_icmp .eq 5, 3) := by decide +kernel
theorem dL_law_772 : decode cL_law 772 = .ok (.iconst 0, 1) := by decide +kernel
theorem dL_law_773 : decode cL_law 773 = .ok (.ireturn, 1) := by decide +kernel
theorem dL_law_774 : decode cL_law 774 = .ok (.iload 5, 2) := by decide +kernel
theorem dL_law_776 : decode cL_law 776 = .ok (.bipush 20, 2) := by decide +kernel
theorem dL_law_778 : decode cL_law 778 = .ok (.irem, 1) := by decide +kernel
theorem dL_law_779 : decode cL_law 779 = .ok (.ifCond .ne 14, 3) := by decide +kernel
theorem dL_law_782 : decode cL_law 782 = .ok (.aload_n 1, 1) := by decide +kernel
theorem dL_law_783 : decode cL_law 783 = .ok (.iload_n 2, 1) := by decide +kernel
theorem dL_law_784 : decode cL_law 784 = .ok (.iload_n 3, 1) := by decide +kernel
theorem dL_law_785 : decode cL_law 785 = .ok (.invokestatic 99, 3) := by decide +kernel
theorem dL_law_788 : decode cL_law 788 = .ok (.ifCond .ne 5, 3) := by decide +kernel
theorem dL_law_791 : decode cL_law 791 = .ok (.iconst 0, 1) := by decide +kernel
theorem dL_law_792 : decode cL_law 792 = .ok (.ireturn, 1) := by decide +kernel
theorem dL_law_793 : decode cL_law 793 = .ok (.iinc 5 1, 3) := by decide +kernel
theorem dL_law_796 : decode cL_law 796 = .ok (.goto (-770), 3) := by decide +kernel
theorem dL_law_799 : decode cL_law 799 = .ok (.iconst 1, 1) := by decide +kernel
theorem dL_law_800 : decode cL_law 800 = .ok (.ireturn, 1) := by decide +kernel
