theorem dL_freeze_0 : decode cL_freeze 0 = .ok (.aload_n 0, 1) := by decide +kernel
theorem dL_freeze_1 : decode cL_freeze 1 = .ok (.iload_n 1, 1) := by decide +kernel
theorem dL_freeze_2 : decode cL_freeze 2 = .ok (.invokevirtual 7, 3) := by decide +kernel
theorem dL_freeze_5 : decode cL_freeze 5 = .ok (.iconst 1, 1) := by decide +kernel
theorem dL_freeze_6 : decode cL_freeze 6 = .ok (.ireturn, 1) := by decide +kernel
theorem dL_act_0 : decode cL_act 0 = .ok (.iload_n 1, 1) := by decide +kernel
theorem dL_act_1 : decode cL_act 1 = .ok (.ifCond .ne 12, 3) := by decide +kernel
theorem dL_act_4 : decode cL_act 4 = .ok (.aload_n 0, 1) := by decide +kernel
theorem dL_act_5 : decode cL_act 5 = .ok (.iload_n 2, 1) := by decide +kernel
theorem dL_act_6 : decode cL_act 6 = .ok (.iload_n 3, 1) := by decide +kernel
theorem dL_act_7 : decode cL_act 7 = .ok (.invokevirtual 13, 3) := by decide +kernel
theorem dL_act_10 : decode cL_act 10 = .ok (.goto 247, 3) := by decide +kernel
theorem dL_act_13 : decode cL_act 13 = .ok (.iload_n 1, 1) := by decide +kernel
theorem dL_act_14 : decode cL_act 14 = .ok (.iconst 1, 1) := by decide +kernel
theorem dL_act_15 : decode cL_act 15 = .ok (.if_icmp .ne 11, 3) := by decide +kernel
theorem dL_act_18 : decode cL_act 18 = .ok (.aload_n 0, 1) := by decide +kernel
theorem dL_act_19 : decode cL_act 19 = .ok (.iload_n 2, 1) := by decide +kernel
theorem dL_act_20 : decode cL_act 20 = .ok (.invokevirtual 17, 3) := by decide +kernel
theorem dL_act_23 : decode cL_act 23 = .ok (.goto 234, 3) := by decide +kernel
theorem dL_act_26 : decode cL_act 26 = .ok (.iload_n 1, 1) := by decide +kernel
theorem dL_act_27 : decode cL_act 27 = .ok (.iconst 2, 1) := by decide +kernel
theorem dL_act_28 : decode cL_act 28 = .ok (.if_icmp .ne 12, 3) := by decide +kernel
theorem dL_act_31 : decode cL_act 31 = .ok (.aload_n 0, 1) := by decide +kernel
theorem dL_act_32 : decode cL_act 32 = .ok (.iload_n 2, 1) := by decide +kernel
theorem dL_act_33 : decode cL_act 33 = .ok (.iload_n 3, 1) := by decide +kernel
theorem dL_act_34 : decode cL_act 34 = .ok (.invokevirtual 21, 3) := by decide +kernel
theorem dL_act_37 : decode cL_act 37 = .ok (.goto 220, 3) := by decide +kernel
theorem dL_act_40 : decode cL_act 40 = .ok (.iload_n 1, 1) := by decide +kernel
theorem dL_act_41 : decode cL_act 41 = .ok (.iconst 3, 1) := by decide +kernel
theorem dL_act_42 : decode cL_act 42 = .ok (.if_icmp .ne 12, 3) := by decide +kernel
theorem dL_act_45 : decode cL_act 45 = .ok (.aload_n 0, 1) := by decide +kernel
theorem dL_act_46 : decode cL_act 46 = .ok (.iload_n 2, 1) := by decide +kernel
theorem dL_act_47 : decode cL_act 47 = .ok (.iload_n 3, 1) := by decide +kernel
theorem dL_act_48 : decode cL_act 48 = .ok (.invokevirtual 24, 3) := by decide +kernel
theorem dL_act_51 : decode cL_act 51 = .ok (.goto 206, 3) := by decide +kernel
theorem dL_act_54 : decode cL_act 54 = .ok (.iload_n 1, 1) := by decide +kernel
theorem dL_act_55 : decode cL_act 55 = .ok (.iconst 4, 1) := by decide +kernel
theorem dL_act_56 : decode cL_act 56 = .ok (.if_icmp .ne 12, 3) := by decide +kernel
theorem dL_act_59 : decode cL_act 59 = .ok (.aload_n 0, 1) := by decide +kernel
theorem dL_act_60 : decode cL_act 60 = .ok (.iload_n 2, 1) := by decide +kernel
theorem dL_act_61 : decode cL_act 61 = .ok (.iload_n 3, 1) := by decide +kernel
theorem dL_act_62 : decode cL_act 62 = .ok (.invokevirtual 27, 3) := by decide +kernel
theorem dL_act_65 : decode cL_act 65 = .ok (.goto 192, 3) := by decide +kernel
theorem dL_act_68 : decode cL_act 68 = .ok (.iload_n 1, 1) := by decide +kernel
theorem dL_act_69 : decode cL_act 69 = .ok (.iconst 5, 1) := by decide +kernel
theorem dL_act_70 : decode cL_act 70 = .ok (.if_icmp .ne 14, 3) := by decide +kernel
theorem dL_act_73 : decode cL_act 73 = .ok (.aload_n 0, 1) := by decide +kernel
theorem dL_act_74 : decode cL_act 74 = .ok (.iload_n 2, 1) := by decide +kernel
theorem dL_act_75 : decode cL_act 75 = .ok (.iload_n 3, 1) := by decide +kernel
theorem dL_act_76 : decode cL_act 76 = .ok (.iload 4, 2) := by decide +kernel
theorem dL_act_78 : decode cL_act 78 = .ok (.invokevirtual 30, 3) := by decide +kernel
theorem dL_act_81 : decode cL_act 81 = .ok (.goto 176, 3) := by decide +kernel
theorem dL_act_84 : decode cL_act 84 = .ok (.iload_n 1, 1) := by decide +kernel
theorem dL_act_85 : decode cL_act 85 = .ok (.bipush 6, 2) := by decide +kernel
theorem dL_act_87 : decode cL_act 87 = .ok (.if_icmp .ne 12, 3) := by decide +kernel
theorem dL_act_90 : decode cL_act 90 = .ok (.aload_n 0, 1) := by decide +kernel
theorem dL_act_91 : decode cL_act 91 = .ok (.iload_n 2, 1) := by decide +kernel
theorem dL_act_92 : decode cL_act 92 = .ok (.iload_n 3, 1) := by decide +kernel
theorem dL_act_93 : decode cL_act 93 = .ok (.invokevirtual 34, 3) := by decide +kernel
theorem dL_act_96 : decode cL_act 96 = .ok (.goto 161, 3) := by decide +kernel
theorem dL_act_99 : decode cL_act 99 = .ok (.iload_n 1, 1) := by decide +kernel
theorem dL_act_100 : decode cL_act 100 = .ok (.bipush 7, 2) := by decide +kernel
theorem dL_act_102 : decode cL_act 102 = .ok (.if_icmp .ne 14, 3) := by decide +kernel
theorem dL_act_105 : decode cL_act 105 = .ok (.aload_n 0, 1) := by decide +kernel
theorem dL_act_106 : decode cL_act 106 = .ok (.iload_n 2, 1) := by decide +kernel
theorem dL_act_107 : decode cL_act 107 = .ok (.iload_n 3, 1) := by decide +kernel
theorem dL_act_108 : decode cL_act 108 = .ok (.iload 4, 2) := by decide +kernel
theorem dL_act_110 : decode cL_act 110 = .ok (.invokevirtual 37, 3) := by decide +kernel
theorem dL_act_113 : decode cL_act 113 = .ok (.goto 144, 3) := by decide +kernel
theorem dL_act_116 : decode cL_act 116 = .ok (.iload_n 1, 1) := by decide +kernel
theorem dL_act_117 : decode cL_act 117 = .ok (.bipush 8, 2) := by decide +kernel
theorem dL_act_119 : decode cL_act 119 = .ok (.if_icmp .ne 12, 3) := by decide +kernel
theorem dL_act_122 : decode cL_act 122 = .ok (.aload_n 0, 1) := by decide +kernel
theorem dL_act_123 : decode cL_act 123 = .ok (.iload_n 2, 1) := by decide +kernel
theorem dL_act_124 : decode cL_act 124 = .ok (.iload_n 3, 1) := by decide +kernel
theorem dL_act_125 : decode cL_act 125 = .ok (.invokevirtual 40, 3) := by decide +kernel
theorem dL_act_128 : decode cL_act 128 = .ok (.goto 129, 3) := by decide +kernel
theorem dL_act_131 : decode cL_act 131 = .ok (.iload_n 1, 1) := by decide +kernel
theorem dL_act_132 : decode cL_act 132 = .ok (.bipush 9, 2) := by decide +kernel
theorem dL_act_134 : decode cL_act 134 = .ok (.if_icmp .ne 11, 3) := by decide +kernel
theorem dL_act_137 : decode cL_act 137 = .ok (.aload_n 0, 1) := by decide +kernel
theorem dL_act_138 : decode cL_act 138 = .ok (.iload_n 2, 1) := by decide +kernel
theorem dL_act_139 : decode cL_act 139 = .ok (.invokevirtual 43, 3) := by decide +kernel
theorem dL_act_142 : decode cL_act 142 = .ok (.goto 115, 3) := by decide +kernel
theorem dL_act_145 : decode cL_act 145 = .ok (.iload_n 1, 1) := by decide +kernel
theorem dL_act_146 : decode cL_act 146 = .ok (.bipush 10, 2) := by decide +kernel
theorem dL_act_148 : decode cL_act 148 = .ok (.if_icmp .ne 11, 3) := by decide +kernel
theorem dL_act_151 : decode cL_act 151 = .ok (.aload_n 0, 1) := by decide +kernel
theorem dL_act_152 : decode cL_act 152 = .ok (.iload_n 2, 1) := by decide +kernel
theorem dL_act_153 : decode cL_act 153 = .ok (.invokevirtual 46, 3) := by decide +kernel
theorem dL_act_156 : decode cL_act 156 = .ok (.goto 101, 3) := by decide +kernel
theorem dL_act_159 : decode cL_act 159 = .ok (.iload_n 1, 1) := by decide +kernel
theorem dL_act_160 : decode cL_act 160 = .ok (.bipush 11, 2) := by decide +kernel
theorem dL_act_162 : decode cL_act 162 = .ok (.if_icmp .ne 12, 3) := by decide +kernel
theorem dL_act_165 : decode cL_act 165 = .ok (.aload_n 0, 1) := by decide +kernel
theorem dL_act_166 : decode cL_act 166 = .ok (.iload_n 2, 1) := by decide +kernel
theorem dL_act_167 : decode cL_act 167 = .ok (.iload_n 3, 1) := by decide +kernel
theorem dL_act_168 : decode cL_act 168 = .ok (.invokevirtual 49, 3) := by decide +kernel
theorem dL_act_171 : decode cL_act 171 = .ok (.goto 86, 3) := by decide +kernel
theorem dL_act_174 : decode cL_act 174 = .ok (.iload_n 1, 1) := by decide +kernel
theorem dL_act_175 : decode cL_act 175 = .ok (.bipush 12, 2) := by decide +kernel
theorem dL_act_177 : decode cL_act 177 = .ok (.if_icmp .ne 12, 3) := by decide +kernel
theorem dL_act_180 : decode cL_act 180 = .ok (.aload_n 0, 1) := by decide +kernel
theorem dL_act_181 : decode cL_act 181 = .ok (.iload_n 2, 1) := by decide +kernel
theorem dL_act_182 : decode cL_act 182 = .ok (.iload_n 3, 1) := by decide +kernel
theorem dL_act_183 : decode cL_act 183 = .ok (.invokevirtual 52, 3) := by decide +kernel
theorem dL_act_186 : decode cL_act 186 = .ok (.goto 71, 3) := by decide +kernel
theorem dL_act_189 : decode cL_act 189 = .ok (.iload_n 1, 1) := by decide +kernel
theorem dL_act_190 : decode cL_act 190 = .ok (.bipush 13, 2) := by decide +kernel
theorem dL_act_192 : decode cL_act 192 = .ok (.if_icmp .ne 11, 3) := by decide +kernel
theorem dL_act_195 : decode cL_act 195 = .ok (.aload_n 0, 1) := by decide +kernel
theorem dL_act_196 : decode cL_act 196 = .ok (.iload_n 2, 1) := by decide +kernel
theorem dL_act_197 : decode cL_act 197 = .ok (.invokestatic 55, 3) := by decide +kernel
theorem dL_act_200 : decode cL_act 200 = .ok (.goto 57, 3) := by decide +kernel
theorem dL_act_203 : decode cL_act 203 = .ok (.iload_n 1, 1) := by decide +kernel
theorem dL_act_204 : decode cL_act 204 = .ok (.bipush 14, 2) := by decide +kernel
theorem dL_act_206 : decode cL_act 206 = .ok (.if_icmp .ne 23, 3) := by decide +kernel
theorem dL_act_209 : decode cL_act 209 = .ok (.aload_n 0, 1) := by decide +kernel
theorem dL_act_210 : decode cL_act 210 = .ok (.iload_n 2, 1) := by decide +kernel
theorem dL_act_211 : decode cL_act 211 = .ok (.iload_n 3, 1) := by decide +kernel
theorem dL_act_212 : decode cL_act 212 = .ok (.iconst 1, 1) := by decide +kernel
theorem dL_act_213 : decode cL_act 213 = .ok (.if_icmp .ne 7, 3) := by decide +kernel
theorem dL_act_216 : decode cL_act 216 = .ok (.iconst 1, 1) := by decide +kernel
theorem dL_act_217 : decode cL_act 217 = .ok (.goto 4, 3) := by decide +kernel
theorem dL_act_220 : decode cL_act 220 = .ok (.iconst 0, 1) := by decide +kernel
theorem dL_act_221 : decode cL_act 221 = .ok (.iload 4, 2) := by decide +kernel
theorem dL_act_223 : decode cL_act 223 = .ok (.invokevirtual 60, 3) := by decide +kernel
theorem dL_act_226 : decode cL_act 226 = .ok (.goto 31, 3) := by decide +kernel
theorem dL_act_229 : decode cL_act 229 = .ok (.iload_n 1, 1) := by decide +kernel
theorem dL_act_230 : decode cL_act 230 = .ok (.bipush 15, 2) := by decide +kernel
theorem dL_act_232 : decode cL_act 232 = .ok (.if_icmp .ne 11, 3) := by decide +kernel
theorem dL_act_235 : decode cL_act 235 = .ok (.aload_n 0, 1) := by decide +kernel
theorem dL_act_236 : decode cL_act 236 = .ok (.iload_n 2, 1) := by decide +kernel
theorem dL_act_237 : decode cL_act 237 = .ok (.invokevirtual 64, 3) := by decide +kernel
theorem dL_act_240 : decode cL_act 240 = .ok (.goto 17, 3) := by decide +kernel
theorem dL_act_243 : decode cL_act 243 = .ok (.aload_n 0, 1) := by decide +kernel
theorem dL_act_244 : decode cL_act 244 = .ok (.iload_n 2, 1) := by decide +kernel
theorem dL_act_245 : decode cL_act 245 = .ok (.iload_n 3, 1) := by decide +kernel
theorem dL_act_246 : decode cL_act 246 = .ok (.invokevirtual 67, 3) := by decide +kernel
theorem dL_act_249 : decode cL_act 249 = .ok (.ifCond .eq 7, 3) := by decide +kernel
theorem dL_act_252 : decode cL_act 252 = .ok (.iconst 1, 1) := by decide +kernel
theorem dL_act_253 : decode cL_act 253 = .ok (.goto 4, 3) := by decide +kernel
theorem dL_act_256 : decode cL_act 256 = .ok (.iconst 0, 1) := by decide +kernel
theorem dL_act_257 : decode cL_act 257 = .ok (.ireturn, 1) := by decide +kernel
theorem dL_act_258 : decode cL_act 258 = .ok (.astore 5, 2) := by decide +kernel
theorem dL_act_260 : decode cL_act 260 = .ok (.ldc 73, 2) := by decide +kernel
theorem dL_act_262 : decode cL_act 262 = .ok (.ireturn, 1) := by decide +kernel
theorem dL_act_263 : decode cL_act 263 = .ok (.astore 5, 2) := by decide +kernel
theorem dL_act_265 : decode cL_act 265 = .ok (.ldc 76, 2) := by decide +kernel
theorem dL_act_267 : decode cL_act 267 = .ok (.ireturn, 1) := by decide +kernel
theorem dL_act_268 : decode cL_act 268 = .ok (.astore 5, 2) := by decide +kernel
theorem dL_act_270 : decode cL_act 270 = .ok (.ldc 79, 2) := by decide +kernel
theorem dL_act_272 : decode cL_act 272 = .ok (.ireturn, 1) := by decide +kernel
theorem dL_codes_0 : decode cL_codes 0 = .ok (.iload_n 1, 1) := by decide +kernel
theorem dL_codes_1 : decode cL_codes 1 = .ok (.istore_n 3, 1) := by decide +kernel
theorem dL_codes_2 : decode cL_codes 2 = .ok (.iconst 0, 1) := by decide +kernel
theorem dL_codes_3 : decode cL_codes 3 = .ok (.istore 4, 2) := by decide +kernel
theorem dL_codes_5 : decode cL_codes 5 = .ok (.iconst 0, 1) := by decide +kernel
theorem dL_codes_6 : decode cL_codes 6 = .ok (.istore 5, 2) := by decide +kernel
theorem dL_codes_8 : decode cL_codes 8 = .ok (.iload 5, 2) := by decide +kernel
theorem dL_codes_10 : decode cL_codes 10 = .ok (.iload_n 2, 1) := by decide +kernel
theorem dL_codes_11 : decode cL_codes 11 = .ok (.if_icmp .ge 25, 3) := by decide +kernel
theorem dL_codes_14 : decode cL_codes 14 = .ok (.aload_n 0, 1) := by decide +kernel
theorem dL_codes_15 : decode cL_codes 15 = .ok (.iload_n 3, 1) := by decide +kernel
theorem dL_codes_16 : decode cL_codes 16 = .ok (.bipush 10, 2) := by decide +kernel
theorem dL_codes_18 : decode cL_codes 18 = .ok (.irem, 1) := by decide +kernel
theorem dL_codes_19 : decode cL_codes 19 = .ok (.iconst 0, 1) := by decide +kernel
theorem dL_codes_20 : decode cL_codes 20 = .ok (.invokevirtual 13, 3) := by decide +kernel
theorem dL_codes_23 : decode cL_codes 23 = .ok (.istore 4, 2) := by decide +kernel
theorem dL_codes_25 : decode cL_codes 25 = .ok (.iload_n 3, 1) := by decide +kernel
theorem dL_codes_26 : decode cL_codes 26 = .ok (.bipush 10, 2) := by decide +kernel
theorem dL_codes_28 : decode cL_codes 28 = .ok (.idiv, 1) := by decide +kernel
theorem dL_codes_29 : decode cL_codes 29 = .ok (.istore_n 3, 1) := by decide +kernel
theorem dL_codes_30 : decode cL_codes 30 = .ok (.iinc 5 1, 3) := by decide +kernel
theorem dL_codes_33 : decode cL_codes 33 = .ok (.goto (-25), 3) := by decide +kernel
theorem dL_codes_36 : decode cL_codes 36 = .ok (.iload 4, 2) := by decide +kernel
theorem dL_codes_38 : decode cL_codes 38 = .ok (.ireturn, 1) := by decide +kernel
theorem dL_runs_0 : decode cL_runs 0 = .ok (.aload_n 0, 1) := by decide +kernel
theorem dL_runs_1 : decode cL_runs 1 = .ok (.iload_n 1, 1) := by decide +kernel
theorem dL_runs_2 : decode cL_runs 2 = .ok (.iconst 0, 1) := by decide +kernel
theorem dL_runs_3 : decode cL_runs 3 = .ok (.invokevirtual 21, 3) := by decide +kernel
theorem dL_runs_6 : decode cL_runs 6 = .ok (.iload_n 2, 1) := by decide +kernel
theorem dL_runs_7 : decode cL_runs 7 = .ok (.if_icmp .ne 51, 3) := by decide +kernel
theorem dL_runs_10 : decode cL_runs 10 = .ok (.aload_n 0, 1) := by decide +kernel
theorem dL_runs_11 : decode cL_runs 11 = .ok (.iload_n 1, 1) := by decide +kernel
theorem dL_runs_12 : decode cL_runs 12 = .ok (.iconst 1, 1) := by decide +kernel
theorem dL_runs_13 : decode cL_runs 13 = .ok (.invokevirtual 21, 3) := by decide +kernel
theorem dL_runs_16 : decode cL_runs 16 = .ok (.iload_n 3, 1) := by decide +kernel
theorem dL_runs_17 : decode cL_runs 17 = .ok (.if_icmp .ne 41, 3) := by decide +kernel
theorem dL_runs_20 : decode cL_runs 20 = .ok (.aload_n 0, 1) := by decide +kernel
theorem dL_runs_21 : decode cL_runs 21 = .ok (.iload_n 1, 1) := by decide +kernel
theorem dL_runs_22 : decode cL_runs 22 = .ok (.iconst 2, 1) := by decide +kernel
theorem dL_runs_23 : decode cL_runs 23 = .ok (.invokevirtual 21, 3) := by decide +kernel
theorem dL_runs_26 : decode cL_runs 26 = .ok (.iload 4, 2) := by decide +kernel
theorem dL_runs_28 : decode cL_runs 28 = .ok (.if_icmp .ne 30, 3) := by decide +kernel
theorem dL_runs_31 : decode cL_runs 31 = .ok (.aload_n 0, 1) := by decide +kernel
theorem dL_runs_32 : decode cL_runs 32 = .ok (.iload_n 1, 1) := by decide +kernel
theorem dL_runs_33 : decode cL_runs 33 = .ok (.iconst 3, 1) := by decide +kernel
theorem dL_runs_34 : decode cL_runs 34 = .ok (.invokevirtual 21, 3) := by decide +kernel
theorem dL_runs_37 : decode cL_runs 37 = .ok (.iload 5, 2) := by decide +kernel
theorem dL_runs_39 : decode cL_runs 39 = .ok (.if_icmp .ne 19, 3) := by decide +kernel
theorem dL_runs_42 : decode cL_runs 42 = .ok (.aload_n 0, 1) := by decide +kernel
theorem dL_runs_43 : decode cL_runs 43 = .ok (.iload_n 1, 1) := by decide +kernel
theorem dL_runs_44 : decode cL_runs 44 = .ok (.bipush 10, 2) := by decide +kernel
theorem dL_runs_46 : decode cL_runs 46 = .ok (.invokevirtual 21, 3) := by decide +kernel
theorem dL_runs_49 : decode cL_runs 49 = .ok (.iload 6, 2) := by decide +kernel
theorem dL_runs_51 : decode cL_runs 51 = .ok (.if_icmp .ne 7, 3) := by decide +kernel
theorem dL_runs_54 : decode cL_runs 54 = .ok (.iconst 1, 1) := by decide +kernel
theorem dL_runs_55 : decode cL_runs 55 = .ok (.goto 4, 3) := by decide +kernel
theorem dL_runs_58 : decode cL_runs 58 = .ok (.iconst 0, 1) := by decide +kernel
theorem dL_runs_59 : decode cL_runs 59 = .ok (.ireturn, 1) := by decide +kernel
theorem dL_entry_0 : decode cL_entry 0 = .ok (.aload_n 0, 1) := by decide +kernel
theorem dL_entry_1 : decode cL_entry 1 = .ok (.iload_n 1, 1) := by decide +kernel
theorem dL_entry_2 : decode cL_entry 2 = .ok (.iconst 0, 1) := by decide +kernel
theorem dL_entry_3 : decode cL_entry 3 = .ok (.invokevirtual 49, 3) := by decide +kernel
theorem dL_entry_6 : decode cL_entry 6 = .ok (.iload_n 2, 1) := by decide +kernel
theorem dL_entry_7 : decode cL_entry 7 = .ok (.if_icmp .ne 39, 3) := by decide +kernel
theorem dL_entry_10 : decode cL_entry 10 = .ok (.aload_n 0, 1) := by decide +kernel
theorem dL_entry_11 : decode cL_entry 11 = .ok (.iload_n 1, 1) := by decide +kernel
theorem dL_entry_12 : decode cL_entry 12 = .ok (.iconst 1, 1) := by decide +kernel
theorem dL_entry_13 : decode cL_entry 13 = .ok (.invokevirtual 49, 3) := by decide +kernel
theorem dL_entry_16 : decode cL_entry 16 = .ok (.iload_n 3, 1) := by decide +kernel
theorem dL_entry_17 : decode cL_entry 17 = .ok (.if_icmp .ne 29, 3) := by decide +kernel
theorem dL_entry_20 : decode cL_entry 20 = .ok (.aload_n 0, 1) := by decide +kernel
theorem dL_entry_21 : decode cL_entry 21 = .ok (.iload_n 1, 1) := by decide +kernel
theorem dL_entry_22 : decode cL_entry 22 = .ok (.iconst 2, 1) := by decide +kernel
theorem dL_entry_23 : decode cL_entry 23 = .ok (.invokevirtual 49, 3) := by decide +kernel
theorem dL_entry_26 : decode cL_entry 26 = .ok (.iload 4, 2) := by decide +kernel
theorem dL_entry_28 : decode cL_entry 28 = .ok (.if_icmp .ne 18, 3) := by decide +kernel
theorem dL_entry_31 : decode cL_entry 31 = .ok (.aload_n 0, 1) := by decide +kernel
theorem dL_entry_32 : decode cL_entry 32 = .ok (.iload_n 1, 1) := by decide +kernel
theorem dL_entry_33 : decode cL_entry 33 = .ok (.iconst 3, 1) := by decide +kernel
theorem dL_entry_34 : decode cL_entry 34 = .ok (.invokevirtual 49, 3) := by decide +kernel
theorem dL_entry_37 : decode cL_entry 37 = .ok (.iload 5, 2) := by decide +kernel
theorem dL_entry_39 : decode cL_entry 39 = .ok (.if_icmp .ne 7, 3) := by decide +kernel
theorem dL_entry_42 : decode cL_entry 42 = .ok (.iconst 1, 1) := by decide +kernel
theorem dL_entry_43 : decode cL_entry 43 = .ok (.goto 4, 3) := by decide +kernel
theorem dL_entry_46 : decode cL_entry 46 = .ok (.iconst 0, 1) := by decide +kernel
theorem dL_entry_47 : decode cL_entry 47 = .ok (.ireturn, 1) := by decide +kernel
theorem dL_board_0 : decode cL_board 0 = .ok (.aload_n 0, 1) := by decide +kernel
theorem dL_board_1 : decode cL_board 1 = .ok (.iload_n 1, 1) := by decide +kernel
theorem dL_board_2 : decode cL_board 2 = .ok (.iload_n 2, 1) := by decide +kernel
theorem dL_board_3 : decode cL_board 3 = .ok (.iconst 0, 1) := by decide +kernel
theorem dL_board_4 : decode cL_board 4 = .ok (.invokevirtual 60, 3) := by decide +kernel
theorem dL_board_7 : decode cL_board 7 = .ok (.iload_n 3, 1) := by decide +kernel
theorem dL_board_8 : decode cL_board 8 = .ok (.if_icmp .ne 43, 3) := by decide +kernel
theorem dL_board_11 : decode cL_board 11 = .ok (.aload_n 0, 1) := by decide +kernel
theorem dL_board_12 : decode cL_board 12 = .ok (.iload_n 1, 1) := by decide +kernel
theorem dL_board_13 : decode cL_board 13 = .ok (.iload_n 2, 1) := by decide +kernel
theorem dL_board_14 : decode cL_board 14 = .ok (.iconst 1, 1) := by decide +kernel
theorem dL_board_15 : decode cL_board 15 = .ok (.invokevirtual 60, 3) := by decide +kernel
theorem dL_board_18 : decode cL_board 18 = .ok (.iload 4, 2) := by decide +kernel
theorem dL_board_20 : decode cL_board 20 = .ok (.if_icmp .ne 31, 3) := by decide +kernel
theorem dL_board_23 : decode cL_board 23 = .ok (.aload_n 0, 1) := by decide +kernel
theorem dL_board_24 : decode cL_board 24 = .ok (.iload_n 1, 1) := by decide +kernel
theorem dL_board_25 : decode cL_board 25 = .ok (.iload_n 2, 1) := by decide +kernel
theorem dL_board_26 : decode cL_board 26 = .ok (.iconst 2, 1) := by decide +kernel
theorem dL_board_27 : decode cL_board 27 = .ok (.invokevirtual 60, 3) := by decide +kernel
theorem dL_board_30 : decode cL_board 30 = .ok (.iload 5, 2) := by decide +kernel
theorem dL_board_32 : decode cL_board 32 = .ok (.if_icmp .ne 19, 3) := by decide +kernel
theorem dL_board_35 : decode cL_board 35 = .ok (.aload_n 0, 1) := by decide +kernel
theorem dL_board_36 : decode cL_board 36 = .ok (.iload_n 1, 1) := by decide +kernel
theorem dL_board_37 : decode cL_board 37 = .ok (.iload_n 2, 1) := by decide +kernel
theorem dL_board_38 : decode cL_board 38 = .ok (.iconst 3, 1) := by decide +kernel
theorem dL_board_39 : decode cL_board 39 = .ok (.invokevirtual 60, 3) := by decide +kernel
theorem dL_board_42 : decode cL_board 42 = .ok (.iload 6, 2) := by decide +kernel
theorem dL_board_44 : decode cL_board 44 = .ok (.if_icmp .ne 7, 3) := by decide +kernel
theorem dL_board_47 : decode cL_board 47 = .ok (.iconst 1, 1) := by decide +kernel
theorem dL_board_48 : decode cL_board 48 = .ok (.goto 4, 3) := by decide +kernel
theorem dL_board_51 : decode cL_board 51 = .ok (.iconst 0, 1) := by decide +kernel
theorem dL_board_52 : decode cL_board 52 = .ok (.ireturn, 1) := by decide +kernel
theorem dL_boards_0 : decode cL_boards 0 = .ok (.iconst 0, 1) := by decide +kernel
theorem dL_boards_1 : decode cL_boards 1 = .ok (.istore_n 1, 1) := by decide +kernel
theorem dL_boards_2 : decode cL_boards 2 = .ok (.iload_n 1, 1) := by decide +kernel
theorem dL_boards_3 : decode cL_boards 3 = .ok (.bipush 6, 2) := by decide +kernel
theorem dL_boards_5 : decode cL_boards 5 = .ok (.if_icmp .ge 18, 3) := by decide +kernel
theorem dL_boards_8 : decode cL_boards 8 = .ok (.aload_n 0, 1) := by decide +kernel
theorem dL_boards_9 : decode cL_boards 9 = .ok (.invokevirtual 107, 3) := by decide +kernel
theorem dL_boards_12 : decode cL_boards 12 = .ok (.ifCond .ge 5, 3) := by decide +kernel
theorem dL_boards_15 : decode cL_boards 15 = .ok (.iconst 0, 1) := by decide +kernel
theorem dL_boards_16 : decode cL_boards 16 = .ok (.ireturn, 1) := by decide +kernel
theorem dL_boards_17 : decode cL_boards 17 = .ok (.iinc 1 1, 3) := by decide +kernel
theorem dL_boards_20 : decode cL_boards 20 = .ok (.goto (-18), 3) := by decide +kernel
theorem dL_boards_23 : decode cL_boards 23 = .ok (.aload_n 0, 1) := by decide +kernel
theorem dL_boards_24 : decode cL_boards 24 = .ok (.invokevirtual 107, 3) := by decide +kernel
theorem dL_boards_27 : decode cL_boards 27 = .ok (.iconst (-1), 1) := by decide +kernel
theorem dL_boards_28 : decode cL_boards 28 = .ok (.if_icmp .ne 292, 3) := by decide +kernel
theorem dL_boards_31 : decode cL_boards 31 = .ok (.aload_n 0, 1) := by decide +kernel
theorem dL_boards_32 : decode cL_boards 32 = .ok (.iconst 0, 1) := by decide +kernel
theorem dL_boards_33 : decode cL_boards 33 = .ok (.iconst 0, 1) := by decide +kernel
theorem dL_boards_34 : decode cL_boards 34 = .ok (.iconst (-1), 1) := by decide +kernel
theorem dL_boards_35 : decode cL_boards 35 = .ok (.bipush 90, 2) := by decide +kernel
theorem dL_boards_37 : decode cL_boards 37 = .ok (.iconst 4, 1) := by decide +kernel
theorem dL_boards_38 : decode cL_boards 38 = .ok (.invokestatic 113, 3) := by decide +kernel
theorem dL_boards_41 : decode cL_boards 41 = .ok (.ifCond .eq 279, 3) := by decide +kernel
theorem dL_boards_44 : decode cL_boards 44 = .ok (.aload_n 0, 1) := by decide +kernel
theorem dL_boards_45 : decode cL_boards 45 = .ok (.iconst 5, 1) := by decide +kernel
theorem dL_boards_46 : decode cL_boards 46 = .ok (.iconst 0, 1) := by decide +kernel
theorem dL_boards_47 : decode cL_boards 47 = .ok (.iconst (-1), 1) := by decide +kernel
theorem dL_boards_48 : decode cL_boards 48 = .ok (.bipush 90, 2) := by decide +kernel
theorem dL_boards_50 : decode cL_boards 50 = .ok (.iconst 4, 1) := by decide +kernel
theorem dL_boards_51 : decode cL_boards 51 = .ok (.invokestatic 113, 3) := by decide +kernel
theorem dL_boards_54 : decode cL_boards 54 = .ok (.ifCond .eq 266, 3) := by decide +kernel
theorem dL_boards_57 : decode cL_boards 57 = .ok (.aload_n 0, 1) := by decide +kernel
theorem dL_boards_58 : decode cL_boards 58 = .ok (.bipush 10, 2) := by decide +kernel
theorem dL_boards_60 : decode cL_boards 60 = .ok (.invokestatic 55, 3) := by decide +kernel
theorem dL_boards_63 : decode cL_boards 63 = .ok (.iconst 1, 1) := by decide +kernel
theorem dL_boards_64 : decode cL_boards 64 = .ok (.if_icmp .ne 256, 3) := by decide +kernel
theorem dL_boards_67 : decode cL_boards 67 = .ok (.aload_n 0, 1) := by decide +kernel
theorem dL_boards_68 : decode cL_boards 68 = .ok (.iconst 2, 1) := by decide +kernel
theorem dL_boards_69 : decode cL_boards 69 = .ok (.iconst 1, 1) := by decide +kernel
theorem dL_boards_70 : decode cL_boards 70 = .ok (.iconst 0, 1) := by decide +kernel
theorem dL_boards_71 : decode cL_boards 71 = .ok (.iconst 1, 1) := by decide +kernel
theorem dL_boards_72 : decode cL_boards 72 = .ok (.iconst 0, 1) := by decide +kernel
theorem dL_boards_73 : decode cL_boards 73 = .ok (.iconst 0, 1) := by decide +kernel
theorem dL_boards_74 : decode cL_boards 74 = .ok (.invokestatic 116, 3) := by decide +kernel
theorem dL_boards_77 : decode cL_boards 77 = .ok (.ifCond .eq 243, 3) := by decide +kernel
theorem dL_boards_80 : decode cL_boards 80 = .ok (.aload_n 0, 1) := by decide +kernel
theorem dL_boards_81 : decode cL_boards 81 = .ok (.iconst 3, 1) := by decide +kernel
theorem dL_boards_82 : decode cL_boards 82 = .ok (.iconst 1, 1) := by decide +kernel
theorem dL_boards_83 : decode cL_boards 83 = .ok (.iconst 3, 1) := by decide +kernel
theorem dL_boards_84 : decode cL_boards 84 = .ok (.iconst 0, 1) := by decide +kernel
theorem dL_boards_85 : decode cL_boards 85 = .ok (.iconst 0, 1) := by decide +kernel
theorem dL_boards_86 : decode cL_boards 86 = .ok (.iconst 0, 1) := by decide +kernel
theorem dL_boards_87 : decode cL_boards 87 = .ok (.invokestatic 116, 3) := by decide +kernel
theorem dL_boards_90 : decode cL_boards 90 = .ok (.ifCond .eq 230, 3) := by decide +kernel
theorem dL_boards_93 : decode cL_boards 93 = .ok (.aload_n 0, 1) := by decide +kernel
theorem dL_boards_94 : decode cL_boards 94 = .ok (.iconst 3, 1) := by decide +kernel
theorem dL_boards_95 : decode cL_boards 95 = .ok (.iconst 0, 1) := by decide +kernel
theorem dL_boards_96 : decode cL_boards 96 = .ok (.iconst 1, 1) := by decide +kernel
theorem dL_boards_97 : decode cL_boards 97 = .ok (.iconst 1, 1) := by decide +kernel
theorem dL_boards_98 : decode cL_boards 98 = .ok (.bipush 50, 2) := by decide +kernel
theorem dL_boards_100 : decode cL_boards 100 = .ok (.bipush 10, 2) := by decide +kernel
theorem dL_boards_102 : decode cL_boards 102 = .ok (.invokestatic 116, 3) := by decide +kernel
theorem dL_boards_105 : decode cL_boards 105 = .ok (.ifCond .eq 215, 3) := by decide +kernel
theorem dL_boards_108 : decode cL_boards 108 = .ok (.aload_n 0, 1) := by decide +kernel
theorem dL_boards_109 : decode cL_boards 109 = .ok (.invokevirtual 110, 3) := by decide +kernel
theorem dL_boards_112 : decode cL_boards 112 = .ok (.bipush 50, 2) := by decide +kernel
theorem dL_boards_114 : decode cL_boards 114 = .ok (.if_icmp .ne 206, 3) := by decide +kernel
theorem dL_boards_117 : decode cL_boards 117 = .ok (.aload_n 0, 1) := by decide +kernel
theorem dL_boards_118 : decode cL_boards 118 = .ok (.iconst 5, 1) := by decide +kernel
theorem dL_boards_119 : decode cL_boards 119 = .ok (.iconst 1, 1) := by decide +kernel
theorem dL_boards_120 : decode cL_boards 120 = .ok (.iconst 0, 1) := by decide +kernel
theorem dL_boards_121 : decode cL_boards 121 = .ok (.invokevirtual 60, 3) := by decide +kernel
theorem dL_boards_124 : decode cL_boards 124 = .ok (.iconst 5, 1) := by decide +kernel
theorem dL_boards_125 : decode cL_boards 125 = .ok (.if_icmp .ne 195, 3) := by decide +kernel
theorem dL_boards_128 : decode cL_boards 128 = .ok (.aload_n 0, 1) := by decide +kernel
theorem dL_boards_129 : decode cL_boards 129 = .ok (.invokevirtual 110, 3) := by decide +kernel
theorem dL_boards_132 : decode cL_boards 132 = .ok (.bipush 40, 2) := by decide +kernel
theorem dL_boards_134 : decode cL_boards 134 = .ok (.if_icmp .ne 186, 3) := by decide +kernel
theorem dL_boards_137 : decode cL_boards 137 = .ok (.aload_n 0, 1) := by decide +kernel
theorem dL_boards_138 : decode cL_boards 138 = .ok (.invokevirtual 110, 3) := by decide +kernel
theorem dL_boards_141 : decode cL_boards 141 = .ok (.bipush 30, 2) := by decide +kernel
theorem dL_boards_143 : decode cL_boards 143 = .ok (.if_icmp .ne 177, 3) := by decide +kernel
theorem dL_boards_146 : decode cL_boards 146 = .ok (.aload_n 0, 1) := by decide +kernel
theorem dL_boards_147 : decode cL_boards 147 = .ok (.iconst 3, 1) := by decide +kernel
theorem dL_boards_148 : decode cL_boards 148 = .ok (.iconst 1, 1) := by decide +kernel
theorem dL_boards_149 : decode cL_boards 149 = .ok (.iconst 1, 1) := by decide +kernel
theorem dL_boards_150 : decode cL_boards 150 = .ok (.iconst 1, 1) := by decide +kernel
theorem dL_boards_151 : decode cL_boards 151 = .ok (.bipush 50, 2) := by decide +kernel
theorem dL_boards_153 : decode cL_boards 153 = .ok (.bipush 10, 2) := by decide +kernel
theorem dL_boards_155 : decode cL_boards 155 = .ok (.invokestatic 116, 3) := by decide +kernel
theorem dL_boards_158 : decode cL_boards 158 = .ok (.ifCond .eq 162, 3) := by decide +kernel
theorem dL_boards_161 : decode cL_boards 161 = .ok (.aload_n 0, 1) := by decide +kernel
theorem dL_boards_162 : decode cL_boards 162 = .ok (.invokevirtual 110, 3) := by decide +kernel
theorem dL_boards_165 : decode cL_boards 165 = .ok (.iconst (-1), 1) := by decide +kernel
theorem dL_boards_166 : decode cL_boards 166 = .ok (.if_icmp .ne 154, 3) := by decide +kernel
theorem dL_boards_169 : decode cL_boards 169 = .ok (.aload_n 0, 1) := by decide +kernel
theorem dL_boards_170 : decode cL_boards 170 = .ok (.bipush 11, 2) := by decide +kernel
theorem dL_boards_172 : decode cL_boards 172 = .ok (.invokestatic 55, 3) := by decide +kernel
theorem dL_boards_175 : decode cL_boards 175 = .ok (.iconst 1, 1) := by decide +kernel
theorem dL_boards_176 : decode cL_boards 176 = .ok (.if_icmp .ne 144, 3) := by decide +kernel
theorem dL_boards_179 : decode cL_boards 179 = .ok (.aload_n 0, 1) := by decide +kernel
theorem dL_boards_180 : decode cL_boards 180 = .ok (.iconst 3, 1) := by decide +kernel
theorem dL_boards_181 : decode cL_boards 181 = .ok (.iconst 1, 1) := by decide +kernel
theorem dL_boards_182 : decode cL_boards 182 = .ok (.iconst 1, 1) := by decide +kernel
theorem dL_boards_183 : decode cL_boards 183 = .ok (.iconst 1, 1) := by decide +kernel
theorem dL_boards_184 : decode cL_boards 184 = .ok (.bipush 50, 2) := by decide +kernel
theorem dL_boards_186 : decode cL_boards 186 = .ok (.bipush 10, 2) := by decide +kernel
theorem dL_boards_188 : decode cL_boards 188 = .ok (.invokestatic 116, 3) := by decide +kernel
theorem dL_boards_191 : decode cL_boards 191 = .ok (.ifCond .eq 129, 3) := by decide +kernel
theorem dL_boards_194 : decode cL_boards 194 = .ok (.aload_n 0, 1) := by decide +kernel
theorem dL_boards_195 : decode cL_boards 195 = .ok (.invokevirtual 110, 3) := by decide +kernel
theorem dL_boards_198 : decode cL_boards 198 = .ok (.iconst (-1), 1) := by decide +kernel
theorem dL_boards_199 : decode cL_boards 199 = .ok (.if_icmp .ne 121, 3) := by decide +kernel
theorem dL_boards_202 : decode cL_boards 202 = .ok (.aload_n 0, 1) := by decide +kernel
theorem dL_boards_203 : decode cL_boards 203 = .ok (.iconst 0, 1) := by decide +kernel
theorem dL_boards_204 : decode cL_boards 204 = .ok (.invokestatic 55, 3) := by decide +kernel
theorem dL_boards_207 : decode cL_boards 207 = .ok (.iconst 1, 1) := by decide +kernel
theorem dL_boards_208 : decode cL_boards 208 = .ok (.if_icmp .ne 112, 3) := by decide +kernel
theorem dL_boards_211 : decode cL_boards 211 = .ok (.aload_n 0, 1) := by decide +kernel
theorem dL_boards_212 : decode cL_boards 212 = .ok (.iconst 2, 1) := by decide +kernel
theorem dL_boards_213 : decode cL_boards 213 = .ok (.iconst 1, 1) := by decide +kernel
theorem dL_boards_214 : decode cL_boards 214 = .ok (.iconst 2, 1) := by decide +kernel
theorem dL_boards_215 : decode cL_boards 215 = .ok (.iconst 0, 1) := by decide +kernel
theorem dL_boards_216 : decode cL_boards 216 = .ok (.iconst 0, 1) := by decide +kernel
theorem dL_boards_217 : decode cL_boards 217 = .ok (.iconst 0, 1) := by decide +kernel
theorem dL_boards_218 : decode cL_boards 218 = .ok (.invokestatic 116, 3) := by decide +kernel
theorem dL_boards_221 : decode cL_boards 221 = .ok (.ifCond .eq 99, 3) := by decide +kernel
theorem dL_boards_224 : decode cL_boards 224 = .ok (.aload_n 0, 1) := by decide +kernel
theorem dL_boards_225 : decode cL_boards 225 = .ok (.invokevirtual 110, 3) := by decide +kernel
theorem dL_boards_228 : decode cL_boards 228 = .ok (.bipush 50, 2) := by decide +kernel
theorem dL_boards_230 : decode cL_boards 230 = .ok (.if_icmp .ne 90, 3) := by decide +kernel
theorem dL_boards_233 : decode cL_boards 233 = .ok (.aload_n 0, 1) := by decide +kernel
theorem dL_boards_234 : decode cL_boards 234 = .ok (.invokevirtual 110, 3) := by decide +kernel
theorem dL_boards_237 : decode cL_boards 237 = .ok (.bipush 40, 2) := by decide +kernel
theorem dL_boards_239 : decode cL_boards 239 = .ok (.if_icmp .ne 81, 3) := by decide +kernel
theorem dL_boards_242 : decode cL_boards 242 = .ok (.aload_n 0, 1) := by decide +kernel
theorem dL_boards_243 : decode cL_boards 243 = .ok (.invokevirtual 110, 3) := by decide +kernel
theorem dL_boards_246 : decode cL_boards 246 = .ok (.bipush 30, 2) := by decide +kernel
theorem dL_boards_248 : decode cL_boards 248 = .ok (.if_icmp .ne 72, 3) := by decide +kernel
theorem dL_boards_251 : decode cL_boards 251 = .ok (.aload_n 0, 1) := by decide +kernel
theorem dL_boards_252 : decode cL_boards 252 = .ok (.iconst 3, 1) := by decide +kernel
theorem dL_boards_253 : decode cL_boards 253 = .ok (.iconst 1, 1) := by decide +kernel
theorem dL_boards_254 : decode cL_boards 254 = .ok (.iconst 0, 1) := by decide +kernel
theorem dL_boards_255 : decode cL_boards 255 = .ok (.iconst 1, 1) := by decide +kernel
theorem dL_boards_256 : decode cL_boards 256 = .ok (.bipush 50, 2) := by decide +kernel
theorem dL_boards_258 : decode cL_boards 258 = .ok (.bipush 10, 2) := by decide +kernel
theorem dL_boards_260 : decode cL_boards 260 = .ok (.invokestatic 116, 3) := by decide +kernel
theorem dL_boards_263 : decode cL_boards 263 = .ok (.ifCond .eq 57, 3) := by decide +kernel
theorem dL_boards_266 : decode cL_boards 266 = .ok (.aload_n 0, 1) := by decide +kernel
theorem dL_boards_267 : decode cL_boards 267 = .ok (.invokevirtual 110, 3) := by decide +kernel
theorem dL_boards_270 : decode cL_boards 270 = .ok (.bipush 20, 2) := by decide +kernel
theorem dL_boards_272 : decode cL_boards 272 = .ok (.if_icmp .ne 48, 3) := by decide +kernel
theorem dL_boards_275 : decode cL_boards 275 = .ok (.aload_n 0, 1) := by decide +kernel
theorem dL_boards_276 : decode cL_boards 276 = .ok (.iconst 2, 1) := by decide +kernel
theorem dL_boards_277 : decode cL_boards 277 = .ok (.iconst 1, 1) := by decide +kernel
theorem dL_boards_278 : decode cL_boards 278 = .ok (.iconst 0, 1) := by decide +kernel
theorem dL_boards_279 : decode cL_boards 279 = .ok (.iconst 1, 1) := by decide +kernel
theorem dL_boards_280 : decode cL_boards 280 = .ok (.iconst 0, 1) := by decide +kernel
theorem dL_boards_281 : decode cL_boards 281 = .ok (.iconst 0, 1) := by decide +kernel
theorem dL_boards_282 : decode cL_boards 282 = .ok (.invokestatic 116, 3) := by decide +kernel
theorem dL_boards_285 : decode cL_boards 285 = .ok (.ifCond .eq 35, 3) := by decide +kernel
theorem dL_boards_288 : decode cL_boards 288 = .ok (.aload_n 0, 1) := by decide +kernel
theorem dL_boards_289 : decode cL_boards 289 = .ok (.invokevirtual 110, 3) := by decide +kernel
theorem dL_boards_292 : decode cL_boards 292 = .ok (.iconst (-1), 1) := by decide +kernel
theorem dL_boards_293 : decode cL_boards 293 = .ok (.if_icmp .ne 27, 3) := by decide +kernel
theorem dL_boards_296 : decode cL_boards 296 = .ok (.aload_n 0, 1) := by decide +kernel
theorem dL_boards_297 : decode cL_boards 297 = .ok (.iconst (-1), 1) := by decide +kernel
theorem dL_boards_298 : decode cL_boards 298 = .ok (.invokestatic 55, 3) := by decide +kernel
theorem dL_boards_301 : decode cL_boards 301 = .ok (.iconst 1, 1) := by decide +kernel
theorem dL_boards_302 : decode cL_boards 302 = .ok (.if_icmp .ne 18, 3) := by decide +kernel
theorem dL_boards_305 : decode cL_boards 305 = .ok (.aload_n 0, 1) := by decide +kernel
theorem dL_boards_306 : decode cL_boards 306 = .ok (.iconst 3, 1) := by decide +kernel
theorem dL_boards_307 : decode cL_boards 307 = .ok (.iconst 1, 1) := by decide +kernel
theorem dL_boards_308 : decode cL_boards 308 = .ok (.iconst 1, 1) := by decide +kernel
theorem dL_boards_309 : decode cL_boards 309 = .ok (.iconst 1, 1) := by decide +kernel
theorem dL_boards_310 : decode cL_boards 310 = .ok (.bipush 50, 2) := by decide +kernel
theorem dL_boards_312 : decode cL_boards 312 = .ok (.bipush 10, 2) := by decide +kernel
theorem dL_boards_314 : decode cL_boards 314 = .ok (.invokestatic 116, 3) := by decide +kernel
theorem dL_boards_317 : decode cL_boards 317 = .ok (.ifCond .ne 5, 3) := by decide +kernel
theorem dL_boards_320 : decode cL_boards 320 = .ok (.iconst 0, 1) := by decide +kernel
theorem dL_boards_321 : decode cL_boards 321 = .ok (.ireturn, 1) := by decide +kernel
theorem dL_boards_322 : decode cL_boards 322 = .ok (.aload_n 0, 1) := by decide +kernel
theorem dL_boards_323 : decode cL_boards 323 = .ok (.sipush 300, 3) := by decide +kernel
theorem dL_boards_326 : decode cL_boards 326 = .ok (.invokevirtual 43, 3) := by decide +kernel
theorem dL_boards_329 : decode cL_boards 329 = .ok (.sipush 310, 3) := by decide +kernel
theorem dL_boards_332 : decode cL_boards 332 = .ok (.if_icmp .ne 43, 3) := by decide +kernel
theorem dL_boards_335 : decode cL_boards 335 = .ok (.aload_n 0, 1) := by decide +kernel
theorem dL_boards_336 : decode cL_boards 336 = .ok (.iconst 2, 1) := by decide +kernel
theorem dL_boards_337 : decode cL_boards 337 = .ok (.invokevirtual 64, 3) := by decide +kernel
theorem dL_boards_340 : decode cL_boards 340 = .ok (.ifCond .ne 35, 3) := by decide +kernel
theorem dL_boards_343 : decode cL_boards 343 = .ok (.aload_n 0, 1) := by decide +kernel
theorem dL_boards_344 : decode cL_boards 344 = .ok (.iconst 3, 1) := by decide +kernel
theorem dL_boards_345 : decode cL_boards 345 = .ok (.invokevirtual 64, 3) := by decide +kernel
theorem dL_boards_348 : decode cL_boards 348 = .ok (.iconst 1, 1) := by decide +kernel
theorem dL_boards_349 : decode cL_boards 349 = .ok (.if_icmp .ne 26, 3) := by decide +kernel
theorem dL_boards_352 : decode cL_boards 352 = .ok (.aload_n 0, 1) := by decide +kernel
theorem dL_boards_353 : decode cL_boards 353 = .ok (.iconst 5, 1) := by decide +kernel
theorem dL_boards_354 : decode cL_boards 354 = .ok (.invokevirtual 64, 3) := by decide +kernel
theorem dL_boards_357 : decode cL_boards 357 = .ok (.iconst 5, 1) := by decide +kernel
theorem dL_boards_358 : decode cL_boards 358 = .ok (.if_icmp .ne 17, 3) := by decide +kernel
theorem dL_boards_361 : decode cL_boards 361 = .ok (.aload_n 0, 1) := by decide +kernel
theorem dL_boards_362 : decode cL_boards 362 = .ok (.iconst 1, 1) := by decide +kernel
theorem dL_boards_363 : decode cL_boards 363 = .ok (.bipush 7, 2) := by decide +kernel
theorem dL_boards_365 : decode cL_boards 365 = .ok (.invokestatic 99, 3) := by decide +kernel
theorem dL_boards_368 : decode cL_boards 368 = .ok (.ifCond .eq 7, 3) := by decide +kernel
theorem dL_boards_371 : decode cL_boards 371 = .ok (.iconst 1, 1) := by decide +kernel
theorem dL_boards_372 : decode cL_boards 372 = .ok (.goto 4, 3) := by decide +kernel
theorem dL_boards_375 : decode cL_boards 375 = .ok (.iconst 0, 1) := by decide +kernel
theorem dL_boards_376 : decode cL_boards 376 = .ok (.ireturn, 1) := by decide +kernel
