theorem dX8_init_0 : decode cX8_init 0 = .ok (.aload_n 0, 1) := by decide +kernel
theorem dX8_init_1 : decode cX8_init 1 = .ok (.invokespecial 1, 3) := by decide +kernel
theorem dX8_init_4 : decode cX8_init 4 = .ok (.aload_n 0, 1) := by decide +kernel
theorem dX8_init_5 : decode cX8_init 5 = .ok (.bipush 67, 2) := by decide +kernel
theorem dX8_init_7 : decode cX8_init 7 = .ok (.newarray .int, 2) := by decide +kernel
theorem dX8_init_9 : decode cX8_init 9 = .ok (.putfield 7, 3) := by decide +kernel
theorem dX8_init_12 : decode cX8_init 12 = .ok (.aload_n 0, 1) := by decide +kernel
theorem dX8_init_13 : decode cX8_init 13 = .ok (.sipush 1072, 3) := by decide +kernel
theorem dX8_init_16 : decode cX8_init 16 = .ok (.newarray .int, 2) := by decide +kernel
theorem dX8_init_18 : decode cX8_init 18 = .ok (.putfield 13, 3) := by decide +kernel
theorem dX8_init_21 : decode cX8_init 21 = .ok (.aload_n 0, 1) := by decide +kernel
theorem dX8_init_22 : decode cX8_init 22 = .ok (.sipush 1072, 3) := by decide +kernel
theorem dX8_init_25 : decode cX8_init 25 = .ok (.newarray .int, 2) := by decide +kernel
theorem dX8_init_27 : decode cX8_init 27 = .ok (.putfield 16, 3) := by decide +kernel
theorem dX8_init_30 : decode cX8_init 30 = .ok (.aload_n 0, 1) := by decide +kernel
theorem dX8_init_31 : decode cX8_init 31 = .ok (.bipush 73, 2) := by decide +kernel
theorem dX8_init_33 : decode cX8_init 33 = .ok (.newarray .int, 2) := by decide +kernel
theorem dX8_init_35 : decode cX8_init 35 = .ok (.putfield 19, 3) := by decide +kernel
theorem dX8_init_38 : decode cX8_init 38 = .ok (.aload_n 0, 1) := by decide +kernel
theorem dX8_init_39 : decode cX8_init 39 = .ok (.sipush 292, 3) := by decide +kernel
theorem dX8_init_42 : decode cX8_init 42 = .ok (.newarray .int, 2) := by decide +kernel
theorem dX8_init_44 : decode cX8_init 44 = .ok (.putfield 22, 3) := by decide +kernel
theorem dX8_init_47 : decode cX8_init 47 = .ok (.aload_n 0, 1) := by decide +kernel
theorem dX8_init_48 : decode cX8_init 48 = .ok (.bipush 6, 2) := by decide +kernel
theorem dX8_init_50 : decode cX8_init 50 = .ok (.newarray .int, 2) := by decide +kernel
theorem dX8_init_52 : decode cX8_init 52 = .ok (.putfield 25, 3) := by decide +kernel
theorem dX8_init_55 : decode cX8_init 55 = .ok (.aload_n 0, 1) := by decide +kernel
theorem dX8_init_56 : decode cX8_init 56 = .ok (.bipush 6, 2) := by decide +kernel
theorem dX8_init_58 : decode cX8_init 58 = .ok (.newarray .int, 2) := by decide +kernel
theorem dX8_init_60 : decode cX8_init 60 = .ok (.putfield 28, 3) := by decide +kernel
theorem dX8_init_63 : decode cX8_init 63 = .ok (.aload_n 0, 1) := by decide +kernel
theorem dX8_init_64 : decode cX8_init 64 = .ok (.bipush 6, 2) := by decide +kernel
theorem dX8_init_66 : decode cX8_init 66 = .ok (.newarray .int, 2) := by decide +kernel
theorem dX8_init_68 : decode cX8_init 68 = .ok (.putfield 31, 3) := by decide +kernel
theorem dX8_init_71 : decode cX8_init 71 = .ok (.aload_n 0, 1) := by decide +kernel
theorem dX8_init_72 : decode cX8_init 72 = .ok (.bipush 6, 2) := by decide +kernel
theorem dX8_init_74 : decode cX8_init 74 = .ok (.newarray .int, 2) := by decide +kernel
theorem dX8_init_76 : decode cX8_init 76 = .ok (.putfield 34, 3) := by decide +kernel
theorem dX8_init_79 : decode cX8_init 79 = .ok (.aload_n 0, 1) := by decide +kernel
theorem dX8_init_80 : decode cX8_init 80 = .ok (.bipush 72, 2) := by decide +kernel
theorem dX8_init_82 : decode cX8_init 82 = .ok (.newarray .int, 2) := by decide +kernel
theorem dX8_init_84 : decode cX8_init 84 = .ok (.putfield 37, 3) := by decide +kernel
theorem dX8_init_87 : decode cX8_init 87 = .ok (.aload_n 0, 1) := by decide +kernel
theorem dX8_init_88 : decode cX8_init 88 = .ok (.bipush 24, 2) := by decide +kernel
theorem dX8_init_90 : decode cX8_init 90 = .ok (.newarray .int, 2) := by decide +kernel
theorem dX8_init_92 : decode cX8_init 92 = .ok (.putfield 40, 3) := by decide +kernel
theorem dX8_init_95 : decode cX8_init 95 = .ok (.aload_n 0, 1) := by decide +kernel
theorem dX8_init_96 : decode cX8_init 96 = .ok (.bipush 60, 2) := by decide +kernel
theorem dX8_init_98 : decode cX8_init 98 = .ok (.newarray .int, 2) := by decide +kernel
theorem dX8_init_100 : decode cX8_init 100 = .ok (.putfield 43, 3) := by decide +kernel
theorem dX8_init_103 : decode cX8_init 103 = .ok (.aload_n 0, 1) := by decide +kernel
theorem dX8_init_104 : decode cX8_init 104 = .ok (.bipush 60, 2) := by decide +kernel
theorem dX8_init_106 : decode cX8_init 106 = .ok (.newarray .int, 2) := by decide +kernel
theorem dX8_init_108 : decode cX8_init 108 = .ok (.putfield 46, 3) := by decide +kernel
theorem dX8_init_111 : decode cX8_init 111 = .ok (.aload_n 0, 1) := by decide +kernel
theorem dX8_init_112 : decode cX8_init 112 = .ok (.bipush 60, 2) := by decide +kernel
theorem dX8_init_114 : decode cX8_init 114 = .ok (.newarray .int, 2) := by decide +kernel
theorem dX8_init_116 : decode cX8_init 116 = .ok (.putfield 49, 3) := by decide +kernel
theorem dX8_init_119 : decode cX8_init 119 = .ok (.aload_n 0, 1) := by decide +kernel
theorem dX8_init_120 : decode cX8_init 120 = .ok (.bipush 60, 2) := by decide +kernel
theorem dX8_init_122 : decode cX8_init 122 = .ok (.newarray .int, 2) := by decide +kernel
theorem dX8_init_124 : decode cX8_init 124 = .ok (.putfield 52, 3) := by decide +kernel
theorem dX8_init_127 : decode cX8_init 127 = .ok (.aload_n 0, 1) := by decide +kernel
theorem dX8_init_128 : decode cX8_init 128 = .ok (.bipush 60, 2) := by decide +kernel
theorem dX8_init_130 : decode cX8_init 130 = .ok (.newarray .int, 2) := by decide +kernel
theorem dX8_init_132 : decode cX8_init 132 = .ok (.putfield 55, 3) := by decide +kernel
theorem dX8_init_135 : decode cX8_init 135 = .ok (.aload_n 0, 1) := by decide +kernel
theorem dX8_init_136 : decode cX8_init 136 = .ok (.bipush 60, 2) := by decide +kernel
theorem dX8_init_138 : decode cX8_init 138 = .ok (.newarray .int, 2) := by decide +kernel
theorem dX8_init_140 : decode cX8_init 140 = .ok (.putfield 58, 3) := by decide +kernel
theorem dX8_init_143 : decode cX8_init 143 = .ok (.aload_n 0, 1) := by decide +kernel
theorem dX8_init_144 : decode cX8_init 144 = .ok (.bipush 60, 2) := by decide +kernel
theorem dX8_init_146 : decode cX8_init 146 = .ok (.newarray .int, 2) := by decide +kernel
theorem dX8_init_148 : decode cX8_init 148 = .ok (.putfield 61, 3) := by decide +kernel
theorem dX8_init_151 : decode cX8_init 151 = .ok (.aload_n 0, 1) := by decide +kernel
theorem dX8_init_152 : decode cX8_init 152 = .ok (.bipush 8, 2) := by decide +kernel
theorem dX8_init_154 : decode cX8_init 154 = .ok (.newarray .int, 2) := by decide +kernel
theorem dX8_init_156 : decode cX8_init 156 = .ok (.putfield 64, 3) := by decide +kernel
theorem dX8_init_159 : decode cX8_init 159 = .ok (.aload_n 0, 1) := by decide +kernel
theorem dX8_init_160 : decode cX8_init 160 = .ok (.bipush 8, 2) := by decide +kernel
theorem dX8_init_162 : decode cX8_init 162 = .ok (.newarray .int, 2) := by decide +kernel
theorem dX8_init_164 : decode cX8_init 164 = .ok (.putfield 67, 3) := by decide +kernel
theorem dX8_init_167 : decode cX8_init 167 = .ok (.aload_n 0, 1) := by decide +kernel
theorem dX8_init_168 : decode cX8_init 168 = .ok (.iconst (-1), 1) := by decide +kernel
theorem dX8_init_169 : decode cX8_init 169 = .ok (.putfield 70, 3) := by decide +kernel
theorem dX8_init_172 : decode cX8_init 172 = .ok (.aload_n 0, 1) := by decide +kernel
theorem dX8_init_173 : decode cX8_init 173 = .ok (.bipush 48, 2) := by decide +kernel
theorem dX8_init_175 : decode cX8_init 175 = .ok (.newarray .boolean, 2) := by decide +kernel
theorem dX8_init_177 : decode cX8_init 177 = .ok (.putfield 74, 3) := by decide +kernel
theorem dX8_init_180 : decode cX8_init 180 = .ok (.aload_n 0, 1) := by decide +kernel
theorem dX8_init_181 : decode cX8_init 181 = .ok (.bipush 8, 2) := by decide +kernel
theorem dX8_init_183 : decode cX8_init 183 = .ok (.newarray .int, 2) := by decide +kernel
theorem dX8_init_185 : decode cX8_init 185 = .ok (.putfield 78, 3) := by decide +kernel
theorem dX8_init_188 : decode cX8_init 188 = .ok (.aload_n 0, 1) := by decide +kernel
theorem dX8_init_189 : decode cX8_init 189 = .ok (.bipush 8, 2) := by decide +kernel
theorem dX8_init_191 : decode cX8_init 191 = .ok (.newarray .int, 2) := by decide +kernel
theorem dX8_init_193 : decode cX8_init 193 = .ok (.putfield 81, 3) := by decide +kernel
theorem dX8_init_196 : decode cX8_init 196 = .ok (.aload_n 0, 1) := by decide +kernel
theorem dX8_init_197 : decode cX8_init 197 = .ok (.bipush 8, 2) := by decide +kernel
theorem dX8_init_199 : decode cX8_init 199 = .ok (.newarray .int, 2) := by decide +kernel
theorem dX8_init_201 : decode cX8_init 201 = .ok (.putfield 84, 3) := by decide +kernel
theorem dX8_init_204 : decode cX8_init 204 = .ok (.aload_n 0, 1) := by decide +kernel
theorem dX8_init_205 : decode cX8_init 205 = .ok (.bipush 60, 2) := by decide +kernel
theorem dX8_init_207 : decode cX8_init 207 = .ok (.newarray .int, 2) := by decide +kernel
theorem dX8_init_209 : decode cX8_init 209 = .ok (.putfield 87, 3) := by decide +kernel
theorem dX8_init_212 : decode cX8_init 212 = .ok (.aload_n 0, 1) := by decide +kernel
theorem dX8_init_213 : decode cX8_init 213 = .ok (.bipush 8, 2) := by decide +kernel
theorem dX8_init_215 : decode cX8_init 215 = .ok (.newarray .int, 2) := by decide +kernel
theorem dX8_init_217 : decode cX8_init 217 = .ok (.putfield 90, 3) := by decide +kernel
theorem dX8_init_220 : decode cX8_init 220 = .ok (.aload_n 0, 1) := by decide +kernel
theorem dX8_init_221 : decode cX8_init 221 = .ok (.bipush 8, 2) := by decide +kernel
theorem dX8_init_223 : decode cX8_init 223 = .ok (.newarray .int, 2) := by decide +kernel
theorem dX8_init_225 : decode cX8_init 225 = .ok (.putfield 93, 3) := by decide +kernel
theorem dX8_init_228 : decode cX8_init 228 = .ok (.aload_n 0, 1) := by decide +kernel
theorem dX8_init_229 : decode cX8_init 229 = .ok (.bipush 8, 2) := by decide +kernel
theorem dX8_init_231 : decode cX8_init 231 = .ok (.newarray .int, 2) := by decide +kernel
theorem dX8_init_233 : decode cX8_init 233 = .ok (.putfield 96, 3) := by decide +kernel
theorem dX8_init_236 : decode cX8_init 236 = .ok (.aload_n 0, 1) := by decide +kernel
theorem dX8_init_237 : decode cX8_init 237 = .ok (.bipush 17, 2) := by decide +kernel
theorem dX8_init_239 : decode cX8_init 239 = .ok (.newarray .int, 2) := by decide +kernel
theorem dX8_init_241 : decode cX8_init 241 = .ok (.putfield 99, 3) := by decide +kernel
theorem dX8_init_244 : decode cX8_init 244 = .ok (.iconst 0, 1) := by decide +kernel
theorem dX8_init_245 : decode cX8_init 245 = .ok (.istore_n 1, 1) := by decide +kernel
theorem dX8_init_246 : decode cX8_init 246 = .ok (.iload_n 1, 1) := by decide +kernel
theorem dX8_init_247 : decode cX8_init 247 = .ok (.bipush 24, 2) := by decide +kernel
theorem dX8_init_249 : decode cX8_init 249 = .ok (.if_icmp .ge 17, 3) := by decide +kernel
theorem dX8_init_252 : decode cX8_init 252 = .ok (.aload_n 0, 1) := by decide +kernel
theorem dX8_init_253 : decode cX8_init 253 = .ok (.getfield 40, 3) := by decide +kernel
theorem dX8_init_256 : decode cX8_init 256 = .ok (.iload_n 1, 1) := by decide +kernel
theorem dX8_init_257 : decode cX8_init 257 = .ok (.bipush 25, 2) := by decide +kernel
theorem dX8_init_259 : decode cX8_init 259 = .ok (.iastore, 1) := by decide +kernel
theorem dX8_init_260 : decode cX8_init 260 = .ok (.iinc 1 1, 3) := by decide +kernel
theorem dX8_init_263 : decode cX8_init 263 = .ok (.goto (-17), 3) := by decide +kernel
theorem dX8_init_266 : decode cX8_init 266 = .ok (.return_, 1) := by decide +kernel
theorem dX8_thrown_0 : decode cX8_thrown 0 = .ok (.aload_n 0, 1) := by decide +kernel
theorem dX8_thrown_1 : decode cX8_thrown 1 = .ok (.getfield 102, 3) := by decide +kernel
theorem dX8_thrown_4 : decode cX8_thrown 4 = .ok (.ireturn, 1) := by decide +kernel
theorem dX8_isIn_0 : decode cX8_isIn 0 = .ok (.iload_n 0, 1) := by decide +kernel
theorem dX8_isIn_1 : decode cX8_isIn 1 = .ok (.iload_n 1, 1) := by decide +kernel
theorem dX8_isIn_2 : decode cX8_isIn 2 = .ok (.if_icmp .lt 12, 3) := by decide +kernel
theorem dX8_isIn_5 : decode cX8_isIn 5 = .ok (.iload_n 0, 1) := by decide +kernel
theorem dX8_isIn_6 : decode cX8_isIn 6 = .ok (.iload_n 2, 1) := by decide +kernel
theorem dX8_isIn_7 : decode cX8_isIn 7 = .ok (.if_icmp .gt 7, 3) := by decide +kernel
theorem dX8_isIn_10 : decode cX8_isIn 10 = .ok (.iconst 1, 1) := by decide +kernel
theorem dX8_isIn_11 : decode cX8_isIn 11 = .ok (.goto 4, 3) := by decide +kernel
theorem dX8_isIn_14 : decode cX8_isIn 14 = .ok (.iconst 0, 1) := by decide +kernel
theorem dX8_isIn_15 : decode cX8_isIn 15 = .ok (.ireturn, 1) := by decide +kernel
theorem dX8_isProblem_0 : decode cX8_isProblem 0 = .ok (.iload_n 1, 1) := by decide +kernel
theorem dX8_isProblem_1 : decode cX8_isProblem 1 = .ok (.iconst 0, 1) := by decide +kernel
theorem dX8_isProblem_2 : decode cX8_isProblem 2 = .ok (.aload_n 0, 1) := by decide +kernel
theorem dX8_isProblem_3 : decode cX8_isProblem 3 = .ok (.getfield 105, 3) := by decide +kernel
theorem dX8_isProblem_6 : decode cX8_isProblem 6 = .ok (.iconst 1, 1) := by decide +kernel
theorem dX8_isProblem_7 : decode cX8_isProblem 7 = .ok (.isub, 1) := by decide +kernel
theorem dX8_isProblem_8 : decode cX8_isProblem 8 = .ok (.invokestatic 108, 3) := by decide +kernel
theorem dX8_isProblem_11 : decode cX8_isProblem 11 = .ok (.ireturn, 1) := by decide +kernel
theorem dX8_isEntry_0 : decode cX8_isEntry 0 = .ok (.iload_n 1, 1) := by decide +kernel
theorem dX8_isEntry_1 : decode cX8_isEntry 1 = .ok (.iconst 0, 1) := by decide +kernel
theorem dX8_isEntry_2 : decode cX8_isEntry 2 = .ok (.aload_n 0, 1) := by decide +kernel
theorem dX8_isEntry_3 : decode cX8_isEntry 3 = .ok (.getfield 112, 3) := by decide +kernel
theorem dX8_isEntry_6 : decode cX8_isEntry 6 = .ok (.iconst 1, 1) := by decide +kernel
theorem dX8_isEntry_7 : decode cX8_isEntry 7 = .ok (.isub, 1) := by decide +kernel
theorem dX8_isEntry_8 : decode cX8_isEntry 8 = .ok (.invokestatic 108, 3) := by decide +kernel
theorem dX8_isEntry_11 : decode cX8_isEntry 11 = .ok (.ireturn, 1) := by decide +kernel
theorem dX8_isTeam_0 : decode cX8_isTeam 0 = .ok (.iload_n 0, 1) := by decide +kernel
theorem dX8_isTeam_1 : decode cX8_isTeam 1 = .ok (.iconst 0, 1) := by decide +kernel
theorem dX8_isTeam_2 : decode cX8_isTeam 2 = .ok (.bipush 7, 2) := by decide +kernel
theorem dX8_isTeam_4 : decode cX8_isTeam 4 = .ok (.invokestatic 108, 3) := by decide +kernel
theorem dX8_isTeam_7 : decode cX8_isTeam 7 = .ok (.ireturn, 1) := by decide +kernel
theorem dX8_isGroup_0 : decode cX8_isGroup 0 = .ok (.iload_n 0, 1) := by decide +kernel
theorem dX8_isGroup_1 : decode cX8_isGroup 1 = .ok (.iconst 0, 1) := by decide +kernel
theorem dX8_isGroup_2 : decode cX8_isGroup 2 = .ok (.iconst 3, 1) := by decide +kernel
theorem dX8_isGroup_3 : decode cX8_isGroup 3 = .ok (.invokestatic 108, 3) := by decide +kernel
theorem dX8_isGroup_6 : decode cX8_isGroup 6 = .ok (.ireturn, 1) := by decide +kernel
theorem dX8_needs_0 : decode cX8_needs 0 = .ok (.iload_n 0, 1) := by decide +kernel
theorem dX8_needs_1 : decode cX8_needs 1 = .ok (.iconst 2, 1) := by decide +kernel
theorem dX8_needs_2 : decode cX8_needs 2 = .ok (.if_icmp .eq 19, 3) := by decide +kernel
theorem dX8_needs_5 : decode cX8_needs 5 = .ok (.iload_n 0, 1) := by decide +kernel
theorem dX8_needs_6 : decode cX8_needs 6 = .ok (.iconst 3, 1) := by decide +kernel
theorem dX8_needs_7 : decode cX8_needs 7 = .ok (.if_icmp .eq 14, 3) := by decide +kernel
theorem dX8_needs_10 : decode cX8_needs 10 = .ok (.iload_n 0, 1) := by decide +kernel
theorem dX8_needs_11 : decode cX8_needs 11 = .ok (.iconst 4, 1) := by decide +kernel
theorem dX8_needs_12 : decode cX8_needs 12 = .ok (.if_icmp .eq 9, 3) := by decide +kernel
theorem dX8_needs_15 : decode cX8_needs 15 = .ok (.iload_n 0, 1) := by decide +kernel
theorem dX8_needs_16 : decode cX8_needs 16 = .ok (.bipush 6, 2) := by decide +kernel
theorem dX8_needs_18 : decode cX8_needs 18 = .ok (.if_icmp .ne 7, 3) := by decide +kernel
theorem dX8_needs_21 : decode cX8_needs 21 = .ok (.iconst 2, 1) := by decide +kernel
theorem dX8_needs_22 : decode cX8_needs 22 = .ok (.goto 25, 3) := by decide +kernel
theorem dX8_needs_25 : decode cX8_needs 25 = .ok (.iload_n 0, 1) := by decide +kernel
theorem dX8_needs_26 : decode cX8_needs 26 = .ok (.iconst 5, 1) := by decide +kernel
theorem dX8_needs_27 : decode cX8_needs 27 = .ok (.if_icmp .eq 15, 3) := by decide +kernel
theorem dX8_needs_30 : decode cX8_needs 30 = .ok (.iload_n 0, 1) := by decide +kernel
theorem dX8_needs_31 : decode cX8_needs 31 = .ok (.bipush 7, 2) := by decide +kernel
theorem dX8_needs_33 : decode cX8_needs 33 = .ok (.if_icmp .eq 9, 3) := by decide +kernel
theorem dX8_needs_36 : decode cX8_needs 36 = .ok (.iload_n 0, 1) := by decide +kernel
theorem dX8_needs_37 : decode cX8_needs 37 = .ok (.bipush 9, 2) := by decide +kernel
theorem dX8_needs_39 : decode cX8_needs 39 = .ok (.if_icmp .ne 7, 3) := by decide +kernel
theorem dX8_needs_42 : decode cX8_needs 42 = .ok (.iconst 1, 1) := by decide +kernel
theorem dX8_needs_43 : decode cX8_needs 43 = .ok (.goto 4, 3) := by decide +kernel
theorem dX8_needs_46 : decode cX8_needs 46 = .ok (.iconst 0, 1) := by decide +kernel
theorem dX8_needs_47 : decode cX8_needs 47 = .ok (.ireturn, 1) := by decide +kernel
theorem dX8_pushes_0 : decode cX8_pushes 0 = .ok (.iload_n 1, 1) := by decide +kernel
theorem dX8_pushes_1 : decode cX8_pushes 1 = .ok (.ldc 115, 2) := by decide +kernel
theorem dX8_pushes_3 : decode cX8_pushes 3 = .ok (.ldc 116, 2) := by decide +kernel
theorem dX8_pushes_5 : decode cX8_pushes 5 = .ok (.invokestatic 108, 3) := by decide +kernel
theorem dX8_pushes_8 : decode cX8_pushes 8 = .ok (.ifCond .ne 11, 3) := by decide +kernel
theorem dX8_pushes_11 : decode cX8_pushes 11 = .ok (.aload_n 0, 1) := by decide +kernel
theorem dX8_pushes_12 : decode cX8_pushes 12 = .ok (.iconst 4, 1) := by decide +kernel
theorem dX8_pushes_13 : decode cX8_pushes 13 = .ok (.putfield 117, 3) := by decide +kernel
theorem dX8_pushes_16 : decode cX8_pushes 16 = .ok (.goto 40, 3) := by decide +kernel
theorem dX8_pushes_19 : decode cX8_pushes 19 = .ok (.aload_n 0, 1) := by decide +kernel
theorem dX8_pushes_20 : decode cX8_pushes 20 = .ok (.getfield 120, 3) := by decide +kernel
theorem dX8_pushes_23 : decode cX8_pushes 23 = .ok (.bipush 8, 2) := by decide +kernel
theorem dX8_pushes_25 : decode cX8_pushes 25 = .ok (.if_icmp .ne 11, 3) := by decide +kernel
theorem dX8_pushes_28 : decode cX8_pushes 28 = .ok (.aload_n 0, 1) := by decide +kernel
theorem dX8_pushes_29 : decode cX8_pushes 29 = .ok (.iconst 3, 1) := by decide +kernel
theorem dX8_pushes_30 : decode cX8_pushes 30 = .ok (.putfield 117, 3) := by decide +kernel
theorem dX8_pushes_33 : decode cX8_pushes 33 = .ok (.goto 23, 3) := by decide +kernel
theorem dX8_pushes_36 : decode cX8_pushes 36 = .ok (.aload_n 0, 1) := by decide +kernel
theorem dX8_pushes_37 : decode cX8_pushes 37 = .ok (.getfield 81, 3) := by decide +kernel
theorem dX8_pushes_40 : decode cX8_pushes 40 = .ok (.aload_n 0, 1) := by decide +kernel
theorem dX8_pushes_41 : decode cX8_pushes 41 = .ok (.getfield 120, 3) := by decide +kernel
theorem dX8_pushes_44 : decode cX8_pushes 44 = .ok (.iload_n 1, 1) := by decide +kernel
theorem dX8_pushes_45 : decode cX8_pushes 45 = .ok (.iastore, 1) := by decide +kernel
theorem dX8_pushes_46 : decode cX8_pushes 46 = .ok (.aload_n 0, 1) := by decide +kernel
theorem dX8_pushes_47 : decode cX8_pushes 47 = .ok (.dup, 1) := by decide +kernel
theorem dX8_pushes_48 : decode cX8_pushes 48 = .ok (.getfield 120, 3) := by decide +kernel
theorem dX8_pushes_51 : decode cX8_pushes 51 = .ok (.iconst 1, 1) := by decide +kernel
theorem dX8_pushes_52 : decode cX8_pushes 52 = .ok (.iadd, 1) := by decide +kernel
theorem dX8_pushes_53 : decode cX8_pushes 53 = .ok (.putfield 120, 3) := by decide +kernel
theorem dX8_pushes_56 : decode cX8_pushes 56 = .ok (.return_, 1) := by decide +kernel
theorem dX8_runs_0 : decode cX8_runs 0 = .ok (.aload_n 0, 1) := by decide +kernel
theorem dX8_runs_1 : decode cX8_runs 1 = .ok (.iconst 0, 1) := by decide +kernel
theorem dX8_runs_2 : decode cX8_runs 2 = .ok (.putfield 117, 3) := by decide +kernel
theorem dX8_runs_5 : decode cX8_runs 5 = .ok (.aload_n 0, 1) := by decide +kernel
theorem dX8_runs_6 : decode cX8_runs 6 = .ok (.iconst 0, 1) := by decide +kernel
theorem dX8_runs_7 : decode cX8_runs 7 = .ok (.putfield 123, 3) := by decide +kernel
theorem dX8_runs_10 : decode cX8_runs 10 = .ok (.aload_n 0, 1) := by decide +kernel
theorem dX8_runs_11 : decode cX8_runs 11 = .ok (.iconst 0, 1) := by decide +kernel
theorem dX8_runs_12 : decode cX8_runs 12 = .ok (.putfield 126, 3) := by decide +kernel
theorem dX8_runs_15 : decode cX8_runs 15 = .ok (.aload_n 0, 1) := by decide +kernel
theorem dX8_runs_16 : decode cX8_runs 16 = .ok (.iconst 0, 1) := by decide +kernel
theorem dX8_runs_17 : decode cX8_runs 17 = .ok (.putfield 120, 3) := by decide +kernel
theorem dX8_runs_20 : decode cX8_runs 20 = .ok (.iconst 0, 1) := by decide +kernel
theorem dX8_runs_21 : decode cX8_runs 21 = .ok (.istore 4, 2) := by decide +kernel
theorem dX8_runs_23 : decode cX8_runs 23 = .ok (.iconst 0, 1) := by decide +kernel
theorem dX8_runs_24 : decode cX8_runs 24 = .ok (.istore 5, 2) := by decide +kernel
theorem dX8_runs_26 : decode cX8_runs 26 = .ok (.aload_n 0, 1) := by decide +kernel
theorem dX8_runs_27 : decode cX8_runs 27 = .ok (.getfield 117, 3) := by decide +kernel
theorem dX8_runs_30 : decode cX8_runs 30 = .ok (.ifCond .ne 470, 3) := by decide +kernel
theorem dX8_runs_33 : decode cX8_runs 33 = .ok (.iload 4, 2) := by decide +kernel
theorem dX8_runs_35 : decode cX8_runs 35 = .ok (.aload_n 0, 1) := by decide +kernel
theorem dX8_runs_36 : decode cX8_runs 36 = .ok (.getfield 7, 3) := by decide +kernel
theorem dX8_runs_39 : decode cX8_runs 39 = .ok (.iload_n 1, 1) := by decide +kernel
theorem dX8_runs_40 : decode cX8_runs 40 = .ok (.iaload, 1) := by decide +kernel
theorem dX8_runs_41 : decode cX8_runs 41 = .ok (.if_icmp .ge 459, 3) := by decide +kernel
theorem dX8_runs_44 : decode cX8_runs 44 = .ok (.aload_n 0, 1) := by decide +kernel
theorem dX8_runs_45 : decode cX8_runs 45 = .ok (.getfield 123, 3) := by decide +kernel
theorem dX8_runs_48 : decode cX8_runs 48 = .ok (.iload_n 3, 1) := by decide +kernel
theorem dX8_runs_49 : decode cX8_runs 49 = .ok (.if_icmp .ne 9, 3) := by decide +kernel
theorem dX8_runs_52 : decode cX8_runs 52 = .ok (.aload_n 0, 1) := by decide +kernel
theorem dX8_runs_53 : decode cX8_runs 53 = .ok (.iconst 2, 1) := by decide +kernel
theorem dX8_runs_54 : decode cX8_runs 54 = .ok (.putfield 117, 3) := by decide +kernel
theorem dX8_runs_57 : decode cX8_runs 57 = .ok (.return_, 1) := by decide +kernel
theorem dX8_runs_58 : decode cX8_runs 58 = .ok (.aload_n 0, 1) := by decide +kernel
theorem dX8_runs_59 : decode cX8_runs 59 = .ok (.dup, 1) := by decide +kernel
theorem dX8_runs_60 : decode cX8_runs 60 = .ok (.getfield 123, 3) := by decide +kernel
theorem dX8_runs_63 : decode cX8_runs 63 = .ok (.iconst 1, 1) := by decide +kernel
theorem dX8_runs_64 : decode cX8_runs 64 = .ok (.iadd, 1) := by decide +kernel
theorem dX8_runs_65 : decode cX8_runs 65 = .ok (.putfield 123, 3) := by decide +kernel
theorem dX8_runs_68 : decode cX8_runs 68 = .ok (.aload_n 0, 1) := by decide +kernel
theorem dX8_runs_69 : decode cX8_runs 69 = .ok (.getfield 13, 3) := by decide +kernel
theorem dX8_runs_72 : decode cX8_runs 72 = .ok (.bipush 16, 2) := by decide +kernel
theorem dX8_runs_74 : decode cX8_runs 74 = .ok (.iload_n 1, 1) := by decide +kernel
theorem dX8_runs_75 : decode cX8_runs 75 = .ok (.imul, 1) := by decide +kernel
theorem dX8_runs_76 : decode cX8_runs 76 = .ok (.iload 4, 2) := by decide +kernel
theorem dX8_runs_78 : decode cX8_runs 78 = .ok (.iadd, 1) := by decide +kernel
theorem dX8_runs_79 : decode cX8_runs 79 = .ok (.iaload, 1) := by decide +kernel
theorem dX8_runs_80 : decode cX8_runs 80 = .ok (.istore 6, 2) := by decide +kernel
theorem dX8_runs_82 : decode cX8_runs 82 = .ok (.aload_n 0, 1) := by decide +kernel
theorem dX8_runs_83 : decode cX8_runs 83 = .ok (.getfield 16, 3) := by decide +kernel
theorem dX8_runs_86 : decode cX8_runs 86 = .ok (.bipush 16, 2) := by decide +kernel
theorem dX8_runs_88 : decode cX8_runs 88 = .ok (.iload_n 1, 1) := by decide +kernel
theorem dX8_runs_89 : decode cX8_runs 89 = .ok (.imul, 1) := by decide +kernel
theorem dX8_runs_90 : decode cX8_runs 90 = .ok (.iload 4, 2) := by decide +kernel
theorem dX8_runs_92 : decode cX8_runs 92 = .ok (.iadd, 1) := by decide +kernel
theorem dX8_runs_93 : decode cX8_runs 93 = .ok (.iaload, 1) := by decide +kernel
theorem dX8_runs_94 : decode cX8_runs 94 = .ok (.istore 7, 2) := by decide +kernel
theorem dX8_runs_96 : decode cX8_runs 96 = .ok (.iinc 4 1, 3) := by decide +kernel
theorem dX8_runs_99 : decode cX8_runs 99 = .ok (.aload_n 0, 1) := by decide +kernel
theorem dX8_runs_100 : decode cX8_runs 100 = .ok (.getfield 120, 3) := by decide +kernel
theorem dX8_runs_103 : decode cX8_runs 103 = .ok (.iload 6, 2) := by decide +kernel
theorem dX8_runs_105 : decode cX8_runs 105 = .ok (.invokestatic 129, 3) := by decide +kernel
theorem dX8_runs_108 : decode cX8_runs 108 = .ok (.if_icmp .lt 19, 3) := by decide +kernel
theorem dX8_runs_111 : decode cX8_runs 111 = .ok (.iload 6, 2) := by decide +kernel
theorem dX8_runs_113 : decode cX8_runs 113 = .ok (.ifCond .ne 20, 3) := by decide +kernel
theorem dX8_runs_116 : decode cX8_runs 116 = .ok (.iload 5, 2) := by decide +kernel
theorem dX8_runs_118 : decode cX8_runs 118 = .ok (.aload_n 0, 1) := by decide +kernel
theorem dX8_runs_119 : decode cX8_runs 119 = .ok (.getfield 19, 3) := by decide +kernel
theorem dX8_runs_122 : decode cX8_runs 122 = .ok (.iload_n 2, 1) := by decide +kernel
theorem dX8_runs_123 : decode cX8_runs 123 = .ok (.iaload, 1) := by decide +kernel
theorem dX8_runs_124 : decode cX8_runs 124 = .ok (.if_icmp .ne 9, 3) := by decide +kernel
theorem dX8_runs_127 : decode cX8_runs 127 = .ok (.aload_n 0, 1) := by decide +kernel
theorem dX8_runs_128 : decode cX8_runs 128 = .ok (.iconst 4, 1) := by decide +kernel
theorem dX8_runs_129 : decode cX8_runs 129 = .ok (.putfield 117, 3) := by decide +kernel
theorem dX8_runs_132 : decode cX8_runs 132 = .ok (.return_, 1) := by decide +kernel
theorem dX8_runs_133 : decode cX8_runs 133 = .ok (.aload_n 0, 1) := by decide +kernel
theorem dX8_runs_134 : decode cX8_runs 134 = .ok (.getfield 120, 3) := by decide +kernel
theorem dX8_runs_137 : decode cX8_runs 137 = .ok (.ifCond .le 17, 3) := by decide +kernel
theorem dX8_runs_140 : decode cX8_runs 140 = .ok (.aload_n 0, 1) := by decide +kernel
theorem dX8_runs_141 : decode cX8_runs 141 = .ok (.getfield 81, 3) := by decide +kernel
theorem dX8_runs_144 : decode cX8_runs 144 = .ok (.aload_n 0, 1) := by decide +kernel
theorem dX8_runs_145 : decode cX8_runs 145 = .ok (.getfield 120, 3) := by decide +kernel
theorem dX8_runs_148 : decode cX8_runs 148 = .ok (.iconst 1, 1) := by decide +kernel
theorem dX8_runs_149 : decode cX8_runs 149 = .ok (.isub, 1) := by decide +kernel
theorem dX8_runs_150 : decode cX8_runs 150 = .ok (.iaload, 1) := by decide +kernel
theorem dX8_runs_151 : decode cX8_runs 151 = .ok (.goto 4, 3) := by decide +kernel
theorem dX8_runs_154 : decode cX8_runs 154 = .ok (.iconst 0, 1) := by decide +kernel
theorem dX8_runs_155 : decode cX8_runs 155 = .ok (.istore 8, 2) := by decide +kernel
theorem dX8_runs_157 : decode cX8_runs 157 = .ok (.aload_n 0, 1) := by decide +kernel
theorem dX8_runs_158 : decode cX8_runs 158 = .ok (.getfield 120, 3) := by decide +kernel
theorem dX8_runs_161 : decode cX8_runs 161 = .ok (.iconst 1, 1) := by decide +kernel
theorem dX8_runs_162 : decode cX8_runs 162 = .ok (.if_icmp .le 17, 3) := by decide +kernel
theorem dX8_runs_165 : decode cX8_runs 165 = .ok (.aload_n 0, 1) := by decide +kernel
theorem dX8_runs_166 : decode cX8_runs 166 = .ok (.getfield 81, 3) := by decide +kernel
theorem dX8_runs_169 : decode cX8_runs 169 = .ok (.aload_n 0, 1) := by decide +kernel
theorem dX8_runs_170 : decode cX8_runs 170 = .ok (.getfield 120, 3) := by decide +kernel
theorem dX8_runs_173 : decode cX8_runs 173 = .ok (.iconst 2, 1) := by decide +kernel
theorem dX8_runs_174 : decode cX8_runs 174 = .ok (.isub, 1) := by decide +kernel
theorem dX8_runs_175 : decode cX8_runs 175 = .ok (.iaload, 1) := by decide +kernel
theorem dX8_runs_176 : decode cX8_runs 176 = .ok (.goto 4, 3) := by decide +kernel
theorem dX8_runs_179 : decode cX8_runs 179 = .ok (.iconst 0, 1) := by decide +kernel
theorem dX8_runs_180 : decode cX8_runs 180 = .ok (.istore 9, 2) := by decide +kernel
theorem dX8_runs_182 : decode cX8_runs 182 = .ok (.iload 6, 2) := by decide +kernel
theorem dX8_runs_184 : decode cX8_runs 184 = .ok (.tableswitch 244 0 9 #[56, 77, 86, 86, 86, 142, 151, 244, 244, 180], 56) := by decide +kernel
theorem dX8_runs_240 : decode cX8_runs 240 = .ok (.aload_n 0, 1) := by decide +kernel
theorem dX8_runs_241 : decode cX8_runs 241 = .ok (.aload_n 0, 1) := by decide +kernel
theorem dX8_runs_242 : decode cX8_runs 242 = .ok (.getfield 22, 3) := by decide +kernel
theorem dX8_runs_245 : decode cX8_runs 245 = .ok (.iconst 4, 1) := by decide +kernel
theorem dX8_runs_246 : decode cX8_runs 246 = .ok (.iload_n 2, 1) := by decide +kernel
theorem dX8_runs_247 : decode cX8_runs 247 = .ok (.imul, 1) := by decide +kernel
theorem dX8_runs_248 : decode cX8_runs 248 = .ok (.iload 5, 2) := by decide +kernel
theorem dX8_runs_250 : decode cX8_runs 250 = .ok (.iadd, 1) := by decide +kernel
theorem dX8_runs_251 : decode cX8_runs 251 = .ok (.iaload, 1) := by decide +kernel
theorem dX8_runs_252 : decode cX8_runs 252 = .ok (.invokevirtual 133, 3) := by decide +kernel
theorem dX8_runs_255 : decode cX8_runs 255 = .ok (.iinc 5 1, 3) := by decide +kernel
theorem dX8_runs_258 : decode cX8_runs 258 = .ok (.goto 239, 3) := by decide +kernel
theorem dX8_runs_261 : decode cX8_runs 261 = .ok (.aload_n 0, 1) := by decide +kernel
theorem dX8_runs_262 : decode cX8_runs 262 = .ok (.iload 7, 2) := by decide +kernel
theorem dX8_runs_264 : decode cX8_runs 264 = .ok (.invokevirtual 133, 3) := by decide +kernel
theorem dX8_runs_267 : decode cX8_runs 267 = .ok (.goto 230, 3) := by decide +kernel
theorem dX8_runs_270 : decode cX8_runs 270 = .ok (.aload_n 0, 1) := by decide +kernel
theorem dX8_runs_271 : decode cX8_runs 271 = .ok (.dup, 1) := by decide +kernel
theorem dX8_runs_272 : decode cX8_runs 272 = .ok (.getfield 120, 3) := by decide +kernel
theorem dX8_runs_275 : decode cX8_runs 275 = .ok (.iconst 2, 1) := by decide +kernel
theorem dX8_runs_276 : decode cX8_runs 276 = .ok (.isub, 1) := by decide +kernel
theorem dX8_runs_277 : decode cX8_runs 277 = .ok (.putfield 120, 3) := by decide +kernel
theorem dX8_runs_280 : decode cX8_runs 280 = .ok (.aload_n 0, 1) := by decide +kernel
theorem dX8_runs_281 : decode cX8_runs 281 = .ok (.iload 6, 2) := by decide +kernel
theorem dX8_runs_283 : decode cX8_runs 283 = .ok (.iconst 2, 1) := by decide +kernel
theorem dX8_runs_284 : decode cX8_runs 284 = .ok (.if_icmp .ne 13, 3) := by decide +kernel
theorem dX8_runs_287 : decode cX8_runs 287 = .ok (.iload 9, 2) := by decide +kernel
theorem dX8_runs_289 : decode cX8_runs 289 = .ok (.i2l, 1) := by decide +kernel
theorem dX8_runs_290 : decode cX8_runs 290 = .ok (.iload 8, 2) := by decide +kernel
theorem dX8_runs_292 : decode cX8_runs 292 = .ok (.i2l, 1) := by decide +kernel
theorem dX8_runs_293 : decode cX8_runs 293 = .ok (.ladd, 1) := by decide +kernel
theorem dX8_runs_294 : decode cX8_runs 294 = .ok (.goto 26, 3) := by decide +kernel
theorem dX8_runs_297 : decode cX8_runs 297 = .ok (.iload 6, 2) := by decide +kernel
theorem dX8_runs_299 : decode cX8_runs 299 = .ok (.iconst 3, 1) := by decide +kernel
theorem dX8_runs_300 : decode cX8_runs 300 = .ok (.if_icmp .ne 13, 3) := by decide +kernel
theorem dX8_runs_303 : decode cX8_runs 303 = .ok (.iload 9, 2) := by decide +kernel
theorem dX8_runs_305 : decode cX8_runs 305 = .ok (.i2l, 1) := by decide +kernel
theorem dX8_runs_306 : decode cX8_runs 306 = .ok (.iload 8, 2) := by decide +kernel
theorem dX8_runs_308 : decode cX8_runs 308 = .ok (.i2l, 1) := by decide +kernel
theorem dX8_runs_309 : decode cX8_runs 309 = .ok (.lsub, 1) := by decide +kernel
theorem dX8_runs_310 : decode cX8_runs 310 = .ok (.goto 10, 3) := by decide +kernel
theorem dX8_runs_313 : decode cX8_runs 313 = .ok (.iload 9, 2) := by decide +kernel
theorem dX8_runs_315 : decode cX8_runs 315 = .ok (.i2l, 1) := by decide +kernel
theorem dX8_runs_316 : decode cX8_runs 316 = .ok (.iload 8, 2) := by decide +kernel
theorem dX8_runs_318 : decode cX8_runs 318 = .ok (.i2l, 1) := by decide +kernel
theorem dX8_runs_319 : decode cX8_runs 319 = .ok (.lmul, 1) := by decide +kernel
theorem dX8_runs_320 : decode cX8_runs 320 = .ok (.invokevirtual 137, 3) := by decide +kernel
theorem dX8_runs_323 : decode cX8_runs 323 = .ok (.goto 174, 3) := by decide +kernel
theorem dX8_runs_326 : decode cX8_runs 326 = .ok (.aload_n 0, 1) := by decide +kernel
theorem dX8_runs_327 : decode cX8_runs 327 = .ok (.iload 8, 2) := by decide +kernel
theorem dX8_runs_329 : decode cX8_runs 329 = .ok (.invokevirtual 133, 3) := by decide +kernel
theorem dX8_runs_332 : decode cX8_runs 332 = .ok (.goto 165, 3) := by decide +kernel
theorem dX8_runs_335 : decode cX8_runs 335 = .ok (.aload_n 0, 1) := by decide +kernel
theorem dX8_runs_336 : decode cX8_runs 336 = .ok (.getfield 81, 3) := by decide +kernel
theorem dX8_runs_339 : decode cX8_runs 339 = .ok (.aload_n 0, 1) := by decide +kernel
theorem dX8_runs_340 : decode cX8_runs 340 = .ok (.getfield 120, 3) := by decide +kernel
theorem dX8_runs_343 : decode cX8_runs 343 = .ok (.iconst 1, 1) := by decide +kernel
theorem dX8_runs_344 : decode cX8_runs 344 = .ok (.isub, 1) := by decide +kernel
theorem dX8_runs_345 : decode cX8_runs 345 = .ok (.iload 9, 2) := by decide +kernel
theorem dX8_runs_347 : decode cX8_runs 347 = .ok (.iastore, 1) := by decide +kernel
theorem dX8_runs_348 : decode cX8_runs 348 = .ok (.aload_n 0, 1) := by decide +kernel
theorem dX8_runs_349 : decode cX8_runs 349 = .ok (.getfield 81, 3) := by decide +kernel
theorem dX8_runs_352 : decode cX8_runs 352 = .ok (.aload_n 0, 1) := by decide +kernel
theorem dX8_runs_353 : decode cX8_runs 353 = .ok (.getfield 120, 3) := by decide +kernel
theorem dX8_runs_356 : decode cX8_runs 356 = .ok (.iconst 2, 1) := by decide +kernel
theorem dX8_runs_357 : decode cX8_runs 357 = .ok (.isub, 1) := by decide +kernel
theorem dX8_runs_358 : decode cX8_runs 358 = .ok (.iload 8, 2) := by decide +kernel
theorem dX8_runs_360 : decode cX8_runs 360 = .ok (.iastore, 1) := by decide +kernel
theorem dX8_runs_361 : decode cX8_runs 361 = .ok (.goto 136, 3) := by decide +kernel
theorem dX8_runs_364 : decode cX8_runs 364 = .ok (.aload_n 0, 1) := by decide +kernel
theorem dX8_runs_365 : decode cX8_runs 365 = .ok (.dup, 1) := by decide +kernel
theorem dX8_runs_366 : decode cX8_runs 366 = .ok (.getfield 120, 3) := by decide +kernel
theorem dX8_runs_369 : decode cX8_runs 369 = .ok (.iconst 1, 1) := by decide +kernel
theorem dX8_runs_370 : decode cX8_runs 370 = .ok (.isub, 1) := by decide +kernel
theorem dX8_runs_371 : decode cX8_runs 371 = .ok (.putfield 120, 3) := by decide +kernel
theorem dX8_runs_374 : decode cX8_runs 374 = .ok (.aload_n 0, 1) := by decide +kernel
theorem dX8_runs_375 : decode cX8_runs 375 = .ok (.aload_n 0, 1) := by decide +kernel
theorem dX8_runs_376 : decode cX8_runs 376 = .ok (.getfield 126, 3) := by decide +kernel
theorem dX8_runs_379 : decode cX8_runs 379 = .ok (.bipush 8, 2) := by decide +kernel
theorem dX8_runs_381 : decode cX8_runs 381 = .ok (.if_icmp .ne 7, 3) := by decide +kernel
theorem dX8_runs_384 : decode cX8_runs 384 = .ok (.iconst 3, 1) := by decide +kernel
theorem dX8_runs_385 : decode cX8_runs 385 = .ok (.goto 7, 3) := by decide +kernel
theorem dX8_runs_388 : decode cX8_runs 388 = .ok (.aload_n 0, 1) := by decide +kernel
theorem dX8_runs_389 : decode cX8_runs 389 = .ok (.getfield 117, 3) := by decide +kernel
theorem dX8_runs_392 : decode cX8_runs 392 = .ok (.putfield 117, 3) := by decide +kernel
theorem dX8_runs_395 : decode cX8_runs 395 = .ok (.aload_n 0, 1) := by decide +kernel
theorem dX8_runs_396 : decode cX8_runs 396 = .ok (.getfield 126, 3) := by decide +kernel
theorem dX8_runs_399 : decode cX8_runs 399 = .ok (.bipush 8, 2) := by decide +kernel
theorem dX8_runs_401 : decode cX8_runs 401 = .ok (.if_icmp .ge 96, 3) := by decide +kernel
theorem dX8_runs_404 : decode cX8_runs 404 = .ok (.aload_n 0, 1) := by decide +kernel
theorem dX8_runs_405 : decode cX8_runs 405 = .ok (.getfield 78, 3) := by decide +kernel
theorem dX8_runs_408 : decode cX8_runs 408 = .ok (.aload_n 0, 1) := by decide +kernel
theorem dX8_runs_409 : decode cX8_runs 409 = .ok (.getfield 126, 3) := by decide +kernel
theorem dX8_runs_412 : decode cX8_runs 412 = .ok (.iload 8, 2) := by decide +kernel
theorem dX8_runs_414 : decode cX8_runs 414 = .ok (.iastore, 1) := by decide +kernel
theorem dX8_runs_415 : decode cX8_runs 415 = .ok (.aload_n 0, 1) := by decide +kernel
theorem dX8_runs_416 : decode cX8_runs 416 = .ok (.dup, 1) := by decide +kernel
theorem dX8_runs_417 : decode cX8_runs 417 = .ok (.getfield 126, 3) := by decide +kernel
theorem dX8_runs_420 : decode cX8_runs 420 = .ok (.iconst 1, 1) := by decide +kernel
theorem dX8_runs_421 : decode cX8_runs 421 = .ok (.iadd, 1) := by decide +kernel
theorem dX8_runs_422 : decode cX8_runs 422 = .ok (.putfield 126, 3) := by decide +kernel
theorem dX8_runs_425 : decode cX8_runs 425 = .ok (.goto 72, 3) := by decide +kernel
theorem dX8_runs_428 : decode cX8_runs 428 = .ok (.aload_n 0, 1) := by decide +kernel
theorem dX8_runs_429 : decode cX8_runs 429 = .ok (.dup, 1) := by decide +kernel
theorem dX8_runs_430 : decode cX8_runs 430 = .ok (.getfield 120, 3) := by decide +kernel
theorem dX8_runs_433 : decode cX8_runs 433 = .ok (.iload 6, 2) := by decide +kernel
theorem dX8_runs_435 : decode cX8_runs 435 = .ok (.bipush 7, 2) := by decide +kernel
theorem dX8_runs_437 : decode cX8_runs 437 = .ok (.if_icmp .ne 7, 3) := by decide +kernel
theorem dX8_runs_440 : decode cX8_runs 440 = .ok (.iconst 1, 1) := by decide +kernel
theorem dX8_runs_441 : decode cX8_runs 441 = .ok (.goto 4, 3) := by decide +kernel
theorem dX8_runs_444 : decode cX8_runs 444 = .ok (.iconst 0, 1) := by decide +kernel
theorem dX8_runs_445 : decode cX8_runs 445 = .ok (.isub, 1) := by decide +kernel
theorem dX8_runs_446 : decode cX8_runs 446 = .ok (.putfield 120, 3) := by decide +kernel
theorem dX8_runs_449 : decode cX8_runs 449 = .ok (.iload 6, 2) := by decide +kernel
theorem dX8_runs_451 : decode cX8_runs 451 = .ok (.bipush 8, 2) := by decide +kernel
theorem dX8_runs_453 : decode cX8_runs 453 = .ok (.if_icmp .eq 8, 3) := by decide +kernel
theorem dX8_runs_456 : decode cX8_runs 456 = .ok (.iload 8, 2) := by decide +kernel
theorem dX8_runs_458 : decode cX8_runs 458 = .ok (.ifCond .ne 8, 3) := by decide +kernel
theorem dX8_runs_461 : decode cX8_runs 461 = .ok (.iload 7, 2) := by decide +kernel
theorem dX8_runs_463 : decode cX8_runs 463 = .ok (.goto 5, 3) := by decide +kernel
theorem dX8_runs_466 : decode cX8_runs 466 = .ok (.iload 4, 2) := by decide +kernel
theorem dX8_runs_468 : decode cX8_runs 468 = .ok (.istore 4, 2) := by decide +kernel
theorem dX8_runs_470 : decode cX8_runs 470 = .ok (.aload_n 0, 1) := by decide +kernel
theorem dX8_runs_471 : decode cX8_runs 471 = .ok (.iload 4, 2) := by decide +kernel
theorem dX8_runs_473 : decode cX8_runs 473 = .ok (.iconst 0, 1) := by decide +kernel
theorem dX8_runs_474 : decode cX8_runs 474 = .ok (.aload_n 0, 1) := by decide +kernel
theorem dX8_runs_475 : decode cX8_runs 475 = .ok (.getfield 7, 3) := by decide +kernel
theorem dX8_runs_478 : decode cX8_runs 478 = .ok (.iload_n 1, 1) := by decide +kernel
theorem dX8_runs_479 : decode cX8_runs 479 = .ok (.iaload, 1) := by decide +kernel
theorem dX8_runs_480 : decode cX8_runs 480 = .ok (.invokestatic 108, 3) := by decide +kernel
theorem dX8_runs_483 : decode cX8_runs 483 = .ok (.ifCond .eq 10, 3) := by decide +kernel
theorem dX8_runs_486 : decode cX8_runs 486 = .ok (.aload_n 0, 1) := by decide +kernel
theorem dX8_runs_487 : decode cX8_runs 487 = .ok (.getfield 117, 3) := by decide +kernel
theorem dX8_runs_490 : decode cX8_runs 490 = .ok (.goto 4, 3) := by decide +kernel
theorem dX8_runs_493 : decode cX8_runs 493 = .ok (.iconst 4, 1) := by decide +kernel
theorem dX8_runs_494 : decode cX8_runs 494 = .ok (.putfield 117, 3) := by decide +kernel
theorem dX8_runs_497 : decode cX8_runs 497 = .ok (.goto (-471), 3) := by decide +kernel
theorem dX8_runs_500 : decode cX8_runs 500 = .ok (.return_, 1) := by decide +kernel
theorem dX8_makes_0 : decode cX8_makes 0 = .ok (.lload_n 1, 1) := by decide +kernel
theorem dX8_makes_1 : decode cX8_makes 1 = .ok (.ldc2_w 141, 3) := by decide +kernel
theorem dX8_makes_4 : decode cX8_makes 4 = .ok (.lcmp, 1) := by decide +kernel
theorem dX8_makes_5 : decode cX8_makes 5 = .ok (.ifCond .gt 11, 3) := by decide +kernel
theorem dX8_makes_8 : decode cX8_makes 8 = .ok (.lload_n 1, 1) := by decide +kernel
theorem dX8_makes_9 : decode cX8_makes 9 = .ok (.ldc2_w 143, 3) := by decide +kernel
theorem dX8_makes_12 : decode cX8_makes 12 = .ok (.lcmp, 1) := by decide +kernel
theorem dX8_makes_13 : decode cX8_makes 13 = .ok (.ifCond .ge 11, 3) := by decide +kernel
theorem dX8_makes_16 : decode cX8_makes 16 = .ok (.aload_n 0, 1) := by decide +kernel
theorem dX8_makes_17 : decode cX8_makes 17 = .ok (.iconst 4, 1) := by decide +kernel
theorem dX8_makes_18 : decode cX8_makes 18 = .ok (.putfield 117, 3) := by decide +kernel
theorem dX8_makes_21 : decode cX8_makes 21 = .ok (.goto 9, 3) := by decide +kernel
theorem dX8_makes_24 : decode cX8_makes 24 = .ok (.aload_n 0, 1) := by decide +kernel
theorem dX8_makes_25 : decode cX8_makes 25 = .ok (.lload_n 1, 1) := by decide +kernel
theorem dX8_makes_26 : decode cX8_makes 26 = .ok (.l2i, 1) := by decide +kernel
theorem dX8_makes_27 : decode cX8_makes 27 = .ok (.invokevirtual 133, 3) := by decide +kernel
theorem dX8_makes_30 : decode cX8_makes 30 = .ok (.return_, 1) := by decide +kernel
theorem dX8_empties_0 : decode cX8_empties 0 = .ok (.aload_n 0, 1) := by decide +kernel
theorem dX8_empties_1 : decode cX8_empties 1 = .ok (.getfield 7, 3) := by decide +kernel
theorem dX8_empties_4 : decode cX8_empties 4 = .ok (.iload_n 1, 1) := by decide +kernel
theorem dX8_empties_5 : decode cX8_empties 5 = .ok (.iconst 0, 1) := by decide +kernel
theorem dX8_empties_6 : decode cX8_empties 6 = .ok (.iastore, 1) := by decide +kernel
theorem dX8_empties_7 : decode cX8_empties 7 = .ok (.return_, 1) := by decide +kernel
theorem dX8_copies_0 : decode cX8_copies 0 = .ok (.iconst 0, 1) := by decide +kernel
theorem dX8_copies_1 : decode cX8_copies 1 = .ok (.istore_n 3, 1) := by decide +kernel
theorem dX8_copies_2 : decode cX8_copies 2 = .ok (.iload_n 3, 1) := by decide +kernel
theorem dX8_copies_3 : decode cX8_copies 3 = .ok (.aload_n 0, 1) := by decide +kernel
theorem dX8_copies_4 : decode cX8_copies 4 = .ok (.getfield 7, 3) := by decide +kernel
theorem dX8_copies_7 : decode cX8_copies 7 = .ok (.iload_n 1, 1) := by decide +kernel
theorem dX8_copies_8 : decode cX8_copies 8 = .ok (.iaload, 1) := by decide +kernel
theorem dX8_copies_9 : decode cX8_copies 9 = .ok (.if_icmp .ge 53, 3) := by decide +kernel
theorem dX8_copies_12 : decode cX8_copies 12 = .ok (.aload_n 0, 1) := by decide +kernel
theorem dX8_copies_13 : decode cX8_copies 13 = .ok (.getfield 13, 3) := by decide +kernel
theorem dX8_copies_16 : decode cX8_copies 16 = .ok (.bipush 16, 2) := by decide +kernel
theorem dX8_copies_18 : decode cX8_copies 18 = .ok (.iload_n 2, 1) := by decide +kernel
theorem dX8_copies_19 : decode cX8_copies 19 = .ok (.imul, 1) := by decide +kernel
theorem dX8_copies_20 : decode cX8_copies 20 = .ok (.iload_n 3, 1) := by decide +kernel
theorem dX8_copies_21 : decode cX8_copies 21 = .ok (.iadd, 1) := by decide +kernel
theorem dX8_copies_22 : decode cX8_copies 22 = .ok (.aload_n 0, 1) := by decide +kernel
theorem dX8_copies_23 : decode cX8_copies 23 = .ok (.getfield 13, 3) := by decide +kernel
theorem dX8_copies_26 : decode cX8_copies 26 = .ok (.bipush 16, 2) := by decide +kernel
theorem dX8_copies_28 : decode cX8_copies 28 = .ok (.iload_n 1, 1) := by decide +kernel
theorem dX8_copies_29 : decode cX8_copies 29 = .ok (.imul, 1) := by decide +kernel
theorem dX8_copies_30 : decode cX8_copies 30 = .ok (.iload_n 3, 1) := by decide +kernel
theorem dX8_copies_31 : decode cX8_copies 31 = .ok (.iadd, 1) := by decide +kernel
theorem dX8_copies_32 : decode cX8_copies 32 = .ok (.iaload, 1) := by decide +kernel
theorem dX8_copies_33 : decode cX8_copies 33 = .ok (.iastore, 1) := by decide +kernel
theorem dX8_copies_34 : decode cX8_copies 34 = .ok (.aload_n 0, 1) := by decide +kernel
theorem dX8_copies_35 : decode cX8_copies 35 = .ok (.getfield 16, 3) := by decide +kernel
theorem dX8_copies_38 : decode cX8_copies 38 = .ok (.bipush 16, 2) := by decide +kernel
theorem dX8_copies_40 : decode cX8_copies 40 = .ok (.iload_n 2, 1) := by decide +kernel
theorem dX8_copies_41 : decode cX8_copies 41 = .ok (.imul, 1) := by decide +kernel
theorem dX8_copies_42 : decode cX8_copies 42 = .ok (.iload_n 3, 1) := by decide +kernel
theorem dX8_copies_43 : decode cX8_copies 43 = .ok (.iadd, 1) := by decide +kernel
theorem dX8_copies_44 : decode cX8_copies 44 = .ok (.aload_n 0, 1) := by decide +kernel
theorem dX8_copies_45 : decode cX8_copies 45 = .ok (.getfield 16, 3) := by decide +kernel
theorem dX8_copies_48 : decode cX8_copies 48 = .ok (.bipush 16, 2) := by decide +kernel
theorem dX8_copies_50 : decode cX8_copies 50 = .ok (.iload_n 1, 1) := by decide +kernel
theorem dX8_copies_51 : decode cX8_copies 51 = .ok (.imul, 1) := by decide +kernel
theorem dX8_copies_52 : decode cX8_copies 52 = .ok (.iload_n 3, 1) := by decide +kernel
theorem dX8_copies_53 : decode cX8_copies 53 = .ok (.iadd, 1) := by decide +kernel
theorem dX8_copies_54 : decode cX8_copies 54 = .ok (.iaload, 1) := by decide +kernel
theorem dX8_copies_55 : decode cX8_copies 55 = .ok (.iastore, 1) := by decide +kernel
theorem dX8_copies_56 : decode cX8_copies 56 = .ok (.iinc 3 1, 3) := by decide +kernel
theorem dX8_copies_59 : decode cX8_copies 59 = .ok (.goto (-57), 3) := by decide +kernel
theorem dX8_copies_62 : decode cX8_copies 62 = .ok (.aload_n 0, 1) := by decide +kernel
theorem dX8_copies_63 : decode cX8_copies 63 = .ok (.getfield 7, 3) := by decide +kernel
theorem dX8_copies_66 : decode cX8_copies 66 = .ok (.iload_n 2, 1) := by decide +kernel
theorem dX8_copies_67 : decode cX8_copies 67 = .ok (.aload_n 0, 1) := by decide +kernel
theorem dX8_copies_68 : decode cX8_copies 68 = .ok (.getfield 7, 3) := by decide +kernel
theorem dX8_copies_71 : decode cX8_copies 71 = .ok (.iload_n 1, 1) := by decide +kernel
theorem dX8_copies_72 : decode cX8_copies 72 = .ok (.iaload, 1) := by decide +kernel
theorem dX8_copies_73 : decode cX8_copies 73 = .ok (.iastore, 1) := by decide +kernel
theorem dX8_copies_74 : decode cX8_copies 74 = .ok (.return_, 1) := by decide +kernel
theorem dX8_code_0 : decode cX8_code 0 = .ok (.aload_n 0, 1) := by decide +kernel
theorem dX8_code_1 : decode cX8_code 1 = .ok (.iload_n 1, 1) := by decide +kernel
theorem dX8_code_2 : decode cX8_code 2 = .ok (.iconst 0, 1) := by decide +kernel
theorem dX8_code_3 : decode cX8_code 3 = .ok (.bipush 9, 2) := by decide +kernel
theorem dX8_code_5 : decode cX8_code 5 = .ok (.invokestatic 108, 3) := by decide +kernel
theorem dX8_code_8 : decode cX8_code 8 = .ok (.ifCond .eq 14, 3) := by decide +kernel
theorem dX8_code_11 : decode cX8_code 11 = .ok (.iload_n 2, 1) := by decide +kernel
theorem dX8_code_12 : decode cX8_code 12 = .ok (.bipush (-99), 2) := by decide +kernel
theorem dX8_code_14 : decode cX8_code 14 = .ok (.bipush 99, 2) := by decide +kernel
theorem dX8_code_16 : decode cX8_code 16 = .ok (.invokestatic 108, 3) := by decide +kernel
theorem dX8_code_19 : decode cX8_code 19 = .ok (.ifCond .ne 7, 3) := by decide +kernel
theorem dX8_code_22 : decode cX8_code 22 = .ok (.iconst 1, 1) := by decide +kernel
theorem dX8_code_23 : decode cX8_code 23 = .ok (.goto 19, 3) := by decide +kernel
theorem dX8_code_26 : decode cX8_code 26 = .ok (.aload_n 0, 1) := by decide +kernel
theorem dX8_code_27 : decode cX8_code 27 = .ok (.getfield 7, 3) := by decide +kernel
theorem dX8_code_30 : decode cX8_code 30 = .ok (.iconst 0, 1) := by decide +kernel
theorem dX8_code_31 : decode cX8_code 31 = .ok (.iaload, 1) := by decide +kernel
theorem dX8_code_32 : decode cX8_code 32 = .ok (.bipush 16, 2) := by decide +kernel
theorem dX8_code_34 : decode cX8_code 34 = .ok (.if_icmp .ne 7, 3) := by decide +kernel
theorem dX8_code_37 : decode cX8_code 37 = .ok (.iconst 2, 1) := by decide +kernel
theorem dX8_code_38 : decode cX8_code 38 = .ok (.goto 4, 3) := by decide +kernel
theorem dX8_code_41 : decode cX8_code 41 = .ok (.iconst 0, 1) := by decide +kernel
theorem dX8_code_42 : decode cX8_code 42 = .ok (.putfield 102, 3) := by decide +kernel
theorem dX8_code_45 : decode cX8_code 45 = .ok (.aload_n 0, 1) := by decide +kernel
theorem dX8_code_46 : decode cX8_code 46 = .ok (.getfield 102, 3) := by decide +kernel
theorem dX8_code_49 : decode cX8_code 49 = .ok (.ifCond .le 5, 3) := by decide +kernel
theorem dX8_code_52 : decode cX8_code 52 = .ok (.iconst 0, 1) := by decide +kernel
theorem dX8_code_53 : decode cX8_code 53 = .ok (.ireturn, 1) := by decide +kernel
theorem dX8_code_54 : decode cX8_code 54 = .ok (.aload_n 0, 1) := by decide +kernel
theorem dX8_code_55 : decode cX8_code 55 = .ok (.getfield 13, 3) := by decide +kernel
theorem dX8_code_58 : decode cX8_code 58 = .ok (.aload_n 0, 1) := by decide +kernel
theorem dX8_code_59 : decode cX8_code 59 = .ok (.getfield 7, 3) := by decide +kernel
theorem dX8_code_62 : decode cX8_code 62 = .ok (.iconst 0, 1) := by decide +kernel
theorem dX8_code_63 : decode cX8_code 63 = .ok (.iaload, 1) := by decide +kernel
theorem dX8_code_64 : decode cX8_code 64 = .ok (.iload_n 1, 1) := by decide +kernel
theorem dX8_code_65 : decode cX8_code 65 = .ok (.iastore, 1) := by decide +kernel
theorem dX8_code_66 : decode cX8_code 66 = .ok (.aload_n 0, 1) := by decide +kernel
theorem dX8_code_67 : decode cX8_code 67 = .ok (.getfield 16, 3) := by decide +kernel
theorem dX8_code_70 : decode cX8_code 70 = .ok (.aload_n 0, 1) := by decide +kernel
theorem dX8_code_71 : decode cX8_code 71 = .ok (.getfield 7, 3) := by decide +kernel
theorem dX8_code_74 : decode cX8_code 74 = .ok (.iconst 0, 1) := by decide +kernel
theorem dX8_code_75 : decode cX8_code 75 = .ok (.iaload, 1) := by decide +kernel
theorem dX8_code_76 : decode cX8_code 76 = .ok (.iload_n 2, 1) := by decide +kernel
theorem dX8_code_77 : decode cX8_code 77 = .ok (.iastore, 1) := by decide +kernel
theorem dX8_code_78 : decode cX8_code 78 = .ok (.aload_n 0, 1) := by decide +kernel
theorem dX8_code_79 : decode cX8_code 79 = .ok (.getfield 7, 3) := by decide +kernel
theorem dX8_code_82 : decode cX8_code 82 = .ok (.iconst 0, 1) := by decide +kernel
theorem dX8_code_83 : decode cX8_code 83 = .ok (.dup2, 1) := by decide +kernel
theorem dX8_code_84 : decode cX8_code 84 = .ok (.iaload, 1) := by decide +kernel
theorem dX8_code_85 : decode cX8_code 85 = .ok (.iconst 1, 1) := by decide +kernel
theorem dX8_code_86 : decode cX8_code 86 = .ok (.iadd, 1) := by decide +kernel
theorem dX8_code_87 : decode cX8_code 87 = .ok (.iastore, 1) := by decide +kernel
theorem dX8_code_88 : decode cX8_code 88 = .ok (.aload_n 0, 1) := by decide +kernel
theorem dX8_code_89 : decode cX8_code 89 = .ok (.getfield 7, 3) := by decide +kernel
theorem dX8_code_92 : decode cX8_code 92 = .ok (.iconst 0, 1) := by decide +kernel
theorem dX8_code_93 : decode cX8_code 93 = .ok (.iaload, 1) := by decide +kernel
theorem dX8_code_94 : decode cX8_code 94 = .ok (.ireturn, 1) := by decide +kernel
theorem dX8_input_0 : decode cX8_input 0 = .ok (.aload_n 0, 1) := by decide +kernel
theorem dX8_input_1 : decode cX8_input 1 = .ok (.iload_n 1, 1) := by decide +kernel
theorem dX8_input_2 : decode cX8_input 2 = .ok (.bipush (-9), 2) := by decide +kernel
theorem dX8_input_4 : decode cX8_input 4 = .ok (.bipush 9, 2) := by decide +kernel
theorem dX8_input_6 : decode cX8_input 6 = .ok (.invokestatic 108, 3) := by decide +kernel
theorem dX8_input_9 : decode cX8_input 9 = .ok (.ifCond .ne 7, 3) := by decide +kernel
theorem dX8_input_12 : decode cX8_input 12 = .ok (.iconst 1, 1) := by decide +kernel
theorem dX8_input_13 : decode cX8_input 13 = .ok (.goto 19, 3) := by decide +kernel
theorem dX8_input_16 : decode cX8_input 16 = .ok (.aload_n 0, 1) := by decide +kernel
theorem dX8_input_17 : decode cX8_input 17 = .ok (.getfield 19, 3) := by decide +kernel
theorem dX8_input_20 : decode cX8_input 20 = .ok (.bipush 72, 2) := by decide +kernel
theorem dX8_input_22 : decode cX8_input 22 = .ok (.iaload, 1) := by decide +kernel
theorem dX8_input_23 : decode cX8_input 23 = .ok (.iconst 4, 1) := by decide +kernel
theorem dX8_input_24 : decode cX8_input 24 = .ok (.if_icmp .ne 7, 3) := by decide +kernel
theorem dX8_input_27 : decode cX8_input 27 = .ok (.iconst 2, 1) := by decide +kernel
theorem dX8_input_28 : decode cX8_input 28 = .ok (.goto 4, 3) := by decide +kernel
theorem dX8_input_31 : decode cX8_input 31 = .ok (.iconst 0, 1) := by decide +kernel
theorem dX8_input_32 : decode cX8_input 32 = .ok (.putfield 102, 3) := by decide +kernel
theorem dX8_input_35 : decode cX8_input 35 = .ok (.aload_n 0, 1) := by decide +kernel
theorem dX8_input_36 : decode cX8_input 36 = .ok (.getfield 102, 3) := by decide +kernel
theorem dX8_input_39 : decode cX8_input 39 = .ok (.ifCond .le 5, 3) := by decide +kernel
theorem dX8_input_42 : decode cX8_input 42 = .ok (.iconst 0, 1) := by decide +kernel
theorem dX8_input_43 : decode cX8_input 43 = .ok (.ireturn, 1) := by decide +kernel
theorem dX8_input_44 : decode cX8_input 44 = .ok (.aload_n 0, 1) := by decide +kernel
theorem dX8_input_45 : decode cX8_input 45 = .ok (.getfield 22, 3) := by decide +kernel
theorem dX8_input_48 : decode cX8_input 48 = .ok (.sipush 288, 3) := by decide +kernel
theorem dX8_input_51 : decode cX8_input 51 = .ok (.aload_n 0, 1) := by decide +kernel
theorem dX8_input_52 : decode cX8_input 52 = .ok (.getfield 19, 3) := by decide +kernel
theorem dX8_input_55 : decode cX8_input 55 = .ok (.bipush 72, 2) := by decide +kernel
theorem dX8_input_57 : decode cX8_input 57 = .ok (.iaload, 1) := by decide +kernel
theorem dX8_input_58 : decode cX8_input 58 = .ok (.iadd, 1) := by decide +kernel
theorem dX8_input_59 : decode cX8_input 59 = .ok (.iload_n 1, 1) := by decide +kernel
theorem dX8_input_60 : decode cX8_input 60 = .ok (.iastore, 1) := by decide +kernel
theorem dX8_input_61 : decode cX8_input 61 = .ok (.aload_n 0, 1) := by decide +kernel
theorem dX8_input_62 : decode cX8_input 62 = .ok (.getfield 19, 3) := by decide +kernel
theorem dX8_input_65 : decode cX8_input 65 = .ok (.bipush 72, 2) := by decide +kernel
theorem dX8_input_67 : decode cX8_input 67 = .ok (.dup2, 1) := by decide +kernel
theorem dX8_input_68 : decode cX8_input 68 = .ok (.iaload, 1) := by decide +kernel
theorem dX8_input_69 : decode cX8_input 69 = .ok (.iconst 1, 1) := by decide +kernel
theorem dX8_input_70 : decode cX8_input 70 = .ok (.iadd, 1) := by decide +kernel
theorem dX8_input_71 : decode cX8_input 71 = .ok (.iastore, 1) := by decide +kernel
theorem dX8_input_72 : decode cX8_input 72 = .ok (.aload_n 0, 1) := by decide +kernel
theorem dX8_input_73 : decode cX8_input 73 = .ok (.getfield 19, 3) := by decide +kernel
theorem dX8_input_76 : decode cX8_input 76 = .ok (.bipush 72, 2) := by decide +kernel
theorem dX8_input_78 : decode cX8_input 78 = .ok (.iaload, 1) := by decide +kernel
theorem dX8_input_79 : decode cX8_input 79 = .ok (.ireturn, 1) := by decide +kernel
theorem dX8_clear_0 : decode cX8_clear 0 = .ok (.aload_n 0, 1) := by decide +kernel
theorem dX8_clear_1 : decode cX8_clear 1 = .ok (.iconst 0, 1) := by decide +kernel
theorem dX8_clear_2 : decode cX8_clear 2 = .ok (.putfield 102, 3) := by decide +kernel
theorem dX8_clear_5 : decode cX8_clear 5 = .ok (.aload_n 0, 1) := by decide +kernel
theorem dX8_clear_6 : decode cX8_clear 6 = .ok (.getfield 7, 3) := by decide +kernel
theorem dX8_clear_9 : decode cX8_clear 9 = .ok (.iconst 0, 1) := by decide +kernel
theorem dX8_clear_10 : decode cX8_clear 10 = .ok (.iaload, 1) := by decide +kernel
theorem dX8_clear_11 : decode cX8_clear 11 = .ok (.istore_n 1, 1) := by decide +kernel
theorem dX8_clear_12 : decode cX8_clear 12 = .ok (.aload_n 0, 1) := by decide +kernel
theorem dX8_clear_13 : decode cX8_clear 13 = .ok (.iconst 0, 1) := by decide +kernel
theorem dX8_clear_14 : decode cX8_clear 14 = .ok (.invokevirtual 145, 3) := by decide +kernel
theorem dX8_clear_17 : decode cX8_clear 17 = .ok (.aload_n 0, 1) := by decide +kernel
theorem dX8_clear_18 : decode cX8_clear 18 = .ok (.getfield 19, 3) := by decide +kernel
theorem dX8_clear_21 : decode cX8_clear 21 = .ok (.bipush 72, 2) := by decide +kernel
theorem dX8_clear_23 : decode cX8_clear 23 = .ok (.iconst 0, 1) := by decide +kernel
theorem dX8_clear_24 : decode cX8_clear 24 = .ok (.iastore, 1) := by decide +kernel
theorem dX8_clear_25 : decode cX8_clear 25 = .ok (.iload_n 1, 1) := by decide +kernel
theorem dX8_clear_26 : decode cX8_clear 26 = .ok (.ireturn, 1) := by decide +kernel
theorem dX8_run_0 : decode cX8_run 0 = .ok (.aload_n 0, 1) := by decide +kernel
theorem dX8_run_1 : decode cX8_run 1 = .ok (.iload_n 1, 1) := by decide +kernel
theorem dX8_run_2 : decode cX8_run 2 = .ok (.iconst 1, 1) := by decide +kernel
theorem dX8_run_3 : decode cX8_run 3 = .ok (.sipush 500, 3) := by decide +kernel
theorem dX8_run_6 : decode cX8_run 6 = .ok (.invokestatic 108, 3) := by decide +kernel
theorem dX8_run_9 : decode cX8_run 9 = .ok (.ifCond .eq 17, 3) := by decide +kernel
theorem dX8_run_12 : decode cX8_run 12 = .ok (.iload_n 2, 1) := by decide +kernel
theorem dX8_run_13 : decode cX8_run 13 = .ok (.iconst 0, 1) := by decide +kernel
theorem dX8_run_14 : decode cX8_run 14 = .ok (.bipush 10, 2) := by decide +kernel
theorem dX8_run_16 : decode cX8_run 16 = .ok (.invokestatic 108, 3) := by decide +kernel
theorem dX8_run_19 : decode cX8_run 19 = .ok (.ifCond .eq 7, 3) := by decide +kernel
theorem dX8_run_22 : decode cX8_run 22 = .ok (.iconst 0, 1) := by decide +kernel
theorem dX8_run_23 : decode cX8_run 23 = .ok (.goto 4, 3) := by decide +kernel
theorem dX8_run_26 : decode cX8_run 26 = .ok (.iconst 1, 1) := by decide +kernel
theorem dX8_run_27 : decode cX8_run 27 = .ok (.putfield 102, 3) := by decide +kernel
theorem dX8_run_30 : decode cX8_run 30 = .ok (.aload_n 0, 1) := by decide +kernel
theorem dX8_run_31 : decode cX8_run 31 = .ok (.getfield 102, 3) := by decide +kernel
theorem dX8_run_34 : decode cX8_run 34 = .ok (.ifCond .le 5, 3) := by decide +kernel
theorem dX8_run_37 : decode cX8_run 37 = .ok (.iconst 0, 1) := by decide +kernel
theorem dX8_run_38 : decode cX8_run 38 = .ok (.ireturn, 1) := by decide +kernel
theorem dX8_run_39 : decode cX8_run 39 = .ok (.aload_n 0, 1) := by decide +kernel
theorem dX8_run_40 : decode cX8_run 40 = .ok (.iconst 0, 1) := by decide +kernel
theorem dX8_run_41 : decode cX8_run 41 = .ok (.bipush 72, 2) := by decide +kernel
theorem dX8_run_43 : decode cX8_run 43 = .ok (.iload_n 1, 1) := by decide +kernel
theorem dX8_run_44 : decode cX8_run 44 = .ok (.invokevirtual 148, 3) := by decide +kernel
theorem dX8_run_47 : decode cX8_run 47 = .ok (.iload_n 2, 1) := by decide +kernel
theorem dX8_run_48 : decode cX8_run 48 = .ok (.ifCond .ne 10, 3) := by decide +kernel
theorem dX8_run_51 : decode cX8_run 51 = .ok (.aload_n 0, 1) := by decide +kernel
theorem dX8_run_52 : decode cX8_run 52 = .ok (.getfield 117, 3) := by decide +kernel
theorem dX8_run_55 : decode cX8_run 55 = .ok (.goto 49, 3) := by decide +kernel
theorem dX8_run_58 : decode cX8_run 58 = .ok (.iload_n 2, 1) := by decide +kernel
theorem dX8_run_59 : decode cX8_run 59 = .ok (.iconst 1, 1) := by decide +kernel
theorem dX8_run_60 : decode cX8_run 60 = .ok (.if_icmp .ne 10, 3) := by decide +kernel
theorem dX8_run_63 : decode cX8_run 63 = .ok (.aload_n 0, 1) := by decide +kernel
theorem dX8_run_64 : decode cX8_run 64 = .ok (.getfield 123, 3) := by decide +kernel
theorem dX8_run_67 : decode cX8_run 67 = .ok (.goto 37, 3) := by decide +kernel
theorem dX8_run_70 : decode cX8_run 70 = .ok (.iload_n 2, 1) := by decide +kernel
theorem dX8_run_71 : decode cX8_run 71 = .ok (.iconst 2, 1) := by decide +kernel
theorem dX8_run_72 : decode cX8_run 72 = .ok (.if_icmp .ne 10, 3) := by decide +kernel
theorem dX8_run_75 : decode cX8_run 75 = .ok (.aload_n 0, 1) := by decide +kernel
theorem dX8_run_76 : decode cX8_run 76 = .ok (.getfield 126, 3) := by decide +kernel
theorem dX8_run_79 : decode cX8_run 79 = .ok (.goto 25, 3) := by decide +kernel
theorem dX8_run_82 : decode cX8_run 82 = .ok (.iload_n 2, 1) := by decide +kernel
theorem dX8_run_83 : decode cX8_run 83 = .ok (.iconst 3, 1) := by decide +kernel
theorem dX8_run_84 : decode cX8_run 84 = .ok (.isub, 1) := by decide +kernel
theorem dX8_run_85 : decode cX8_run 85 = .ok (.aload_n 0, 1) := by decide +kernel
theorem dX8_run_86 : decode cX8_run 86 = .ok (.getfield 126, 3) := by decide +kernel
theorem dX8_run_89 : decode cX8_run 89 = .ok (.if_icmp .ge 14, 3) := by decide +kernel
theorem dX8_run_92 : decode cX8_run 92 = .ok (.aload_n 0, 1) := by decide +kernel
theorem dX8_run_93 : decode cX8_run 93 = .ok (.getfield 78, 3) := by decide +kernel
theorem dX8_run_96 : decode cX8_run 96 = .ok (.iload_n 2, 1) := by decide +kernel
theorem dX8_run_97 : decode cX8_run 97 = .ok (.iconst 3, 1) := by decide +kernel
theorem dX8_run_98 : decode cX8_run 98 = .ok (.isub, 1) := by decide +kernel
theorem dX8_run_99 : decode cX8_run 99 = .ok (.iaload, 1) := by decide +kernel
theorem dX8_run_100 : decode cX8_run 100 = .ok (.goto 4, 3) := by decide +kernel
theorem dX8_run_103 : decode cX8_run 103 = .ok (.iconst 0, 1) := by decide +kernel
theorem dX8_run_104 : decode cX8_run 104 = .ok (.ireturn, 1) := by decide +kernel
theorem dX8_answers_0 : decode cX8_answers 0 = .ok (.aload_n 0, 1) := by decide +kernel
theorem dX8_answers_1 : decode cX8_answers 1 = .ok (.iload_n 1, 1) := by decide +kernel
theorem dX8_answers_2 : decode cX8_answers 2 = .ok (.iload_n 2, 1) := by decide +kernel
theorem dX8_answers_3 : decode cX8_answers 3 = .ok (.sipush 500, 3) := by decide +kernel
theorem dX8_answers_6 : decode cX8_answers 6 = .ok (.invokevirtual 148, 3) := by decide +kernel
theorem dX8_answers_9 : decode cX8_answers 9 = .ok (.aload_n 0, 1) := by decide +kernel
theorem dX8_answers_10 : decode cX8_answers 10 = .ok (.aload_n 0, 1) := by decide +kernel
theorem dX8_answers_11 : decode cX8_answers 11 = .ok (.getfield 126, 3) := by decide +kernel
theorem dX8_answers_14 : decode cX8_answers 14 = .ok (.putfield 152, 3) := by decide +kernel
theorem dX8_answers_17 : decode cX8_answers 17 = .ok (.iconst 0, 1) := by decide +kernel
theorem dX8_answers_18 : decode cX8_answers 18 = .ok (.istore_n 3, 1) := by decide +kernel
theorem dX8_answers_19 : decode cX8_answers 19 = .ok (.iload_n 3, 1) := by decide +kernel
theorem dX8_answers_20 : decode cX8_answers 20 = .ok (.aload_n 0, 1) := by decide +kernel
theorem dX8_answers_21 : decode cX8_answers 21 = .ok (.getfield 126, 3) := by decide +kernel
theorem dX8_answers_24 : decode cX8_answers 24 = .ok (.if_icmp .ge 21, 3) := by decide +kernel
theorem dX8_answers_27 : decode cX8_answers 27 = .ok (.aload_n 0, 1) := by decide +kernel
theorem dX8_answers_28 : decode cX8_answers 28 = .ok (.getfield 84, 3) := by decide +kernel
theorem dX8_answers_31 : decode cX8_answers 31 = .ok (.iload_n 3, 1) := by decide +kernel
theorem dX8_answers_32 : decode cX8_answers 32 = .ok (.aload_n 0, 1) := by decide +kernel
theorem dX8_answers_33 : decode cX8_answers 33 = .ok (.getfield 78, 3) := by decide +kernel
theorem dX8_answers_36 : decode cX8_answers 36 = .ok (.iload_n 3, 1) := by decide +kernel
theorem dX8_answers_37 : decode cX8_answers 37 = .ok (.iaload, 1) := by decide +kernel
theorem dX8_answers_38 : decode cX8_answers 38 = .ok (.iastore, 1) := by decide +kernel
theorem dX8_answers_39 : decode cX8_answers 39 = .ok (.iinc 3 1, 3) := by decide +kernel
theorem dX8_answers_42 : decode cX8_answers 42 = .ok (.goto (-23), 3) := by decide +kernel
theorem dX8_answers_45 : decode cX8_answers 45 = .ok (.aload_n 0, 1) := by decide +kernel
theorem dX8_answers_46 : decode cX8_answers 46 = .ok (.getfield 117, 3) := by decide +kernel
theorem dX8_answers_49 : decode cX8_answers 49 = .ok (.ifCond .ne 7, 3) := by decide +kernel
theorem dX8_answers_52 : decode cX8_answers 52 = .ok (.iconst 1, 1) := by decide +kernel
theorem dX8_answers_53 : decode cX8_answers 53 = .ok (.goto 4, 3) := by decide +kernel
theorem dX8_answers_56 : decode cX8_answers 56 = .ok (.iconst 0, 1) := by decide +kernel
theorem dX8_answers_57 : decode cX8_answers 57 = .ok (.ireturn, 1) := by decide +kernel
theorem dX8_isChecker_0 : decode cX8_isChecker 0 = .ok (.iload_n 0, 1) := by decide +kernel
theorem dX8_isChecker_1 : decode cX8_isChecker 1 = .ok (.iconst 0, 1) := by decide +kernel
theorem dX8_isChecker_2 : decode cX8_isChecker 2 = .ok (.iconst 1, 1) := by decide +kernel
theorem dX8_isChecker_3 : decode cX8_isChecker 3 = .ok (.invokestatic 108, 3) := by decide +kernel
theorem dX8_isChecker_6 : decode cX8_isChecker 6 = .ok (.ireturn, 1) := by decide +kernel
theorem dX8_problem_0 : decode cX8_problem 0 = .ok (.aload_n 0, 1) := by decide +kernel
theorem dX8_problem_1 : decode cX8_problem 1 = .ok (.iload_n 1, 1) := by decide +kernel
theorem dX8_problem_2 : decode cX8_problem 2 = .ok (.iconst 1, 1) := by decide +kernel
theorem dX8_problem_3 : decode cX8_problem 3 = .ok (.sipush 500, 3) := by decide +kernel
theorem dX8_problem_6 : decode cX8_problem 6 = .ok (.invokestatic 108, 3) := by decide +kernel
theorem dX8_problem_9 : decode cX8_problem 9 = .ok (.ifCond .eq 10, 3) := by decide +kernel
theorem dX8_problem_12 : decode cX8_problem 12 = .ok (.iload_n 2, 1) := by decide +kernel
theorem dX8_problem_13 : decode cX8_problem 13 = .ok (.invokestatic 155, 3) := by decide +kernel
theorem dX8_problem_16 : decode cX8_problem 16 = .ok (.ifCond .ne 7, 3) := by decide +kernel
theorem dX8_problem_19 : decode cX8_problem 19 = .ok (.iconst 1, 1) := by decide +kernel
theorem dX8_problem_20 : decode cX8_problem 20 = .ok (.goto 17, 3) := by decide +kernel
theorem dX8_problem_23 : decode cX8_problem 23 = .ok (.aload_n 0, 1) := by decide +kernel
theorem dX8_problem_24 : decode cX8_problem 24 = .ok (.getfield 105, 3) := by decide +kernel
theorem dX8_problem_27 : decode cX8_problem 27 = .ok (.bipush 6, 2) := by decide +kernel
theorem dX8_problem_29 : decode cX8_problem 29 = .ok (.if_icmp .ne 7, 3) := by decide +kernel
theorem dX8_problem_32 : decode cX8_problem 32 = .ok (.iconst 2, 1) := by decide +kernel
theorem dX8_problem_33 : decode cX8_problem 33 = .ok (.goto 4, 3) := by decide +kernel
theorem dX8_problem_36 : decode cX8_problem 36 = .ok (.iconst 0, 1) := by decide +kernel
theorem dX8_problem_37 : decode cX8_problem 37 = .ok (.putfield 102, 3) := by decide +kernel
theorem dX8_problem_40 : decode cX8_problem 40 = .ok (.aload_n 0, 1) := by decide +kernel
theorem dX8_problem_41 : decode cX8_problem 41 = .ok (.getfield 102, 3) := by decide +kernel
theorem dX8_problem_44 : decode cX8_problem 44 = .ok (.ifCond .le 5, 3) := by decide +kernel
theorem dX8_problem_47 : decode cX8_problem 47 = .ok (.iconst 0, 1) := by decide +kernel
theorem dX8_problem_48 : decode cX8_problem 48 = .ok (.ireturn, 1) := by decide +kernel
theorem dX8_problem_49 : decode cX8_problem 49 = .ok (.aload_n 0, 1) := by decide +kernel
theorem dX8_problem_50 : decode cX8_problem 50 = .ok (.getfield 25, 3) := by decide +kernel
theorem dX8_problem_53 : decode cX8_problem 53 = .ok (.aload_n 0, 1) := by decide +kernel
theorem dX8_problem_54 : decode cX8_problem 54 = .ok (.getfield 105, 3) := by decide +kernel
theorem dX8_problem_57 : decode cX8_problem 57 = .ok (.iload_n 1, 1) := by decide +kernel
theorem dX8_problem_58 : decode cX8_problem 58 = .ok (.iastore, 1) := by decide +kernel
theorem dX8_problem_59 : decode cX8_problem 59 = .ok (.aload_n 0, 1) := by decide +kernel
theorem dX8_problem_60 : decode cX8_problem 60 = .ok (.getfield 28, 3) := by decide +kernel
theorem dX8_problem_63 : decode cX8_problem 63 = .ok (.aload_n 0, 1) := by decide +kernel
theorem dX8_problem_64 : decode cX8_problem 64 = .ok (.getfield 105, 3) := by decide +kernel
theorem dX8_problem_67 : decode cX8_problem 67 = .ok (.iload_n 2, 1) := by decide +kernel
theorem dX8_problem_68 : decode cX8_problem 68 = .ok (.iastore, 1) := by decide +kernel
theorem dX8_problem_69 : decode cX8_problem 69 = .ok (.aload_n 0, 1) := by decide +kernel
theorem dX8_problem_70 : decode cX8_problem 70 = .ok (.iconst 0, 1) := by decide +kernel
theorem dX8_problem_71 : decode cX8_problem 71 = .ok (.iconst 1, 1) := by decide +kernel
theorem dX8_problem_72 : decode cX8_problem 72 = .ok (.aload_n 0, 1) := by decide +kernel
theorem dX8_problem_73 : decode cX8_problem 73 = .ok (.getfield 105, 3) := by decide +kernel
theorem dX8_problem_76 : decode cX8_problem 76 = .ok (.iadd, 1) := by decide +kernel
theorem dX8_problem_77 : decode cX8_problem 77 = .ok (.invokevirtual 159, 3) := by decide +kernel
theorem dX8_problem_80 : decode cX8_problem 80 = .ok (.aload_n 0, 1) := by decide +kernel
theorem dX8_problem_81 : decode cX8_problem 81 = .ok (.iconst 0, 1) := by decide +kernel
theorem dX8_problem_82 : decode cX8_problem 82 = .ok (.invokevirtual 145, 3) := by decide +kernel
theorem dX8_problem_85 : decode cX8_problem 85 = .ok (.aload_n 0, 1) := by decide +kernel
theorem dX8_problem_86 : decode cX8_problem 86 = .ok (.dup, 1) := by decide +kernel
theorem dX8_problem_87 : decode cX8_problem 87 = .ok (.getfield 105, 3) := by decide +kernel
theorem dX8_problem_90 : decode cX8_problem 90 = .ok (.iconst 1, 1) := by decide +kernel
theorem dX8_problem_91 : decode cX8_problem 91 = .ok (.iadd, 1) := by decide +kernel
theorem dX8_problem_92 : decode cX8_problem 92 = .ok (.putfield 105, 3) := by decide +kernel
theorem dX8_problem_95 : decode cX8_problem 95 = .ok (.aload_n 0, 1) := by decide +kernel
theorem dX8_problem_96 : decode cX8_problem 96 = .ok (.getfield 105, 3) := by decide +kernel
theorem dX8_problem_99 : decode cX8_problem 99 = .ok (.iconst 1, 1) := by decide +kernel
theorem dX8_problem_100 : decode cX8_problem 100 = .ok (.isub, 1) := by decide +kernel
theorem dX8_problem_101 : decode cX8_problem 101 = .ok (.ireturn, 1) := by decide +kernel
theorem dX8_becomes_0 : decode cX8_becomes 0 = .ok (.bipush 12, 2) := by decide +kernel
theorem dX8_becomes_2 : decode cX8_becomes 2 = .ok (.iload_n 1, 1) := by decide +kernel
theorem dX8_becomes_3 : decode cX8_becomes 3 = .ok (.imul, 1) := by decide +kernel
theorem dX8_becomes_4 : decode cX8_becomes 4 = .ok (.aload_n 0, 1) := by decide +kernel
theorem dX8_becomes_5 : decode cX8_becomes 5 = .ok (.getfield 34, 3) := by decide +kernel
theorem dX8_becomes_8 : decode cX8_becomes 8 = .ok (.iload_n 1, 1) := by decide +kernel
theorem dX8_becomes_9 : decode cX8_becomes 9 = .ok (.iaload, 1) := by decide +kernel
theorem dX8_becomes_10 : decode cX8_becomes 10 = .ok (.iadd, 1) := by decide +kernel
theorem dX8_becomes_11 : decode cX8_becomes 11 = .ok (.istore_n 3, 1) := by decide +kernel
theorem dX8_becomes_12 : decode cX8_becomes 12 = .ok (.iconst 0, 1) := by decide +kernel
theorem dX8_becomes_13 : decode cX8_becomes 13 = .ok (.istore 4, 2) := by decide +kernel
theorem dX8_becomes_15 : decode cX8_becomes 15 = .ok (.iload 4, 2) := by decide +kernel
theorem dX8_becomes_17 : decode cX8_becomes 17 = .ok (.aload_n 0, 1) := by decide +kernel
theorem dX8_becomes_18 : decode cX8_becomes 18 = .ok (.getfield 19, 3) := by decide +kernel
theorem dX8_becomes_21 : decode cX8_becomes 21 = .ok (.bipush 72, 2) := by decide +kernel
theorem dX8_becomes_23 : decode cX8_becomes 23 = .ok (.iaload, 1) := by decide +kernel
theorem dX8_becomes_24 : decode cX8_becomes 24 = .ok (.if_icmp .ge 31, 3) := by decide +kernel
theorem dX8_becomes_27 : decode cX8_becomes 27 = .ok (.aload_n 0, 1) := by decide +kernel
theorem dX8_becomes_28 : decode cX8_becomes 28 = .ok (.getfield 22, 3) := by decide +kernel
theorem dX8_becomes_31 : decode cX8_becomes 31 = .ok (.iconst 4, 1) := by decide +kernel
theorem dX8_becomes_32 : decode cX8_becomes 32 = .ok (.iload_n 3, 1) := by decide +kernel
theorem dX8_becomes_33 : decode cX8_becomes 33 = .ok (.imul, 1) := by decide +kernel
theorem dX8_becomes_34 : decode cX8_becomes 34 = .ok (.iload 4, 2) := by decide +kernel
theorem dX8_becomes_36 : decode cX8_becomes 36 = .ok (.iadd, 1) := by decide +kernel
theorem dX8_becomes_37 : decode cX8_becomes 37 = .ok (.aload_n 0, 1) := by decide +kernel
theorem dX8_becomes_38 : decode cX8_becomes 38 = .ok (.getfield 22, 3) := by decide +kernel
theorem dX8_becomes_41 : decode cX8_becomes 41 = .ok (.sipush 288, 3) := by decide +kernel
theorem dX8_becomes_44 : decode cX8_becomes 44 = .ok (.iload 4, 2) := by decide +kernel
theorem dX8_becomes_46 : decode cX8_becomes 46 = .ok (.iadd, 1) := by decide +kernel
theorem dX8_becomes_47 : decode cX8_becomes 47 = .ok (.iaload, 1) := by decide +kernel
theorem dX8_becomes_48 : decode cX8_becomes 48 = .ok (.iastore, 1) := by decide +kernel
theorem dX8_becomes_49 : decode cX8_becomes 49 = .ok (.iinc 4 1, 3) := by decide +kernel
theorem dX8_becomes_52 : decode cX8_becomes 52 = .ok (.goto (-37), 3) := by decide +kernel
theorem dX8_becomes_55 : decode cX8_becomes 55 = .ok (.aload_n 0, 1) := by decide +kernel
theorem dX8_becomes_56 : decode cX8_becomes 56 = .ok (.getfield 19, 3) := by decide +kernel
theorem dX8_becomes_59 : decode cX8_becomes 59 = .ok (.iload_n 3, 1) := by decide +kernel
theorem dX8_becomes_60 : decode cX8_becomes 60 = .ok (.aload_n 0, 1) := by decide +kernel
theorem dX8_becomes_61 : decode cX8_becomes 61 = .ok (.getfield 19, 3) := by decide +kernel
theorem dX8_becomes_64 : decode cX8_becomes 64 = .ok (.bipush 72, 2) := by decide +kernel
theorem dX8_becomes_66 : decode cX8_becomes 66 = .ok (.iaload, 1) := by decide +kernel
theorem dX8_becomes_67 : decode cX8_becomes 67 = .ok (.iastore, 1) := by decide +kernel
theorem dX8_becomes_68 : decode cX8_becomes 68 = .ok (.aload_n 0, 1) := by decide +kernel
theorem dX8_becomes_69 : decode cX8_becomes 69 = .ok (.getfield 37, 3) := by decide +kernel
theorem dX8_becomes_72 : decode cX8_becomes 72 = .ok (.iload_n 3, 1) := by decide +kernel
theorem dX8_becomes_73 : decode cX8_becomes 73 = .ok (.iload_n 2, 1) := by decide +kernel
theorem dX8_becomes_74 : decode cX8_becomes 74 = .ok (.iastore, 1) := by decide +kernel
theorem dX8_becomes_75 : decode cX8_becomes 75 = .ok (.aload_n 0, 1) := by decide +kernel
theorem dX8_becomes_76 : decode cX8_becomes 76 = .ok (.getfield 34, 3) := by decide +kernel
theorem dX8_becomes_79 : decode cX8_becomes 79 = .ok (.iload_n 1, 1) := by decide +kernel
theorem dX8_becomes_80 : decode cX8_becomes 80 = .ok (.dup2, 1) := by decide +kernel
theorem dX8_becomes_81 : decode cX8_becomes 81 = .ok (.iaload, 1) := by decide +kernel
theorem dX8_becomes_82 : decode cX8_becomes 82 = .ok (.iconst 1, 1) := by decide +kernel
theorem dX8_becomes_83 : decode cX8_becomes 83 = .ok (.iadd, 1) := by decide +kernel
theorem dX8_becomes_84 : decode cX8_becomes 84 = .ok (.iastore, 1) := by decide +kernel
theorem dX8_becomes_85 : decode cX8_becomes 85 = .ok (.aload_n 0, 1) := by decide +kernel
theorem dX8_becomes_86 : decode cX8_becomes 86 = .ok (.getfield 31, 3) := by decide +kernel
theorem dX8_becomes_89 : decode cX8_becomes 89 = .ok (.iload_n 1, 1) := by decide +kernel
theorem dX8_becomes_90 : decode cX8_becomes 90 = .ok (.dup2, 1) := by decide +kernel
theorem dX8_becomes_91 : decode cX8_becomes 91 = .ok (.iaload, 1) := by decide +kernel
theorem dX8_becomes_92 : decode cX8_becomes 92 = .ok (.iconst 1, 1) := by decide +kernel
theorem dX8_becomes_93 : decode cX8_becomes 93 = .ok (.iadd, 1) := by decide +kernel
theorem dX8_becomes_94 : decode cX8_becomes 94 = .ok (.iastore, 1) := by decide +kernel
theorem dX8_becomes_95 : decode cX8_becomes 95 = .ok (.return_, 1) := by decide +kernel
theorem dX8_test_0 : decode cX8_test 0 = .ok (.aload_n 0, 1) := by decide +kernel
theorem dX8_test_1 : decode cX8_test 1 = .ok (.aload_n 0, 1) := by decide +kernel
theorem dX8_test_2 : decode cX8_test 2 = .ok (.iload_n 1, 1) := by decide +kernel
theorem dX8_test_3 : decode cX8_test 3 = .ok (.invokevirtual 163, 3) := by decide +kernel
theorem dX8_test_6 : decode cX8_test 6 = .ok (.ifCond .eq 10, 3) := by decide +kernel
theorem dX8_test_9 : decode cX8_test 9 = .ok (.iload_n 2, 1) := by decide +kernel
theorem dX8_test_10 : decode cX8_test 10 = .ok (.invokestatic 166, 3) := by decide +kernel
theorem dX8_test_13 : decode cX8_test 13 = .ok (.ifCond .ne 7, 3) := by decide +kernel
theorem dX8_test_16 : decode cX8_test 16 = .ok (.iconst 1, 1) := by decide +kernel
theorem dX8_test_17 : decode cX8_test 17 = .ok (.goto 4, 3) := by decide +kernel
theorem dX8_test_20 : decode cX8_test 20 = .ok (.iconst 0, 1) := by decide +kernel
theorem dX8_test_21 : decode cX8_test 21 = .ok (.putfield 102, 3) := by decide +kernel
theorem dX8_test_24 : decode cX8_test 24 = .ok (.aload_n 0, 1) := by decide +kernel
theorem dX8_test_25 : decode cX8_test 25 = .ok (.getfield 102, 3) := by decide +kernel
theorem dX8_test_28 : decode cX8_test 28 = .ok (.ifCond .le 5, 3) := by decide +kernel
theorem dX8_test_31 : decode cX8_test 31 = .ok (.iconst 0, 1) := by decide +kernel
theorem dX8_test_32 : decode cX8_test 32 = .ok (.ireturn, 1) := by decide +kernel
theorem dX8_test_33 : decode cX8_test 33 = .ok (.aload_n 0, 1) := by decide +kernel
theorem dX8_test_34 : decode cX8_test 34 = .ok (.aload_n 0, 1) := by decide +kernel
theorem dX8_test_35 : decode cX8_test 35 = .ok (.getfield 34, 3) := by decide +kernel
theorem dX8_test_38 : decode cX8_test 38 = .ok (.iload_n 1, 1) := by decide +kernel
theorem dX8_test_39 : decode cX8_test 39 = .ok (.iaload, 1) := by decide +kernel
theorem dX8_test_40 : decode cX8_test 40 = .ok (.bipush 12, 2) := by decide +kernel
theorem dX8_test_42 : decode cX8_test 42 = .ok (.if_icmp .eq 15, 3) := by decide +kernel
theorem dX8_test_45 : decode cX8_test 45 = .ok (.aload_n 0, 1) := by decide +kernel
theorem dX8_test_46 : decode cX8_test 46 = .ok (.iconst 1, 1) := by decide +kernel
theorem dX8_test_47 : decode cX8_test 47 = .ok (.iload_n 1, 1) := by decide +kernel
theorem dX8_test_48 : decode cX8_test 48 = .ok (.iadd, 1) := by decide +kernel
theorem dX8_test_49 : decode cX8_test 49 = .ok (.bipush 72, 2) := by decide +kernel
theorem dX8_test_51 : decode cX8_test 51 = .ok (.invokevirtual 169, 3) := by decide +kernel
theorem dX8_test_54 : decode cX8_test 54 = .ok (.ifCond .ne 7, 3) := by decide +kernel
theorem dX8_test_57 : decode cX8_test 57 = .ok (.iconst 2, 1) := by decide +kernel
theorem dX8_test_58 : decode cX8_test 58 = .ok (.goto 4, 3) := by decide +kernel
theorem dX8_test_61 : decode cX8_test 61 = .ok (.iconst 0, 1) := by decide +kernel
theorem dX8_test_62 : decode cX8_test 62 = .ok (.putfield 102, 3) := by decide +kernel
theorem dX8_test_65 : decode cX8_test 65 = .ok (.aload_n 0, 1) := by decide +kernel
theorem dX8_test_66 : decode cX8_test 66 = .ok (.getfield 102, 3) := by decide +kernel
theorem dX8_test_69 : decode cX8_test 69 = .ok (.ifCond .le 5, 3) := by decide +kernel
theorem dX8_test_72 : decode cX8_test 72 = .ok (.iconst 0, 1) := by decide +kernel
theorem dX8_test_73 : decode cX8_test 73 = .ok (.ireturn, 1) := by decide +kernel
theorem dX8_test_74 : decode cX8_test 74 = .ok (.aload_n 0, 1) := by decide +kernel
theorem dX8_test_75 : decode cX8_test 75 = .ok (.iload_n 1, 1) := by decide +kernel
theorem dX8_test_76 : decode cX8_test 76 = .ok (.iload_n 2, 1) := by decide +kernel
theorem dX8_test_77 : decode cX8_test 77 = .ok (.invokevirtual 173, 3) := by decide +kernel
theorem dX8_test_80 : decode cX8_test 80 = .ok (.aload_n 0, 1) := by decide +kernel
theorem dX8_test_81 : decode cX8_test 81 = .ok (.getfield 19, 3) := by decide +kernel
theorem dX8_test_84 : decode cX8_test 84 = .ok (.bipush 72, 2) := by decide +kernel
theorem dX8_test_86 : decode cX8_test 86 = .ok (.iconst 0, 1) := by decide +kernel
theorem dX8_test_87 : decode cX8_test 87 = .ok (.iastore, 1) := by decide +kernel
theorem dX8_test_88 : decode cX8_test 88 = .ok (.aload_n 0, 1) := by decide +kernel
theorem dX8_test_89 : decode cX8_test 89 = .ok (.getfield 34, 3) := by decide +kernel
theorem dX8_test_92 : decode cX8_test 92 = .ok (.iload_n 1, 1) := by decide +kernel
theorem dX8_test_93 : decode cX8_test 93 = .ok (.iaload, 1) := by decide +kernel
theorem dX8_test_94 : decode cX8_test 94 = .ok (.iconst 1, 1) := by decide +kernel
theorem dX8_test_95 : decode cX8_test 95 = .ok (.isub, 1) := by decide +kernel
theorem dX8_test_96 : decode cX8_test 96 = .ok (.ireturn, 1) := by decide +kernel
theorem dX8_points_0 : decode cX8_points 0 = .ok (.aload_n 0, 1) := by decide +kernel
theorem dX8_points_1 : decode cX8_points 1 = .ok (.aload_n 0, 1) := by decide +kernel
theorem dX8_points_2 : decode cX8_points 2 = .ok (.iload_n 1, 1) := by decide +kernel
theorem dX8_points_3 : decode cX8_points 3 = .ok (.invokevirtual 163, 3) := by decide +kernel
theorem dX8_points_6 : decode cX8_points 6 = .ok (.ifCond .eq 10, 3) := by decide +kernel
theorem dX8_points_9 : decode cX8_points 9 = .ok (.iload_n 2, 1) := by decide +kernel
theorem dX8_points_10 : decode cX8_points 10 = .ok (.invokestatic 166, 3) := by decide +kernel
theorem dX8_points_13 : decode cX8_points 13 = .ok (.ifCond .ne 7, 3) := by decide +kernel
theorem dX8_points_16 : decode cX8_points 16 = .ok (.iconst 1, 1) := by decide +kernel
theorem dX8_points_17 : decode cX8_points 17 = .ok (.goto 18, 3) := by decide +kernel
theorem dX8_points_20 : decode cX8_points 20 = .ok (.iload_n 3, 1) := by decide +kernel
theorem dX8_points_21 : decode cX8_points 21 = .ok (.iconst 0, 1) := by decide +kernel
theorem dX8_points_22 : decode cX8_points 22 = .ok (.bipush 100, 2) := by decide +kernel
theorem dX8_points_24 : decode cX8_points 24 = .ok (.invokestatic 108, 3) := by decide +kernel
theorem dX8_points_27 : decode cX8_points 27 = .ok (.ifCond .ne 7, 3) := by decide +kernel
theorem dX8_points_30 : decode cX8_points 30 = .ok (.iconst 2, 1) := by decide +kernel
theorem dX8_points_31 : decode cX8_points 31 = .ok (.goto 4, 3) := by decide +kernel
theorem dX8_points_34 : decode cX8_points 34 = .ok (.iconst 0, 1) := by decide +kernel
theorem dX8_points_35 : decode cX8_points 35 = .ok (.putfield 102, 3) := by decide +kernel
theorem dX8_points_38 : decode cX8_points 38 = .ok (.aload_n 0, 1) := by decide +kernel
theorem dX8_points_39 : decode cX8_points 39 = .ok (.getfield 102, 3) := by decide +kernel
theorem dX8_points_42 : decode cX8_points 42 = .ok (.ifCond .le 5, 3) := by decide +kernel
theorem dX8_points_45 : decode cX8_points 45 = .ok (.iconst 0, 1) := by decide +kernel
theorem dX8_points_46 : decode cX8_points 46 = .ok (.ireturn, 1) := by decide +kernel
theorem dX8_points_47 : decode cX8_points 47 = .ok (.aload_n 0, 1) := by decide +kernel
theorem dX8_points_48 : decode cX8_points 48 = .ok (.getfield 40, 3) := by decide +kernel
theorem dX8_points_51 : decode cX8_points 51 = .ok (.iconst 4, 1) := by decide +kernel
theorem dX8_points_52 : decode cX8_points 52 = .ok (.iload_n 1, 1) := by decide +kernel
theorem dX8_points_53 : decode cX8_points 53 = .ok (.imul, 1) := by decide +kernel
theorem dX8_points_54 : decode cX8_points 54 = .ok (.iload_n 2, 1) := by decide +kernel
theorem dX8_points_55 : decode cX8_points 55 = .ok (.iadd, 1) := by decide +kernel
theorem dX8_points_56 : decode cX8_points 56 = .ok (.iaload, 1) := by decide +kernel
theorem dX8_points_57 : decode cX8_points 57 = .ok (.istore 4, 2) := by decide +kernel
theorem dX8_points_59 : decode cX8_points 59 = .ok (.aload_n 0, 1) := by decide +kernel
theorem dX8_points_60 : decode cX8_points 60 = .ok (.getfield 40, 3) := by decide +kernel
theorem dX8_points_63 : decode cX8_points 63 = .ok (.iconst 4, 1) := by decide +kernel
theorem dX8_points_64 : decode cX8_points 64 = .ok (.iload_n 1, 1) := by decide +kernel
theorem dX8_points_65 : decode cX8_points 65 = .ok (.imul, 1) := by decide +kernel
theorem dX8_points_66 : decode cX8_points 66 = .ok (.iload_n 2, 1) := by decide +kernel
theorem dX8_points_67 : decode cX8_points 67 = .ok (.iadd, 1) := by decide +kernel
theorem dX8_points_68 : decode cX8_points 68 = .ok (.iload_n 3, 1) := by decide +kernel
theorem dX8_points_69 : decode cX8_points 69 = .ok (.iastore, 1) := by decide +kernel
theorem dX8_points_70 : decode cX8_points 70 = .ok (.iload 4, 2) := by decide +kernel
theorem dX8_points_72 : decode cX8_points 72 = .ok (.ireturn, 1) := by decide +kernel
theorem dX8_mend_0 : decode cX8_mend 0 = .ok (.aload_n 0, 1) := by decide +kernel
theorem dX8_mend_1 : decode cX8_mend 1 = .ok (.aload_n 0, 1) := by decide +kernel
theorem dX8_mend_2 : decode cX8_mend 2 = .ok (.iload_n 1, 1) := by decide +kernel
theorem dX8_mend_3 : decode cX8_mend 3 = .ok (.invokevirtual 163, 3) := by decide +kernel
theorem dX8_mend_6 : decode cX8_mend 6 = .ok (.ifCond .ne 7, 3) := by decide +kernel
theorem dX8_mend_9 : decode cX8_mend 9 = .ok (.iconst 1, 1) := by decide +kernel
theorem dX8_mend_10 : decode cX8_mend 10 = .ok (.goto 15, 3) := by decide +kernel
theorem dX8_mend_13 : decode cX8_mend 13 = .ok (.iload_n 2, 1) := by decide +kernel
theorem dX8_mend_14 : decode cX8_mend 14 = .ok (.invokestatic 155, 3) := by decide +kernel
theorem dX8_mend_17 : decode cX8_mend 17 = .ok (.ifCond .ne 7, 3) := by decide +kernel
theorem dX8_mend_20 : decode cX8_mend 20 = .ok (.iconst 2, 1) := by decide +kernel
theorem dX8_mend_21 : decode cX8_mend 21 = .ok (.goto 4, 3) := by decide +kernel
theorem dX8_mend_24 : decode cX8_mend 24 = .ok (.iconst 0, 1) := by decide +kernel
theorem dX8_mend_25 : decode cX8_mend 25 = .ok (.putfield 102, 3) := by decide +kernel
theorem dX8_mend_28 : decode cX8_mend 28 = .ok (.aload_n 0, 1) := by decide +kernel
theorem dX8_mend_29 : decode cX8_mend 29 = .ok (.getfield 102, 3) := by decide +kernel
theorem dX8_mend_32 : decode cX8_mend 32 = .ok (.ifCond .le 5, 3) := by decide +kernel
theorem dX8_mend_35 : decode cX8_mend 35 = .ok (.iconst 0, 1) := by decide +kernel
theorem dX8_mend_36 : decode cX8_mend 36 = .ok (.ireturn, 1) := by decide +kernel
theorem dX8_mend_37 : decode cX8_mend 37 = .ok (.iconst 1, 1) := by decide +kernel
theorem dX8_mend_38 : decode cX8_mend 38 = .ok (.istore_n 3, 1) := by decide +kernel
theorem dX8_mend_39 : decode cX8_mend 39 = .ok (.iconst 0, 1) := by decide +kernel
theorem dX8_mend_40 : decode cX8_mend 40 = .ok (.istore 4, 2) := by decide +kernel
theorem dX8_mend_42 : decode cX8_mend 42 = .ok (.iload 4, 2) := by decide +kernel
theorem dX8_mend_44 : decode cX8_mend 44 = .ok (.aload_n 0, 1) := by decide +kernel
theorem dX8_mend_45 : decode cX8_mend 45 = .ok (.getfield 34, 3) := by decide +kernel
theorem dX8_mend_48 : decode cX8_mend 48 = .ok (.iload_n 1, 1) := by decide +kernel
theorem dX8_mend_49 : decode cX8_mend 49 = .ok (.iaload, 1) := by decide +kernel
theorem dX8_mend_50 : decode cX8_mend 50 = .ok (.if_icmp .ge 33, 3) := by decide +kernel
theorem dX8_mend_53 : decode cX8_mend 53 = .ok (.aload_n 0, 1) := by decide +kernel
theorem dX8_mend_54 : decode cX8_mend 54 = .ok (.getfield 7, 3) := by decide +kernel
theorem dX8_mend_57 : decode cX8_mend 57 = .ok (.iconst 0, 1) := by decide +kernel
theorem dX8_mend_58 : decode cX8_mend 58 = .ok (.iaload, 1) := by decide +kernel
theorem dX8_mend_59 : decode cX8_mend 59 = .ok (.ifCond .le 24, 3) := by decide +kernel
theorem dX8_mend_62 : decode cX8_mend 62 = .ok (.iload_n 3, 1) := by decide +kernel
theorem dX8_mend_63 : decode cX8_mend 63 = .ok (.aload_n 0, 1) := by decide +kernel
theorem dX8_mend_64 : decode cX8_mend 64 = .ok (.iconst 0, 1) := by decide +kernel
theorem dX8_mend_65 : decode cX8_mend 65 = .ok (.bipush 12, 2) := by decide +kernel
theorem dX8_mend_67 : decode cX8_mend 67 = .ok (.iload_n 1, 1) := by decide +kernel
theorem dX8_mend_68 : decode cX8_mend 68 = .ok (.imul, 1) := by decide +kernel
theorem dX8_mend_69 : decode cX8_mend 69 = .ok (.iload 4, 2) := by decide +kernel
theorem dX8_mend_71 : decode cX8_mend 71 = .ok (.iadd, 1) := by decide +kernel
theorem dX8_mend_72 : decode cX8_mend 72 = .ok (.invokevirtual 169, 3) := by decide +kernel
theorem dX8_mend_75 : decode cX8_mend 75 = .ok (.iand, 1) := by decide +kernel
theorem dX8_mend_76 : decode cX8_mend 76 = .ok (.istore_n 3, 1) := by decide +kernel
theorem dX8_mend_77 : decode cX8_mend 77 = .ok (.iinc 4 1, 3) := by decide +kernel
theorem dX8_mend_80 : decode cX8_mend 80 = .ok (.goto (-38), 3) := by decide +kernel
theorem dX8_mend_83 : decode cX8_mend 83 = .ok (.aload_n 0, 1) := by decide +kernel
theorem dX8_mend_84 : decode cX8_mend 84 = .ok (.iload_n 3, 1) := by decide +kernel
theorem dX8_mend_85 : decode cX8_mend 85 = .ok (.ifCond .eq 7, 3) := by decide +kernel
theorem dX8_mend_88 : decode cX8_mend 88 = .ok (.iconst 0, 1) := by decide +kernel
theorem dX8_mend_89 : decode cX8_mend 89 = .ok (.goto 4, 3) := by decide +kernel
theorem dX8_mend_92 : decode cX8_mend 92 = .ok (.iconst 3, 1) := by decide +kernel
theorem dX8_mend_93 : decode cX8_mend 93 = .ok (.putfield 102, 3) := by decide +kernel
theorem dX8_mend_96 : decode cX8_mend 96 = .ok (.aload_n 0, 1) := by decide +kernel
theorem dX8_mend_97 : decode cX8_mend 97 = .ok (.getfield 102, 3) := by decide +kernel
theorem dX8_mend_100 : decode cX8_mend 100 = .ok (.ifCond .le 5, 3) := by decide +kernel
theorem dX8_mend_103 : decode cX8_mend 103 = .ok (.iconst 0, 1) := by decide +kernel
theorem dX8_mend_104 : decode cX8_mend 104 = .ok (.ireturn, 1) := by decide +kernel
theorem dX8_mend_105 : decode cX8_mend 105 = .ok (.aload_n 0, 1) := by decide +kernel
theorem dX8_mend_106 : decode cX8_mend 106 = .ok (.getfield 7, 3) := by decide +kernel
theorem dX8_mend_109 : decode cX8_mend 109 = .ok (.iconst 0, 1) := by decide +kernel
theorem dX8_mend_110 : decode cX8_mend 110 = .ok (.iaload, 1) := by decide +kernel
theorem dX8_mend_111 : decode cX8_mend 111 = .ok (.ifCond .le 16, 3) := by decide +kernel
theorem dX8_mend_114 : decode cX8_mend 114 = .ok (.aload_n 0, 1) := by decide +kernel
theorem dX8_mend_115 : decode cX8_mend 115 = .ok (.iconst 0, 1) := by decide +kernel
theorem dX8_mend_116 : decode cX8_mend 116 = .ok (.iconst 1, 1) := by decide +kernel
theorem dX8_mend_117 : decode cX8_mend 117 = .ok (.iload_n 1, 1) := by decide +kernel
theorem dX8_mend_118 : decode cX8_mend 118 = .ok (.iadd, 1) := by decide +kernel
theorem dX8_mend_119 : decode cX8_mend 119 = .ok (.invokevirtual 159, 3) := by decide +kernel
theorem dX8_mend_122 : decode cX8_mend 122 = .ok (.aload_n 0, 1) := by decide +kernel
theorem dX8_mend_123 : decode cX8_mend 123 = .ok (.iconst 0, 1) := by decide +kernel
theorem dX8_mend_124 : decode cX8_mend 124 = .ok (.invokevirtual 145, 3) := by decide +kernel
theorem dX8_mend_127 : decode cX8_mend 127 = .ok (.aload_n 0, 1) := by decide +kernel
theorem dX8_mend_128 : decode cX8_mend 128 = .ok (.getfield 28, 3) := by decide +kernel
theorem dX8_mend_131 : decode cX8_mend 131 = .ok (.iload_n 1, 1) := by decide +kernel
theorem dX8_mend_132 : decode cX8_mend 132 = .ok (.iload_n 2, 1) := by decide +kernel
theorem dX8_mend_133 : decode cX8_mend 133 = .ok (.iastore, 1) := by decide +kernel
theorem dX8_mend_134 : decode cX8_mend 134 = .ok (.aload_n 0, 1) := by decide +kernel
theorem dX8_mend_135 : decode cX8_mend 135 = .ok (.getfield 31, 3) := by decide +kernel
theorem dX8_mend_138 : decode cX8_mend 138 = .ok (.iload_n 1, 1) := by decide +kernel
theorem dX8_mend_139 : decode cX8_mend 139 = .ok (.dup2, 1) := by decide +kernel
theorem dX8_mend_140 : decode cX8_mend 140 = .ok (.iaload, 1) := by decide +kernel
theorem dX8_mend_141 : decode cX8_mend 141 = .ok (.iconst 1, 1) := by decide +kernel
theorem dX8_mend_142 : decode cX8_mend 142 = .ok (.iadd, 1) := by decide +kernel
theorem dX8_mend_143 : decode cX8_mend 143 = .ok (.iastore, 1) := by decide +kernel
theorem dX8_mend_144 : decode cX8_mend 144 = .ok (.aload_n 0, 1) := by decide +kernel
theorem dX8_mend_145 : decode cX8_mend 145 = .ok (.getfield 31, 3) := by decide +kernel
theorem dX8_mend_148 : decode cX8_mend 148 = .ok (.iload_n 1, 1) := by decide +kernel
theorem dX8_mend_149 : decode cX8_mend 149 = .ok (.iaload, 1) := by decide +kernel
theorem dX8_mend_150 : decode cX8_mend 150 = .ok (.ireturn, 1) := by decide +kernel
theorem dX8_answer_0 : decode cX8_answer 0 = .ok (.aload_n 0, 1) := by decide +kernel
theorem dX8_answer_1 : decode cX8_answer 1 = .ok (.aload_n 0, 1) := by decide +kernel
theorem dX8_answer_2 : decode cX8_answer 2 = .ok (.iload_n 1, 1) := by decide +kernel
theorem dX8_answer_3 : decode cX8_answer 3 = .ok (.invokevirtual 163, 3) := by decide +kernel
theorem dX8_answer_6 : decode cX8_answer 6 = .ok (.ifCond .eq 23, 3) := by decide +kernel
theorem dX8_answer_9 : decode cX8_answer 9 = .ok (.iload_n 2, 1) := by decide +kernel
theorem dX8_answer_10 : decode cX8_answer 10 = .ok (.iconst 0, 1) := by decide +kernel
theorem dX8_answer_11 : decode cX8_answer 11 = .ok (.aload_n 0, 1) := by decide +kernel
theorem dX8_answer_12 : decode cX8_answer 12 = .ok (.getfield 34, 3) := by decide +kernel
theorem dX8_answer_15 : decode cX8_answer 15 = .ok (.iload_n 1, 1) := by decide +kernel
theorem dX8_answer_16 : decode cX8_answer 16 = .ok (.iaload, 1) := by decide +kernel
theorem dX8_answer_17 : decode cX8_answer 17 = .ok (.iconst 1, 1) := by decide +kernel
theorem dX8_answer_18 : decode cX8_answer 18 = .ok (.isub, 1) := by decide +kernel
theorem dX8_answer_19 : decode cX8_answer 19 = .ok (.invokestatic 108, 3) := by decide +kernel
theorem dX8_answer_22 : decode cX8_answer 22 = .ok (.ifCond .eq 7, 3) := by decide +kernel
theorem dX8_answer_25 : decode cX8_answer 25 = .ok (.iload_n 3, 1) := by decide +kernel
theorem dX8_answer_26 : decode cX8_answer 26 = .ok (.ifCond .ge 7, 3) := by decide +kernel
theorem dX8_answer_29 : decode cX8_answer 29 = .ok (.iconst 1, 1) := by decide +kernel
theorem dX8_answer_30 : decode cX8_answer 30 = .ok (.goto 4, 3) := by decide +kernel
theorem dX8_answer_33 : decode cX8_answer 33 = .ok (.iconst 0, 1) := by decide +kernel
theorem dX8_answer_34 : decode cX8_answer 34 = .ok (.putfield 102, 3) := by decide +kernel
theorem dX8_answer_37 : decode cX8_answer 37 = .ok (.aload_n 0, 1) := by decide +kernel
theorem dX8_answer_38 : decode cX8_answer 38 = .ok (.getfield 102, 3) := by decide +kernel
theorem dX8_answer_41 : decode cX8_answer 41 = .ok (.ifCond .le 5, 3) := by decide +kernel
theorem dX8_answer_44 : decode cX8_answer 44 = .ok (.iconst 0, 1) := by decide +kernel
theorem dX8_answer_45 : decode cX8_answer 45 = .ok (.ireturn, 1) := by decide +kernel
theorem dX8_answer_46 : decode cX8_answer 46 = .ok (.aload_n 0, 1) := by decide +kernel
theorem dX8_answer_47 : decode cX8_answer 47 = .ok (.iconst 1, 1) := by decide +kernel
theorem dX8_answer_48 : decode cX8_answer 48 = .ok (.iload_n 1, 1) := by decide +kernel
theorem dX8_answer_49 : decode cX8_answer 49 = .ok (.iadd, 1) := by decide +kernel
theorem dX8_answer_50 : decode cX8_answer 50 = .ok (.bipush 12, 2) := by decide +kernel
theorem dX8_answer_52 : decode cX8_answer 52 = .ok (.iload_n 1, 1) := by decide +kernel
theorem dX8_answer_53 : decode cX8_answer 53 = .ok (.imul, 1) := by decide +kernel
theorem dX8_answer_54 : decode cX8_answer 54 = .ok (.iload_n 2, 1) := by decide +kernel
theorem dX8_answer_55 : decode cX8_answer 55 = .ok (.iadd, 1) := by decide +kernel
theorem dX8_answer_56 : decode cX8_answer 56 = .ok (.invokevirtual 169, 3) := by decide +kernel
theorem dX8_answer_59 : decode cX8_answer 59 = .ok (.istore 4, 2) := by decide +kernel
theorem dX8_answer_61 : decode cX8_answer 61 = .ok (.iload 4, 2) := by decide +kernel
theorem dX8_answer_63 : decode cX8_answer 63 = .ok (.ifCond .eq 20, 3) := by decide +kernel
theorem dX8_answer_66 : decode cX8_answer 66 = .ok (.iload_n 3, 1) := by decide +kernel
theorem dX8_answer_67 : decode cX8_answer 67 = .ok (.aload_n 0, 1) := by decide +kernel
theorem dX8_answer_68 : decode cX8_answer 68 = .ok (.getfield 152, 3) := by decide +kernel
theorem dX8_answer_71 : decode cX8_answer 71 = .ok (.if_icmp .ge 12, 3) := by decide +kernel
theorem dX8_answer_74 : decode cX8_answer 74 = .ok (.aload_n 0, 1) := by decide +kernel
theorem dX8_answer_75 : decode cX8_answer 75 = .ok (.getfield 84, 3) := by decide +kernel
theorem dX8_answer_78 : decode cX8_answer 78 = .ok (.iload_n 3, 1) := by decide +kernel
theorem dX8_answer_79 : decode cX8_answer 79 = .ok (.iaload, 1) := by decide +kernel
theorem dX8_answer_80 : decode cX8_answer 80 = .ok (.goto 4, 3) := by decide +kernel
theorem dX8_answer_83 : decode cX8_answer 83 = .ok (.iconst 0, 1) := by decide +kernel
theorem dX8_answer_84 : decode cX8_answer 84 = .ok (.ireturn, 1) := by decide +kernel
theorem dX8_does_0 : decode cX8_does 0 = .ok (.aload_n 0, 1) := by decide +kernel
theorem dX8_does_1 : decode cX8_does 1 = .ok (.iconst 1, 1) := by decide +kernel
theorem dX8_does_2 : decode cX8_does 2 = .ok (.iload_n 1, 1) := by decide +kernel
theorem dX8_does_3 : decode cX8_does 3 = .ok (.iadd, 1) := by decide +kernel
theorem dX8_does_4 : decode cX8_does 4 = .ok (.iload_n 3, 1) := by decide +kernel
theorem dX8_does_5 : decode cX8_does 5 = .ok (.invokevirtual 169, 3) := by decide +kernel
theorem dX8_does_8 : decode cX8_does 8 = .ok (.istore 4, 2) := by decide +kernel
theorem dX8_does_10 : decode cX8_does 10 = .ok (.aload_n 0, 1) := by decide +kernel
theorem dX8_does_11 : decode cX8_does 11 = .ok (.iload_n 2, 1) := by decide +kernel
theorem dX8_does_12 : decode cX8_does 12 = .ok (.iload_n 3, 1) := by decide +kernel
theorem dX8_does_13 : decode cX8_does 13 = .ok (.aload_n 0, 1) := by decide +kernel
theorem dX8_does_14 : decode cX8_does 14 = .ok (.getfield 25, 3) := by decide +kernel
theorem dX8_does_17 : decode cX8_does 17 = .ok (.iload_n 1, 1) := by decide +kernel
theorem dX8_does_18 : decode cX8_does 18 = .ok (.iaload, 1) := by decide +kernel
theorem dX8_does_19 : decode cX8_does 19 = .ok (.invokevirtual 148, 3) := by decide +kernel
theorem dX8_does_22 : decode cX8_does 22 = .ok (.aload_n 0, 1) := by decide +kernel
theorem dX8_does_23 : decode cX8_does 23 = .ok (.getfield 117, 3) := by decide +kernel
theorem dX8_does_26 : decode cX8_does 26 = .ok (.ifCond .eq 8, 3) := by decide +kernel
theorem dX8_does_29 : decode cX8_does 29 = .ok (.aload_n 0, 1) := by decide +kernel
theorem dX8_does_30 : decode cX8_does 30 = .ok (.getfield 117, 3) := by decide +kernel
theorem dX8_does_33 : decode cX8_does 33 = .ok (.ireturn, 1) := by decide +kernel
theorem dX8_does_34 : decode cX8_does 34 = .ok (.aload_n 0, 1) := by decide +kernel
theorem dX8_does_35 : decode cX8_does 35 = .ok (.getfield 126, 3) := by decide +kernel
theorem dX8_does_38 : decode cX8_does 38 = .ok (.aload_n 0, 1) := by decide +kernel
theorem dX8_does_39 : decode cX8_does 39 = .ok (.getfield 152, 3) := by decide +kernel
theorem dX8_does_42 : decode cX8_does 42 = .ok (.if_icmp .ne 7, 3) := by decide +kernel
theorem dX8_does_45 : decode cX8_does 45 = .ok (.iconst 1, 1) := by decide +kernel
theorem dX8_does_46 : decode cX8_does 46 = .ok (.goto 4, 3) := by decide +kernel
theorem dX8_does_49 : decode cX8_does 49 = .ok (.iconst 0, 1) := by decide +kernel
theorem dX8_does_50 : decode cX8_does 50 = .ok (.istore 5, 2) := by decide +kernel
theorem dX8_does_52 : decode cX8_does 52 = .ok (.aload_n 0, 1) := by decide +kernel
theorem dX8_does_53 : decode cX8_does 53 = .ok (.getfield 28, 3) := by decide +kernel
theorem dX8_does_56 : decode cX8_does 56 = .ok (.iload_n 1, 1) := by decide +kernel
theorem dX8_does_57 : decode cX8_does 57 = .ok (.iaload, 1) := by decide +kernel
theorem dX8_does_58 : decode cX8_does 58 = .ok (.iconst 1, 1) := by decide +kernel
theorem dX8_does_59 : decode cX8_does 59 = .ok (.if_icmp .ne 7, 3) := by decide +kernel
theorem dX8_does_62 : decode cX8_does 62 = .ok (.iconst 1, 1) := by decide +kernel
theorem dX8_does_63 : decode cX8_does 63 = .ok (.goto 4, 3) := by decide +kernel
theorem dX8_does_66 : decode cX8_does 66 = .ok (.iconst 0, 1) := by decide +kernel
theorem dX8_does_67 : decode cX8_does 67 = .ok (.istore 6, 2) := by decide +kernel
theorem dX8_does_69 : decode cX8_does 69 = .ok (.iconst 0, 1) := by decide +kernel
theorem dX8_does_70 : decode cX8_does 70 = .ok (.istore 7, 2) := by decide +kernel
theorem dX8_does_72 : decode cX8_does 72 = .ok (.iload 7, 2) := by decide +kernel
theorem dX8_does_74 : decode cX8_does 74 = .ok (.aload_n 0, 1) := by decide +kernel
theorem dX8_does_75 : decode cX8_does 75 = .ok (.getfield 126, 3) := by decide +kernel
theorem dX8_does_78 : decode cX8_does 78 = .ok (.if_icmp .ge 39, 3) := by decide +kernel
theorem dX8_does_81 : decode cX8_does 81 = .ok (.iload 5, 2) := by decide +kernel
theorem dX8_does_83 : decode cX8_does 83 = .ok (.ifCond .eq 34, 3) := by decide +kernel
theorem dX8_does_86 : decode cX8_does 86 = .ok (.aload_n 0, 1) := by decide +kernel
theorem dX8_does_87 : decode cX8_does 87 = .ok (.getfield 78, 3) := by decide +kernel
theorem dX8_does_90 : decode cX8_does 90 = .ok (.iload 7, 2) := by decide +kernel
theorem dX8_does_92 : decode cX8_does 92 = .ok (.iaload, 1) := by decide +kernel
theorem dX8_does_93 : decode cX8_does 93 = .ok (.aload_n 0, 1) := by decide +kernel
theorem dX8_does_94 : decode cX8_does 94 = .ok (.getfield 84, 3) := by decide +kernel
theorem dX8_does_97 : decode cX8_does 97 = .ok (.iload 7, 2) := by decide +kernel
theorem dX8_does_99 : decode cX8_does 99 = .ok (.iaload, 1) := by decide +kernel
theorem dX8_does_100 : decode cX8_does 100 = .ok (.isub, 1) := by decide +kernel
theorem dX8_does_101 : decode cX8_does 101 = .ok (.iload 6, 2) := by decide +kernel
theorem dX8_does_103 : decode cX8_does 103 = .ok (.ineg, 1) := by decide +kernel
theorem dX8_does_104 : decode cX8_does 104 = .ok (.iload 6, 2) := by decide +kernel
theorem dX8_does_106 : decode cX8_does 106 = .ok (.invokestatic 108, 3) := by decide +kernel
theorem dX8_does_109 : decode cX8_does 109 = .ok (.istore 5, 2) := by decide +kernel
theorem dX8_does_111 : decode cX8_does 111 = .ok (.iinc 7 1, 3) := by decide +kernel
theorem dX8_does_114 : decode cX8_does 114 = .ok (.goto (-42), 3) := by decide +kernel
theorem dX8_does_117 : decode cX8_does 117 = .ok (.iload 5, 2) := by decide +kernel
theorem dX8_does_119 : decode cX8_does 119 = .ok (.ifCond .eq 7, 3) := by decide +kernel
theorem dX8_does_122 : decode cX8_does 122 = .ok (.iconst 0, 1) := by decide +kernel
theorem dX8_does_123 : decode cX8_does 123 = .ok (.goto 15, 3) := by decide +kernel
theorem dX8_does_126 : decode cX8_does 126 = .ok (.aload_n 0, 1) := by decide +kernel
theorem dX8_does_127 : decode cX8_does 127 = .ok (.getfield 126, 3) := by decide +kernel
theorem dX8_does_130 : decode cX8_does 130 = .ok (.ifCond .ne 7, 3) := by decide +kernel
theorem dX8_does_133 : decode cX8_does 133 = .ok (.iconst 5, 1) := by decide +kernel
theorem dX8_does_134 : decode cX8_does 134 = .ok (.goto 4, 3) := by decide +kernel
theorem dX8_does_137 : decode cX8_does 137 = .ok (.iconst 1, 1) := by decide +kernel
theorem dX8_does_138 : decode cX8_does 138 = .ok (.ireturn, 1) := by decide +kernel
theorem dX8_firstFailed_0 : decode cX8_firstFailed 0 = .ok (.aload_n 0, 1) := by decide +kernel
theorem dX8_firstFailed_1 : decode cX8_firstFailed 1 = .ok (.getfield 46, 3) := by decide +kernel
theorem dX8_firstFailed_4 : decode cX8_firstFailed 4 = .ok (.iload_n 1, 1) := by decide +kernel
theorem dX8_firstFailed_5 : decode cX8_firstFailed 5 = .ok (.iaload, 1) := by decide +kernel
theorem dX8_firstFailed_6 : decode cX8_firstFailed 6 = .ok (.istore_n 2, 1) := by decide +kernel
theorem dX8_firstFailed_7 : decode cX8_firstFailed 7 = .ok (.iconst 0, 1) := by decide +kernel
theorem dX8_firstFailed_8 : decode cX8_firstFailed 8 = .ok (.istore_n 3, 1) := by decide +kernel
theorem dX8_firstFailed_9 : decode cX8_firstFailed 9 = .ok (.iload_n 3, 1) := by decide +kernel
theorem dX8_firstFailed_10 : decode cX8_firstFailed 10 = .ok (.aload_n 0, 1) := by decide +kernel
theorem dX8_firstFailed_11 : decode cX8_firstFailed 11 = .ok (.getfield 34, 3) := by decide +kernel
theorem dX8_firstFailed_14 : decode cX8_firstFailed 14 = .ok (.iload_n 2, 1) := by decide +kernel
theorem dX8_firstFailed_15 : decode cX8_firstFailed 15 = .ok (.iaload, 1) := by decide +kernel
theorem dX8_firstFailed_16 : decode cX8_firstFailed 16 = .ok (.if_icmp .ge 29, 3) := by decide +kernel
theorem dX8_firstFailed_19 : decode cX8_firstFailed 19 = .ok (.aload_n 0, 1) := by decide +kernel
theorem dX8_firstFailed_20 : decode cX8_firstFailed 20 = .ok (.iload_n 2, 1) := by decide +kernel
theorem dX8_firstFailed_21 : decode cX8_firstFailed 21 = .ok (.bipush 7, 2) := by decide +kernel
theorem dX8_firstFailed_23 : decode cX8_firstFailed 23 = .ok (.iload_n 1, 1) := by decide +kernel
theorem dX8_firstFailed_24 : decode cX8_firstFailed 24 = .ok (.iadd, 1) := by decide +kernel
theorem dX8_firstFailed_25 : decode cX8_firstFailed 25 = .ok (.bipush 12, 2) := by decide +kernel
theorem dX8_firstFailed_27 : decode cX8_firstFailed 27 = .ok (.iload_n 2, 1) := by decide +kernel
theorem dX8_firstFailed_28 : decode cX8_firstFailed 28 = .ok (.imul, 1) := by decide +kernel
theorem dX8_firstFailed_29 : decode cX8_firstFailed 29 = .ok (.iload_n 3, 1) := by decide +kernel
theorem dX8_firstFailed_30 : decode cX8_firstFailed 30 = .ok (.iadd, 1) := by decide +kernel
theorem dX8_firstFailed_31 : decode cX8_firstFailed 31 = .ok (.invokevirtual 176, 3) := by decide +kernel
theorem dX8_firstFailed_34 : decode cX8_firstFailed 34 = .ok (.ifCond .eq 5, 3) := by decide +kernel
theorem dX8_firstFailed_37 : decode cX8_firstFailed 37 = .ok (.iload_n 3, 1) := by decide +kernel
theorem dX8_firstFailed_38 : decode cX8_firstFailed 38 = .ok (.ireturn, 1) := by decide +kernel
theorem dX8_firstFailed_39 : decode cX8_firstFailed 39 = .ok (.iinc 3 1, 3) := by decide +kernel
theorem dX8_firstFailed_42 : decode cX8_firstFailed 42 = .ok (.goto (-33), 3) := by decide +kernel
theorem dX8_firstFailed_45 : decode cX8_firstFailed 45 = .ok (.iconst (-1), 1) := by decide +kernel
theorem dX8_firstFailed_46 : decode cX8_firstFailed 46 = .ok (.ireturn, 1) := by decide +kernel
theorem dX8_judges_0 : decode cX8_judges 0 = .ok (.aload_n 0, 1) := by decide +kernel
theorem dX8_judges_1 : decode cX8_judges 1 = .ok (.getfield 46, 3) := by decide +kernel
theorem dX8_judges_4 : decode cX8_judges 4 = .ok (.iload_n 1, 1) := by decide +kernel
theorem dX8_judges_5 : decode cX8_judges 5 = .ok (.iaload, 1) := by decide +kernel
theorem dX8_judges_6 : decode cX8_judges 6 = .ok (.istore_n 2, 1) := by decide +kernel
theorem dX8_judges_7 : decode cX8_judges 7 = .ok (.iconst 0, 1) := by decide +kernel
theorem dX8_judges_8 : decode cX8_judges 8 = .ok (.istore_n 3, 1) := by decide +kernel
theorem dX8_judges_9 : decode cX8_judges 9 = .ok (.iconst 0, 1) := by decide +kernel
theorem dX8_judges_10 : decode cX8_judges 10 = .ok (.istore 4, 2) := by decide +kernel
theorem dX8_judges_12 : decode cX8_judges 12 = .ok (.iconst 0, 1) := by decide +kernel
theorem dX8_judges_13 : decode cX8_judges 13 = .ok (.istore 5, 2) := by decide +kernel
theorem dX8_judges_15 : decode cX8_judges 15 = .ok (.iload 5, 2) := by decide +kernel
theorem dX8_judges_17 : decode cX8_judges 17 = .ok (.aload_n 0, 1) := by decide +kernel
theorem dX8_judges_18 : decode cX8_judges 18 = .ok (.getfield 34, 3) := by decide +kernel
theorem dX8_judges_21 : decode cX8_judges 21 = .ok (.iload_n 2, 1) := by decide +kernel
theorem dX8_judges_22 : decode cX8_judges 22 = .ok (.iaload, 1) := by decide +kernel
theorem dX8_judges_23 : decode cX8_judges 23 = .ok (.if_icmp .ge 60, 3) := by decide +kernel
theorem dX8_judges_26 : decode cX8_judges 26 = .ok (.iconst 1, 1) := by decide +kernel
theorem dX8_judges_27 : decode cX8_judges 27 = .ok (.aload_n 0, 1) := by decide +kernel
theorem dX8_judges_28 : decode cX8_judges 28 = .ok (.getfield 37, 3) := by decide +kernel
theorem dX8_judges_31 : decode cX8_judges 31 = .ok (.bipush 12, 2) := by decide +kernel
theorem dX8_judges_33 : decode cX8_judges 33 = .ok (.iload_n 2, 1) := by decide +kernel
theorem dX8_judges_34 : decode cX8_judges 34 = .ok (.imul, 1) := by decide +kernel
theorem dX8_judges_35 : decode cX8_judges 35 = .ok (.iload 5, 2) := by decide +kernel
theorem dX8_judges_37 : decode cX8_judges 37 = .ok (.iadd, 1) := by decide +kernel
theorem dX8_judges_38 : decode cX8_judges 38 = .ok (.iaload, 1) := by decide +kernel
theorem dX8_judges_39 : decode cX8_judges 39 = .ok (.ishl, 1) := by decide +kernel
theorem dX8_judges_40 : decode cX8_judges 40 = .ok (.istore 6, 2) := by decide +kernel
theorem dX8_judges_42 : decode cX8_judges 42 = .ok (.iload 4, 2) := by decide +kernel
theorem dX8_judges_44 : decode cX8_judges 44 = .ok (.iload 6, 2) := by decide +kernel
theorem dX8_judges_46 : decode cX8_judges 46 = .ok (.ior, 1) := by decide +kernel
theorem dX8_judges_47 : decode cX8_judges 47 = .ok (.istore 4, 2) := by decide +kernel
theorem dX8_judges_49 : decode cX8_judges 49 = .ok (.iload_n 3, 1) := by decide +kernel
theorem dX8_judges_50 : decode cX8_judges 50 = .ok (.aload_n 0, 1) := by decide +kernel
theorem dX8_judges_51 : decode cX8_judges 51 = .ok (.iload_n 2, 1) := by decide +kernel
theorem dX8_judges_52 : decode cX8_judges 52 = .ok (.bipush 7, 2) := by decide +kernel
theorem dX8_judges_54 : decode cX8_judges 54 = .ok (.iload_n 1, 1) := by decide +kernel
theorem dX8_judges_55 : decode cX8_judges 55 = .ok (.iadd, 1) := by decide +kernel
theorem dX8_judges_56 : decode cX8_judges 56 = .ok (.bipush 12, 2) := by decide +kernel
theorem dX8_judges_58 : decode cX8_judges 58 = .ok (.iload_n 2, 1) := by decide +kernel
theorem dX8_judges_59 : decode cX8_judges 59 = .ok (.imul, 1) := by decide +kernel
theorem dX8_judges_60 : decode cX8_judges 60 = .ok (.iload 5, 2) := by decide +kernel
theorem dX8_judges_62 : decode cX8_judges 62 = .ok (.iadd, 1) := by decide +kernel
theorem dX8_judges_63 : decode cX8_judges 63 = .ok (.invokevirtual 176, 3) := by decide +kernel
theorem dX8_judges_66 : decode cX8_judges 66 = .ok (.ifCond .ne 7, 3) := by decide +kernel
theorem dX8_judges_69 : decode cX8_judges 69 = .ok (.iconst 0, 1) := by decide +kernel
theorem dX8_judges_70 : decode cX8_judges 70 = .ok (.goto 5, 3) := by decide +kernel
theorem dX8_judges_73 : decode cX8_judges 73 = .ok (.iload 6, 2) := by decide +kernel
theorem dX8_judges_75 : decode cX8_judges 75 = .ok (.ior, 1) := by decide +kernel
theorem dX8_judges_76 : decode cX8_judges 76 = .ok (.istore_n 3, 1) := by decide +kernel
theorem dX8_judges_77 : decode cX8_judges 77 = .ok (.iinc 5 1, 3) := by decide +kernel
theorem dX8_judges_80 : decode cX8_judges 80 = .ok (.goto (-65), 3) := by decide +kernel
theorem dX8_judges_83 : decode cX8_judges 83 = .ok (.aload_n 0, 1) := by decide +kernel
theorem dX8_judges_84 : decode cX8_judges 84 = .ok (.getfield 58, 3) := by decide +kernel
theorem dX8_judges_87 : decode cX8_judges 87 = .ok (.iload_n 1, 1) := by decide +kernel
theorem dX8_judges_88 : decode cX8_judges 88 = .ok (.iconst 0, 1) := by decide +kernel
theorem dX8_judges_89 : decode cX8_judges 89 = .ok (.iastore, 1) := by decide +kernel
theorem dX8_judges_90 : decode cX8_judges 90 = .ok (.iconst 0, 1) := by decide +kernel
theorem dX8_judges_91 : decode cX8_judges 91 = .ok (.istore 5, 2) := by decide +kernel
theorem dX8_judges_93 : decode cX8_judges 93 = .ok (.iload 5, 2) := by decide +kernel
theorem dX8_judges_95 : decode cX8_judges 95 = .ok (.iconst 4, 1) := by decide +kernel
theorem dX8_judges_96 : decode cX8_judges 96 = .ok (.if_icmp .ge 48, 3) := by decide +kernel
theorem dX8_judges_99 : decode cX8_judges 99 = .ok (.aload_n 0, 1) := by decide +kernel
theorem dX8_judges_100 : decode cX8_judges 100 = .ok (.getfield 58, 3) := by decide +kernel
theorem dX8_judges_103 : decode cX8_judges 103 = .ok (.iload_n 1, 1) := by decide +kernel
theorem dX8_judges_104 : decode cX8_judges 104 = .ok (.dup2, 1) := by decide +kernel
theorem dX8_judges_105 : decode cX8_judges 105 = .ok (.iaload, 1) := by decide +kernel
theorem dX8_judges_106 : decode cX8_judges 106 = .ok (.iload 4, 2) := by decide +kernel
theorem dX8_judges_108 : decode cX8_judges 108 = .ok (.iload_n 3, 1) := by decide +kernel
theorem dX8_judges_109 : decode cX8_judges 109 = .ok (.iconst (-1), 1) := by decide +kernel
theorem dX8_judges_110 : decode cX8_judges 110 = .ok (.ixor, 1) := by decide +kernel
theorem dX8_judges_111 : decode cX8_judges 111 = .ok (.iand, 1) := by decide +kernel
theorem dX8_judges_112 : decode cX8_judges 112 = .ok (.iload 5, 2) := by decide +kernel
theorem dX8_judges_114 : decode cX8_judges 114 = .ok (.ishr, 1) := by decide +kernel
theorem dX8_judges_115 : decode cX8_judges 115 = .ok (.iconst 1, 1) := by decide +kernel
theorem dX8_judges_116 : decode cX8_judges 116 = .ok (.iand, 1) := by decide +kernel
theorem dX8_judges_117 : decode cX8_judges 117 = .ok (.iconst 1, 1) := by decide +kernel
theorem dX8_judges_118 : decode cX8_judges 118 = .ok (.if_icmp .ne 17, 3) := by decide +kernel
theorem dX8_judges_121 : decode cX8_judges 121 = .ok (.aload_n 0, 1) := by decide +kernel
theorem dX8_judges_122 : decode cX8_judges 122 = .ok (.getfield 40, 3) := by decide +kernel
theorem dX8_judges_125 : decode cX8_judges 125 = .ok (.iconst 4, 1) := by decide +kernel
theorem dX8_judges_126 : decode cX8_judges 126 = .ok (.iload_n 2, 1) := by decide +kernel
theorem dX8_judges_127 : decode cX8_judges 127 = .ok (.imul, 1) := by decide +kernel
theorem dX8_judges_128 : decode cX8_judges 128 = .ok (.iload 5, 2) := by decide +kernel
theorem dX8_judges_130 : decode cX8_judges 130 = .ok (.iadd, 1) := by decide +kernel
theorem dX8_judges_131 : decode cX8_judges 131 = .ok (.iaload, 1) := by decide +kernel
theorem dX8_judges_132 : decode cX8_judges 132 = .ok (.goto 4, 3) := by decide +kernel
theorem dX8_judges_135 : decode cX8_judges 135 = .ok (.iconst 0, 1) := by decide +kernel
theorem dX8_judges_136 : decode cX8_judges 136 = .ok (.iadd, 1) := by decide +kernel
theorem dX8_judges_137 : decode cX8_judges 137 = .ok (.iastore, 1) := by decide +kernel
theorem dX8_judges_138 : decode cX8_judges 138 = .ok (.iinc 5 1, 3) := by decide +kernel
theorem dX8_judges_141 : decode cX8_judges 141 = .ok (.goto (-48), 3) := by decide +kernel
theorem dX8_judges_144 : decode cX8_judges 144 = .ok (.aload_n 0, 1) := by decide +kernel
theorem dX8_judges_145 : decode cX8_judges 145 = .ok (.getfield 55, 3) := by decide +kernel
theorem dX8_judges_148 : decode cX8_judges 148 = .ok (.iload_n 1, 1) := by decide +kernel
theorem dX8_judges_149 : decode cX8_judges 149 = .ok (.aload_n 0, 1) := by decide +kernel
theorem dX8_judges_150 : decode cX8_judges 150 = .ok (.iload_n 1, 1) := by decide +kernel
theorem dX8_judges_151 : decode cX8_judges 151 = .ok (.invokevirtual 180, 3) := by decide +kernel
theorem dX8_judges_154 : decode cX8_judges 154 = .ok (.iastore, 1) := by decide +kernel
theorem dX8_judges_155 : decode cX8_judges 155 = .ok (.aload_n 0, 1) := by decide +kernel
theorem dX8_judges_156 : decode cX8_judges 156 = .ok (.getfield 52, 3) := by decide +kernel
theorem dX8_judges_159 : decode cX8_judges 159 = .ok (.iload_n 1, 1) := by decide +kernel
theorem dX8_judges_160 : decode cX8_judges 160 = .ok (.aload_n 0, 1) := by decide +kernel
theorem dX8_judges_161 : decode cX8_judges 161 = .ok (.getfield 55, 3) := by decide +kernel
theorem dX8_judges_164 : decode cX8_judges 164 = .ok (.iload_n 1, 1) := by decide +kernel
theorem dX8_judges_165 : decode cX8_judges 165 = .ok (.iaload, 1) := by decide +kernel
theorem dX8_judges_166 : decode cX8_judges 166 = .ok (.iconst (-1), 1) := by decide +kernel
theorem dX8_judges_167 : decode cX8_judges 167 = .ok (.if_icmp .ne 7, 3) := by decide +kernel
theorem dX8_judges_170 : decode cX8_judges 170 = .ok (.iconst 0, 1) := by decide +kernel
theorem dX8_judges_171 : decode cX8_judges 171 = .ok (.goto 23, 3) := by decide +kernel
theorem dX8_judges_174 : decode cX8_judges 174 = .ok (.aload_n 0, 1) := by decide +kernel
theorem dX8_judges_175 : decode cX8_judges 175 = .ok (.iload_n 2, 1) := by decide +kernel
theorem dX8_judges_176 : decode cX8_judges 176 = .ok (.bipush 7, 2) := by decide +kernel
theorem dX8_judges_178 : decode cX8_judges 178 = .ok (.iload_n 1, 1) := by decide +kernel
theorem dX8_judges_179 : decode cX8_judges 179 = .ok (.iadd, 1) := by decide +kernel
theorem dX8_judges_180 : decode cX8_judges 180 = .ok (.bipush 12, 2) := by decide +kernel
theorem dX8_judges_182 : decode cX8_judges 182 = .ok (.iload_n 2, 1) := by decide +kernel
theorem dX8_judges_183 : decode cX8_judges 183 = .ok (.imul, 1) := by decide +kernel
theorem dX8_judges_184 : decode cX8_judges 184 = .ok (.aload_n 0, 1) := by decide +kernel
theorem dX8_judges_185 : decode cX8_judges 185 = .ok (.getfield 55, 3) := by decide +kernel
theorem dX8_judges_188 : decode cX8_judges 188 = .ok (.iload_n 1, 1) := by decide +kernel
theorem dX8_judges_189 : decode cX8_judges 189 = .ok (.iaload, 1) := by decide +kernel
theorem dX8_judges_190 : decode cX8_judges 190 = .ok (.iadd, 1) := by decide +kernel
theorem dX8_judges_191 : decode cX8_judges 191 = .ok (.invokevirtual 176, 3) := by decide +kernel
theorem dX8_judges_194 : decode cX8_judges 194 = .ok (.iastore, 1) := by decide +kernel
theorem dX8_judges_195 : decode cX8_judges 195 = .ok (.aload_n 0, 1) := by decide +kernel
theorem dX8_judges_196 : decode cX8_judges 196 = .ok (.getfield 61, 3) := by decide +kernel
theorem dX8_judges_199 : decode cX8_judges 199 = .ok (.iload_n 1, 1) := by decide +kernel
theorem dX8_judges_200 : decode cX8_judges 200 = .ok (.aload_n 0, 1) := by decide +kernel
theorem dX8_judges_201 : decode cX8_judges 201 = .ok (.getfield 31, 3) := by decide +kernel
theorem dX8_judges_204 : decode cX8_judges 204 = .ok (.iload_n 2, 1) := by decide +kernel
theorem dX8_judges_205 : decode cX8_judges 205 = .ok (.iaload, 1) := by decide +kernel
theorem dX8_judges_206 : decode cX8_judges 206 = .ok (.iastore, 1) := by decide +kernel
theorem dX8_judges_207 : decode cX8_judges 207 = .ok (.aload_n 0, 1) := by decide +kernel
theorem dX8_judges_208 : decode cX8_judges 208 = .ok (.getfield 64, 3) := by decide +kernel
theorem dX8_judges_211 : decode cX8_judges 211 = .ok (.aload_n 0, 1) := by decide +kernel
theorem dX8_judges_212 : decode cX8_judges 212 = .ok (.getfield 43, 3) := by decide +kernel
theorem dX8_judges_215 : decode cX8_judges 215 = .ok (.iload_n 1, 1) := by decide +kernel
theorem dX8_judges_216 : decode cX8_judges 216 = .ok (.iaload, 1) := by decide +kernel
theorem dX8_judges_217 : decode cX8_judges 217 = .ok (.dup2, 1) := by decide +kernel
theorem dX8_judges_218 : decode cX8_judges 218 = .ok (.iaload, 1) := by decide +kernel
theorem dX8_judges_219 : decode cX8_judges 219 = .ok (.iconst 1, 1) := by decide +kernel
theorem dX8_judges_220 : decode cX8_judges 220 = .ok (.iadd, 1) := by decide +kernel
theorem dX8_judges_221 : decode cX8_judges 221 = .ok (.iastore, 1) := by decide +kernel
theorem dX8_judges_222 : decode cX8_judges 222 = .ok (.return_, 1) := by decide +kernel
theorem dX8_enter_0 : decode cX8_enter 0 = .ok (.aload_n 0, 1) := by decide +kernel
theorem dX8_enter_1 : decode cX8_enter 1 = .ok (.iload_n 1, 1) := by decide +kernel
theorem dX8_enter_2 : decode cX8_enter 2 = .ok (.invokestatic 183, 3) := by decide +kernel
theorem dX8_enter_5 : decode cX8_enter 5 = .ok (.ifCond .eq 11, 3) := by decide +kernel
theorem dX8_enter_8 : decode cX8_enter 8 = .ok (.aload_n 0, 1) := by decide +kernel
theorem dX8_enter_9 : decode cX8_enter 9 = .ok (.iload_n 2, 1) := by decide +kernel
theorem dX8_enter_10 : decode cX8_enter 10 = .ok (.invokevirtual 163, 3) := by decide +kernel
theorem dX8_enter_13 : decode cX8_enter 13 = .ok (.ifCond .ne 7, 3) := by decide +kernel
theorem dX8_enter_16 : decode cX8_enter 16 = .ok (.iconst 1, 1) := by decide +kernel
theorem dX8_enter_17 : decode cX8_enter 17 = .ok (.goto 17, 3) := by decide +kernel
theorem dX8_enter_20 : decode cX8_enter 20 = .ok (.aload_n 0, 1) := by decide +kernel
theorem dX8_enter_21 : decode cX8_enter 21 = .ok (.getfield 112, 3) := by decide +kernel
theorem dX8_enter_24 : decode cX8_enter 24 = .ok (.bipush 60, 2) := by decide +kernel
theorem dX8_enter_26 : decode cX8_enter 26 = .ok (.if_icmp .ne 7, 3) := by decide +kernel
theorem dX8_enter_29 : decode cX8_enter 29 = .ok (.iconst 2, 1) := by decide +kernel
theorem dX8_enter_30 : decode cX8_enter 30 = .ok (.goto 4, 3) := by decide +kernel
theorem dX8_enter_33 : decode cX8_enter 33 = .ok (.iconst 0, 1) := by decide +kernel
theorem dX8_enter_34 : decode cX8_enter 34 = .ok (.putfield 102, 3) := by decide +kernel
theorem dX8_enter_37 : decode cX8_enter 37 = .ok (.aload_n 0, 1) := by decide +kernel
theorem dX8_enter_38 : decode cX8_enter 38 = .ok (.getfield 102, 3) := by decide +kernel
theorem dX8_enter_41 : decode cX8_enter 41 = .ok (.ifCond .le 5, 3) := by decide +kernel
theorem dX8_enter_44 : decode cX8_enter 44 = .ok (.iconst 0, 1) := by decide +kernel
theorem dX8_enter_45 : decode cX8_enter 45 = .ok (.ireturn, 1) := by decide +kernel
theorem dX8_enter_46 : decode cX8_enter 46 = .ok (.aload_n 0, 1) := by decide +kernel
theorem dX8_enter_47 : decode cX8_enter 47 = .ok (.getfield 43, 3) := by decide +kernel
theorem dX8_enter_50 : decode cX8_enter 50 = .ok (.aload_n 0, 1) := by decide +kernel
theorem dX8_enter_51 : decode cX8_enter 51 = .ok (.getfield 112, 3) := by decide +kernel
theorem dX8_enter_54 : decode cX8_enter 54 = .ok (.iload_n 1, 1) := by decide +kernel
theorem dX8_enter_55 : decode cX8_enter 55 = .ok (.iastore, 1) := by decide +kernel
theorem dX8_enter_56 : decode cX8_enter 56 = .ok (.aload_n 0, 1) := by decide +kernel
theorem dX8_enter_57 : decode cX8_enter 57 = .ok (.getfield 46, 3) := by decide +kernel
theorem dX8_enter_60 : decode cX8_enter 60 = .ok (.aload_n 0, 1) := by decide +kernel
theorem dX8_enter_61 : decode cX8_enter 61 = .ok (.getfield 112, 3) := by decide +kernel
theorem dX8_enter_64 : decode cX8_enter 64 = .ok (.iload_n 2, 1) := by decide +kernel
theorem dX8_enter_65 : decode cX8_enter 65 = .ok (.iastore, 1) := by decide +kernel
theorem dX8_enter_66 : decode cX8_enter 66 = .ok (.aload_n 0, 1) := by decide +kernel
theorem dX8_enter_67 : decode cX8_enter 67 = .ok (.getfield 49, 3) := by decide +kernel
theorem dX8_enter_70 : decode cX8_enter 70 = .ok (.aload_n 0, 1) := by decide +kernel
theorem dX8_enter_71 : decode cX8_enter 71 = .ok (.getfield 112, 3) := by decide +kernel
theorem dX8_enter_74 : decode cX8_enter 74 = .ok (.aload_n 0, 1) := by decide +kernel
theorem dX8_enter_75 : decode cX8_enter 75 = .ok (.getfield 186, 3) := by decide +kernel
theorem dX8_enter_78 : decode cX8_enter 78 = .ok (.iastore, 1) := by decide +kernel
theorem dX8_enter_79 : decode cX8_enter 79 = .ok (.aload_n 0, 1) := by decide +kernel
theorem dX8_enter_80 : decode cX8_enter 80 = .ok (.getfield 52, 3) := by decide +kernel
theorem dX8_enter_83 : decode cX8_enter 83 = .ok (.aload_n 0, 1) := by decide +kernel
theorem dX8_enter_84 : decode cX8_enter 84 = .ok (.getfield 112, 3) := by decide +kernel
theorem dX8_enter_87 : decode cX8_enter 87 = .ok (.iconst (-1), 1) := by decide +kernel
theorem dX8_enter_88 : decode cX8_enter 88 = .ok (.iastore, 1) := by decide +kernel
theorem dX8_enter_89 : decode cX8_enter 89 = .ok (.aload_n 0, 1) := by decide +kernel
theorem dX8_enter_90 : decode cX8_enter 90 = .ok (.iconst 0, 1) := by decide +kernel
theorem dX8_enter_91 : decode cX8_enter 91 = .ok (.bipush 7, 2) := by decide +kernel
theorem dX8_enter_93 : decode cX8_enter 93 = .ok (.aload_n 0, 1) := by decide +kernel
theorem dX8_enter_94 : decode cX8_enter 94 = .ok (.getfield 112, 3) := by decide +kernel
theorem dX8_enter_97 : decode cX8_enter 97 = .ok (.iadd, 1) := by decide +kernel
theorem dX8_enter_98 : decode cX8_enter 98 = .ok (.invokevirtual 159, 3) := by decide +kernel
theorem dX8_enter_101 : decode cX8_enter 101 = .ok (.aload_n 0, 1) := by decide +kernel
theorem dX8_enter_102 : decode cX8_enter 102 = .ok (.iconst 0, 1) := by decide +kernel
theorem dX8_enter_103 : decode cX8_enter 103 = .ok (.invokevirtual 145, 3) := by decide +kernel
theorem dX8_enter_106 : decode cX8_enter 106 = .ok (.aload_n 0, 1) := by decide +kernel
theorem dX8_enter_107 : decode cX8_enter 107 = .ok (.dup, 1) := by decide +kernel
theorem dX8_enter_108 : decode cX8_enter 108 = .ok (.getfield 112, 3) := by decide +kernel
theorem dX8_enter_111 : decode cX8_enter 111 = .ok (.iconst 1, 1) := by decide +kernel
theorem dX8_enter_112 : decode cX8_enter 112 = .ok (.iadd, 1) := by decide +kernel
theorem dX8_enter_113 : decode cX8_enter 113 = .ok (.putfield 112, 3) := by decide +kernel
theorem dX8_enter_116 : decode cX8_enter 116 = .ok (.aload_n 0, 1) := by decide +kernel
theorem dX8_enter_117 : decode cX8_enter 117 = .ok (.getfield 112, 3) := by decide +kernel
theorem dX8_enter_120 : decode cX8_enter 120 = .ok (.iconst 1, 1) := by decide +kernel
theorem dX8_enter_121 : decode cX8_enter 121 = .ok (.isub, 1) := by decide +kernel
theorem dX8_enter_122 : decode cX8_enter 122 = .ok (.ireturn, 1) := by decide +kernel
theorem dX8_pass_0 : decode cX8_pass 0 = .ok (.aload_n 0, 1) := by decide +kernel
theorem dX8_pass_1 : decode cX8_pass 1 = .ok (.iload_n 1, 1) := by decide +kernel
theorem dX8_pass_2 : decode cX8_pass 2 = .ok (.iconst 1, 1) := by decide +kernel
theorem dX8_pass_3 : decode cX8_pass 3 = .ok (.sipush 300, 3) := by decide +kernel
theorem dX8_pass_6 : decode cX8_pass 6 = .ok (.invokestatic 108, 3) := by decide +kernel
theorem dX8_pass_9 : decode cX8_pass 9 = .ok (.ifCond .ne 7, 3) := by decide +kernel
theorem dX8_pass_12 : decode cX8_pass 12 = .ok (.iconst 1, 1) := by decide +kernel
theorem dX8_pass_13 : decode cX8_pass 13 = .ok (.goto 20, 3) := by decide +kernel
theorem dX8_pass_16 : decode cX8_pass 16 = .ok (.aload_n 0, 1) := by decide +kernel
theorem dX8_pass_17 : decode cX8_pass 17 = .ok (.getfield 186, 3) := by decide +kernel
theorem dX8_pass_20 : decode cX8_pass 20 = .ok (.iload_n 1, 1) := by decide +kernel
theorem dX8_pass_21 : decode cX8_pass 21 = .ok (.iadd, 1) := by decide +kernel
theorem dX8_pass_22 : decode cX8_pass 22 = .ok (.sipush 9999, 3) := by decide +kernel
theorem dX8_pass_25 : decode cX8_pass 25 = .ok (.if_icmp .le 7, 3) := by decide +kernel
theorem dX8_pass_28 : decode cX8_pass 28 = .ok (.iconst 2, 1) := by decide +kernel
theorem dX8_pass_29 : decode cX8_pass 29 = .ok (.goto 4, 3) := by decide +kernel
theorem dX8_pass_32 : decode cX8_pass 32 = .ok (.iconst 0, 1) := by decide +kernel
theorem dX8_pass_33 : decode cX8_pass 33 = .ok (.putfield 102, 3) := by decide +kernel
theorem dX8_pass_36 : decode cX8_pass 36 = .ok (.aload_n 0, 1) := by decide +kernel
theorem dX8_pass_37 : decode cX8_pass 37 = .ok (.dup, 1) := by decide +kernel
theorem dX8_pass_38 : decode cX8_pass 38 = .ok (.getfield 186, 3) := by decide +kernel
theorem dX8_pass_41 : decode cX8_pass 41 = .ok (.aload_n 0, 1) := by decide +kernel
theorem dX8_pass_42 : decode cX8_pass 42 = .ok (.getfield 102, 3) := by decide +kernel
theorem dX8_pass_45 : decode cX8_pass 45 = .ok (.ifCond .ne 7, 3) := by decide +kernel
theorem dX8_pass_48 : decode cX8_pass 48 = .ok (.iload_n 1, 1) := by decide +kernel
theorem dX8_pass_49 : decode cX8_pass 49 = .ok (.goto 4, 3) := by decide +kernel
theorem dX8_pass_52 : decode cX8_pass 52 = .ok (.iconst 0, 1) := by decide +kernel
theorem dX8_pass_53 : decode cX8_pass 53 = .ok (.iadd, 1) := by decide +kernel
theorem dX8_pass_54 : decode cX8_pass 54 = .ok (.putfield 186, 3) := by decide +kernel
theorem dX8_pass_57 : decode cX8_pass 57 = .ok (.aload_n 0, 1) := by decide +kernel
theorem dX8_pass_58 : decode cX8_pass 58 = .ok (.getfield 102, 3) := by decide +kernel
theorem dX8_pass_61 : decode cX8_pass 61 = .ok (.ifCond .le 7, 3) := by decide +kernel
theorem dX8_pass_64 : decode cX8_pass 64 = .ok (.iconst 0, 1) := by decide +kernel
theorem dX8_pass_65 : decode cX8_pass 65 = .ok (.goto 7, 3) := by decide +kernel
theorem dX8_pass_68 : decode cX8_pass 68 = .ok (.aload_n 0, 1) := by decide +kernel
theorem dX8_pass_69 : decode cX8_pass 69 = .ok (.getfield 186, 3) := by decide +kernel
theorem dX8_pass_72 : decode cX8_pass 72 = .ok (.ireturn, 1) := by decide +kernel
theorem dX8_judge_0 : decode cX8_judge 0 = .ok (.aload_n 0, 1) := by decide +kernel
theorem dX8_judge_1 : decode cX8_judge 1 = .ok (.iconst 0, 1) := by decide +kernel
theorem dX8_judge_2 : decode cX8_judge 2 = .ok (.putfield 102, 3) := by decide +kernel
theorem dX8_judge_5 : decode cX8_judge 5 = .ok (.iconst (-1), 1) := by decide +kernel
theorem dX8_judge_6 : decode cX8_judge 6 = .ok (.istore_n 1, 1) := by decide +kernel
theorem dX8_judge_7 : decode cX8_judge 7 = .ok (.iconst 0, 1) := by decide +kernel
theorem dX8_judge_8 : decode cX8_judge 8 = .ok (.istore_n 2, 1) := by decide +kernel
theorem dX8_judge_9 : decode cX8_judge 9 = .ok (.iload_n 2, 1) := by decide +kernel
theorem dX8_judge_10 : decode cX8_judge 10 = .ok (.aload_n 0, 1) := by decide +kernel
theorem dX8_judge_11 : decode cX8_judge 11 = .ok (.getfield 112, 3) := by decide +kernel
theorem dX8_judge_14 : decode cX8_judge 14 = .ok (.if_icmp .ge 65, 3) := by decide +kernel
theorem dX8_judge_17 : decode cX8_judge 17 = .ok (.aload_n 0, 1) := by decide +kernel
theorem dX8_judge_18 : decode cX8_judge 18 = .ok (.getfield 52, 3) := by decide +kernel
theorem dX8_judge_21 : decode cX8_judge 21 = .ok (.iload_n 2, 1) := by decide +kernel
theorem dX8_judge_22 : decode cX8_judge 22 = .ok (.iaload, 1) := by decide +kernel
theorem dX8_judge_23 : decode cX8_judge 23 = .ok (.iconst (-1), 1) := by decide +kernel
theorem dX8_judge_24 : decode cX8_judge 24 = .ok (.if_icmp .ne 37, 3) := by decide +kernel
theorem dX8_judge_27 : decode cX8_judge 27 = .ok (.iload_n 1, 1) := by decide +kernel
theorem dX8_judge_28 : decode cX8_judge 28 = .ok (.iconst (-1), 1) := by decide +kernel
theorem dX8_judge_29 : decode cX8_judge 29 = .ok (.if_icmp .eq 28, 3) := by decide +kernel
theorem dX8_judge_32 : decode cX8_judge 32 = .ok (.aload_n 0, 1) := by decide +kernel
theorem dX8_judge_33 : decode cX8_judge 33 = .ok (.getfield 64, 3) := by decide +kernel
theorem dX8_judge_36 : decode cX8_judge 36 = .ok (.aload_n 0, 1) := by decide +kernel
theorem dX8_judge_37 : decode cX8_judge 37 = .ok (.getfield 43, 3) := by decide +kernel
theorem dX8_judge_40 : decode cX8_judge 40 = .ok (.iload_n 2, 1) := by decide +kernel
theorem dX8_judge_41 : decode cX8_judge 41 = .ok (.iaload, 1) := by decide +kernel
theorem dX8_judge_42 : decode cX8_judge 42 = .ok (.iaload, 1) := by decide +kernel
theorem dX8_judge_43 : decode cX8_judge 43 = .ok (.aload_n 0, 1) := by decide +kernel
theorem dX8_judge_44 : decode cX8_judge 44 = .ok (.getfield 64, 3) := by decide +kernel
theorem dX8_judge_47 : decode cX8_judge 47 = .ok (.aload_n 0, 1) := by decide +kernel
theorem dX8_judge_48 : decode cX8_judge 48 = .ok (.getfield 43, 3) := by decide +kernel
theorem dX8_judge_51 : decode cX8_judge 51 = .ok (.iload_n 1, 1) := by decide +kernel
theorem dX8_judge_52 : decode cX8_judge 52 = .ok (.iaload, 1) := by decide +kernel
theorem dX8_judge_53 : decode cX8_judge 53 = .ok (.iaload, 1) := by decide +kernel
theorem dX8_judge_54 : decode cX8_judge 54 = .ok (.if_icmp .ge 7, 3) := by decide +kernel
theorem dX8_judge_57 : decode cX8_judge 57 = .ok (.iconst 1, 1) := by decide +kernel
theorem dX8_judge_58 : decode cX8_judge 58 = .ok (.goto 4, 3) := by decide +kernel
theorem dX8_judge_61 : decode cX8_judge 61 = .ok (.iconst 0, 1) := by decide +kernel
theorem dX8_judge_62 : decode cX8_judge 62 = .ok (.istore_n 3, 1) := by decide +kernel
theorem dX8_judge_63 : decode cX8_judge 63 = .ok (.iload_n 3, 1) := by decide +kernel
theorem dX8_judge_64 : decode cX8_judge 64 = .ok (.ifCond .eq 7, 3) := by decide +kernel
theorem dX8_judge_67 : decode cX8_judge 67 = .ok (.iload_n 2, 1) := by decide +kernel
theorem dX8_judge_68 : decode cX8_judge 68 = .ok (.goto 4, 3) := by decide +kernel
theorem dX8_judge_71 : decode cX8_judge 71 = .ok (.iload_n 1, 1) := by decide +kernel
theorem dX8_judge_72 : decode cX8_judge 72 = .ok (.istore_n 1, 1) := by decide +kernel
theorem dX8_judge_73 : decode cX8_judge 73 = .ok (.iinc 2 1, 3) := by decide +kernel
theorem dX8_judge_76 : decode cX8_judge 76 = .ok (.goto (-67), 3) := by decide +kernel
theorem dX8_judge_79 : decode cX8_judge 79 = .ok (.iload_n 1, 1) := by decide +kernel
theorem dX8_judge_80 : decode cX8_judge 80 = .ok (.iconst (-1), 1) := by decide +kernel
theorem dX8_judge_81 : decode cX8_judge 81 = .ok (.if_icmp .eq 8, 3) := by decide +kernel
theorem dX8_judge_84 : decode cX8_judge 84 = .ok (.aload_n 0, 1) := by decide +kernel
theorem dX8_judge_85 : decode cX8_judge 85 = .ok (.iload_n 1, 1) := by decide +kernel
theorem dX8_judge_86 : decode cX8_judge 86 = .ok (.invokevirtual 189, 3) := by decide +kernel
theorem dX8_judge_89 : decode cX8_judge 89 = .ok (.iload_n 1, 1) := by decide +kernel
theorem dX8_judge_90 : decode cX8_judge 90 = .ok (.ireturn, 1) := by decide +kernel
theorem dX8_rejudge_0 : decode cX8_rejudge 0 = .ok (.aload_n 0, 1) := by decide +kernel
theorem dX8_rejudge_1 : decode cX8_rejudge 1 = .ok (.aload_n 0, 1) := by decide +kernel
theorem dX8_rejudge_2 : decode cX8_rejudge 2 = .ok (.iload_n 1, 1) := by decide +kernel
theorem dX8_rejudge_3 : decode cX8_rejudge 3 = .ok (.invokevirtual 163, 3) := by decide +kernel
theorem dX8_rejudge_6 : decode cX8_rejudge 6 = .ok (.ifCond .eq 7, 3) := by decide +kernel
theorem dX8_rejudge_9 : decode cX8_rejudge 9 = .ok (.iconst 0, 1) := by decide +kernel
theorem dX8_rejudge_10 : decode cX8_rejudge 10 = .ok (.goto 4, 3) := by decide +kernel
theorem dX8_rejudge_13 : decode cX8_rejudge 13 = .ok (.iconst 1, 1) := by decide +kernel
theorem dX8_rejudge_14 : decode cX8_rejudge 14 = .ok (.putfield 102, 3) := by decide +kernel
theorem dX8_rejudge_17 : decode cX8_rejudge 17 = .ok (.iconst 0, 1) := by decide +kernel
theorem dX8_rejudge_18 : decode cX8_rejudge 18 = .ok (.istore_n 2, 1) := by decide +kernel
theorem dX8_rejudge_19 : decode cX8_rejudge 19 = .ok (.iconst 0, 1) := by decide +kernel
theorem dX8_rejudge_20 : decode cX8_rejudge 20 = .ok (.istore_n 3, 1) := by decide +kernel
theorem dX8_rejudge_21 : decode cX8_rejudge 21 = .ok (.iload_n 3, 1) := by decide +kernel
theorem dX8_rejudge_22 : decode cX8_rejudge 22 = .ok (.aload_n 0, 1) := by decide +kernel
theorem dX8_rejudge_23 : decode cX8_rejudge 23 = .ok (.getfield 112, 3) := by decide +kernel
theorem dX8_rejudge_26 : decode cX8_rejudge 26 = .ok (.if_icmp .ge 61, 3) := by decide +kernel
theorem dX8_rejudge_29 : decode cX8_rejudge 29 = .ok (.aload_n 0, 1) := by decide +kernel
theorem dX8_rejudge_30 : decode cX8_rejudge 30 = .ok (.getfield 102, 3) := by decide +kernel
theorem dX8_rejudge_33 : decode cX8_rejudge 33 = .ok (.ifCond .ne 54, 3) := by decide +kernel
theorem dX8_rejudge_36 : decode cX8_rejudge 36 = .ok (.aload_n 0, 1) := by decide +kernel
theorem dX8_rejudge_37 : decode cX8_rejudge 37 = .ok (.getfield 46, 3) := by decide +kernel
theorem dX8_rejudge_40 : decode cX8_rejudge 40 = .ok (.iload_n 3, 1) := by decide +kernel
theorem dX8_rejudge_41 : decode cX8_rejudge 41 = .ok (.iaload, 1) := by decide +kernel
theorem dX8_rejudge_42 : decode cX8_rejudge 42 = .ok (.iload_n 1, 1) := by decide +kernel
theorem dX8_rejudge_43 : decode cX8_rejudge 43 = .ok (.if_icmp .ne 38, 3) := by decide +kernel
theorem dX8_rejudge_46 : decode cX8_rejudge 46 = .ok (.aload_n 0, 1) := by decide +kernel
theorem dX8_rejudge_47 : decode cX8_rejudge 47 = .ok (.getfield 52, 3) := by decide +kernel
theorem dX8_rejudge_50 : decode cX8_rejudge 50 = .ok (.iload_n 3, 1) := by decide +kernel
theorem dX8_rejudge_51 : decode cX8_rejudge 51 = .ok (.iaload, 1) := by decide +kernel
theorem dX8_rejudge_52 : decode cX8_rejudge 52 = .ok (.iconst (-1), 1) := by decide +kernel
theorem dX8_rejudge_53 : decode cX8_rejudge 53 = .ok (.if_icmp .eq 28, 3) := by decide +kernel
theorem dX8_rejudge_56 : decode cX8_rejudge 56 = .ok (.aload_n 0, 1) := by decide +kernel
theorem dX8_rejudge_57 : decode cX8_rejudge 57 = .ok (.getfield 61, 3) := by decide +kernel
theorem dX8_rejudge_60 : decode cX8_rejudge 60 = .ok (.iload_n 3, 1) := by decide +kernel
theorem dX8_rejudge_61 : decode cX8_rejudge 61 = .ok (.iaload, 1) := by decide +kernel
theorem dX8_rejudge_62 : decode cX8_rejudge 62 = .ok (.aload_n 0, 1) := by decide +kernel
theorem dX8_rejudge_63 : decode cX8_rejudge 63 = .ok (.getfield 31, 3) := by decide +kernel
theorem dX8_rejudge_66 : decode cX8_rejudge 66 = .ok (.iload_n 1, 1) := by decide +kernel
theorem dX8_rejudge_67 : decode cX8_rejudge 67 = .ok (.iaload, 1) := by decide +kernel
theorem dX8_rejudge_68 : decode cX8_rejudge 68 = .ok (.if_icmp .eq 13, 3) := by decide +kernel
theorem dX8_rejudge_71 : decode cX8_rejudge 71 = .ok (.aload_n 0, 1) := by decide +kernel
theorem dX8_rejudge_72 : decode cX8_rejudge 72 = .ok (.getfield 52, 3) := by decide +kernel
theorem dX8_rejudge_75 : decode cX8_rejudge 75 = .ok (.iload_n 3, 1) := by decide +kernel
theorem dX8_rejudge_76 : decode cX8_rejudge 76 = .ok (.iconst (-1), 1) := by decide +kernel
theorem dX8_rejudge_77 : decode cX8_rejudge 77 = .ok (.iastore, 1) := by decide +kernel
theorem dX8_rejudge_78 : decode cX8_rejudge 78 = .ok (.iinc 2 1, 3) := by decide +kernel
theorem dX8_rejudge_81 : decode cX8_rejudge 81 = .ok (.iinc 3 1, 3) := by decide +kernel
theorem dX8_rejudge_84 : decode cX8_rejudge 84 = .ok (.goto (-63), 3) := by decide +kernel
theorem dX8_rejudge_87 : decode cX8_rejudge 87 = .ok (.iload_n 2, 1) := by decide +kernel
theorem dX8_rejudge_88 : decode cX8_rejudge 88 = .ok (.ireturn, 1) := by decide +kernel
theorem dX8_entry_0 : decode cX8_entry 0 = .ok (.aload_n 0, 1) := by decide +kernel
theorem dX8_entry_1 : decode cX8_entry 1 = .ok (.aload_n 0, 1) := by decide +kernel
theorem dX8_entry_2 : decode cX8_entry 2 = .ok (.iload_n 1, 1) := by decide +kernel
theorem dX8_entry_3 : decode cX8_entry 3 = .ok (.invokevirtual 192, 3) := by decide +kernel
theorem dX8_entry_6 : decode cX8_entry 6 = .ok (.ifCond .ne 7, 3) := by decide +kernel
theorem dX8_entry_9 : decode cX8_entry 9 = .ok (.iconst 1, 1) := by decide +kernel
theorem dX8_entry_10 : decode cX8_entry 10 = .ok (.goto 18, 3) := by decide +kernel
theorem dX8_entry_13 : decode cX8_entry 13 = .ok (.iload_n 2, 1) := by decide +kernel
theorem dX8_entry_14 : decode cX8_entry 14 = .ok (.iconst 0, 1) := by decide +kernel
theorem dX8_entry_15 : decode cX8_entry 15 = .ok (.bipush 6, 2) := by decide +kernel
theorem dX8_entry_17 : decode cX8_entry 17 = .ok (.invokestatic 108, 3) := by decide +kernel
theorem dX8_entry_20 : decode cX8_entry 20 = .ok (.ifCond .ne 7, 3) := by decide +kernel
theorem dX8_entry_23 : decode cX8_entry 23 = .ok (.iconst 2, 1) := by decide +kernel
theorem dX8_entry_24 : decode cX8_entry 24 = .ok (.goto 4, 3) := by decide +kernel
theorem dX8_entry_27 : decode cX8_entry 27 = .ok (.iconst 0, 1) := by decide +kernel
theorem dX8_entry_28 : decode cX8_entry 28 = .ok (.putfield 102, 3) := by decide +kernel
theorem dX8_entry_31 : decode cX8_entry 31 = .ok (.aload_n 0, 1) := by decide +kernel
theorem dX8_entry_32 : decode cX8_entry 32 = .ok (.getfield 102, 3) := by decide +kernel
theorem dX8_entry_35 : decode cX8_entry 35 = .ok (.ifCond .le 5, 3) := by decide +kernel
theorem dX8_entry_38 : decode cX8_entry 38 = .ok (.iconst 0, 1) := by decide +kernel
theorem dX8_entry_39 : decode cX8_entry 39 = .ok (.ireturn, 1) := by decide +kernel
theorem dX8_entry_40 : decode cX8_entry 40 = .ok (.aload_n 0, 1) := by decide +kernel
theorem dX8_entry_41 : decode cX8_entry 41 = .ok (.getfield 52, 3) := by decide +kernel
theorem dX8_entry_44 : decode cX8_entry 44 = .ok (.iload_n 1, 1) := by decide +kernel
theorem dX8_entry_45 : decode cX8_entry 45 = .ok (.iaload, 1) := by decide +kernel
theorem dX8_entry_46 : decode cX8_entry 46 = .ok (.iconst (-1), 1) := by decide +kernel
theorem dX8_entry_47 : decode cX8_entry 47 = .ok (.if_icmp .ne 7, 3) := by decide +kernel
theorem dX8_entry_50 : decode cX8_entry 50 = .ok (.iconst 1, 1) := by decide +kernel
theorem dX8_entry_51 : decode cX8_entry 51 = .ok (.goto 4, 3) := by decide +kernel
theorem dX8_entry_54 : decode cX8_entry 54 = .ok (.iconst 0, 1) := by decide +kernel
theorem dX8_entry_55 : decode cX8_entry 55 = .ok (.istore_n 3, 1) := by decide +kernel
theorem dX8_entry_56 : decode cX8_entry 56 = .ok (.iload_n 2, 1) := by decide +kernel
theorem dX8_entry_57 : decode cX8_entry 57 = .ok (.tableswitch 105 0 5 #[39, 46, 61, 76, 91, 98], 39) := by decide +kernel
theorem dX8_entry_96 : decode cX8_entry 96 = .ok (.aload_n 0, 1) := by decide +kernel
theorem dX8_entry_97 : decode cX8_entry 97 = .ok (.getfield 52, 3) := by decide +kernel
theorem dX8_entry_100 : decode cX8_entry 100 = .ok (.iload_n 1, 1) := by decide +kernel
theorem dX8_entry_101 : decode cX8_entry 101 = .ok (.iaload, 1) := by decide +kernel
theorem dX8_entry_102 : decode cX8_entry 102 = .ok (.ireturn, 1) := by decide +kernel
theorem dX8_entry_103 : decode cX8_entry 103 = .ok (.iload_n 3, 1) := by decide +kernel
theorem dX8_entry_104 : decode cX8_entry 104 = .ok (.ifCond .eq 7, 3) := by decide +kernel
theorem dX8_entry_107 : decode cX8_entry 107 = .ok (.iconst (-1), 1) := by decide +kernel
theorem dX8_entry_108 : decode cX8_entry 108 = .ok (.goto 9, 3) := by decide +kernel
theorem dX8_entry_111 : decode cX8_entry 111 = .ok (.aload_n 0, 1) := by decide +kernel
theorem dX8_entry_112 : decode cX8_entry 112 = .ok (.getfield 55, 3) := by decide +kernel
theorem dX8_entry_115 : decode cX8_entry 115 = .ok (.iload_n 1, 1) := by decide +kernel
theorem dX8_entry_116 : decode cX8_entry 116 = .ok (.iaload, 1) := by decide +kernel
theorem dX8_entry_117 : decode cX8_entry 117 = .ok (.ireturn, 1) := by decide +kernel
theorem dX8_entry_118 : decode cX8_entry 118 = .ok (.iload_n 3, 1) := by decide +kernel
theorem dX8_entry_119 : decode cX8_entry 119 = .ok (.ifCond .eq 7, 3) := by decide +kernel
theorem dX8_entry_122 : decode cX8_entry 122 = .ok (.iconst 0, 1) := by decide +kernel
theorem dX8_entry_123 : decode cX8_entry 123 = .ok (.goto 9, 3) := by decide +kernel
theorem dX8_entry_126 : decode cX8_entry 126 = .ok (.aload_n 0, 1) := by decide +kernel
theorem dX8_entry_127 : decode cX8_entry 127 = .ok (.getfield 58, 3) := by decide +kernel
theorem dX8_entry_130 : decode cX8_entry 130 = .ok (.iload_n 1, 1) := by decide +kernel
theorem dX8_entry_131 : decode cX8_entry 131 = .ok (.iaload, 1) := by decide +kernel
theorem dX8_entry_132 : decode cX8_entry 132 = .ok (.ireturn, 1) := by decide +kernel
theorem dX8_entry_133 : decode cX8_entry 133 = .ok (.iload_n 3, 1) := by decide +kernel
theorem dX8_entry_134 : decode cX8_entry 134 = .ok (.ifCond .eq 7, 3) := by decide +kernel
theorem dX8_entry_137 : decode cX8_entry 137 = .ok (.iconst (-1), 1) := by decide +kernel
theorem dX8_entry_138 : decode cX8_entry 138 = .ok (.goto 9, 3) := by decide +kernel
theorem dX8_entry_141 : decode cX8_entry 141 = .ok (.aload_n 0, 1) := by decide +kernel
theorem dX8_entry_142 : decode cX8_entry 142 = .ok (.getfield 61, 3) := by decide +kernel
theorem dX8_entry_145 : decode cX8_entry 145 = .ok (.iload_n 1, 1) := by decide +kernel
theorem dX8_entry_146 : decode cX8_entry 146 = .ok (.iaload, 1) := by decide +kernel
theorem dX8_entry_147 : decode cX8_entry 147 = .ok (.ireturn, 1) := by decide +kernel
theorem dX8_entry_148 : decode cX8_entry 148 = .ok (.aload_n 0, 1) := by decide +kernel
theorem dX8_entry_149 : decode cX8_entry 149 = .ok (.getfield 43, 3) := by decide +kernel
theorem dX8_entry_152 : decode cX8_entry 152 = .ok (.iload_n 1, 1) := by decide +kernel
theorem dX8_entry_153 : decode cX8_entry 153 = .ok (.iaload, 1) := by decide +kernel
theorem dX8_entry_154 : decode cX8_entry 154 = .ok (.ireturn, 1) := by decide +kernel
theorem dX8_entry_155 : decode cX8_entry 155 = .ok (.aload_n 0, 1) := by decide +kernel
theorem dX8_entry_156 : decode cX8_entry 156 = .ok (.getfield 46, 3) := by decide +kernel
theorem dX8_entry_159 : decode cX8_entry 159 = .ok (.iload_n 1, 1) := by decide +kernel
theorem dX8_entry_160 : decode cX8_entry 160 = .ok (.iaload, 1) := by decide +kernel
theorem dX8_entry_161 : decode cX8_entry 161 = .ok (.ireturn, 1) := by decide +kernel
theorem dX8_entry_162 : decode cX8_entry 162 = .ok (.aload_n 0, 1) := by decide +kernel
theorem dX8_entry_163 : decode cX8_entry 163 = .ok (.getfield 49, 3) := by decide +kernel
theorem dX8_entry_166 : decode cX8_entry 166 = .ok (.iload_n 1, 1) := by decide +kernel
theorem dX8_entry_167 : decode cX8_entry 167 = .ok (.iaload, 1) := by decide +kernel
theorem dX8_entry_168 : decode cX8_entry 168 = .ok (.ireturn, 1) := by decide +kernel
theorem dX8_areAlike_0 : decode cX8_areAlike 0 = .ok (.aload_n 0, 1) := by decide +kernel
theorem dX8_areAlike_1 : decode cX8_areAlike 1 = .ok (.getfield 13, 3) := by decide +kernel
theorem dX8_areAlike_4 : decode cX8_areAlike 4 = .ok (.iload_n 1, 1) := by decide +kernel
theorem dX8_areAlike_5 : decode cX8_areAlike 5 = .ok (.iaload, 1) := by decide +kernel
theorem dX8_areAlike_6 : decode cX8_areAlike 6 = .ok (.bipush 7, 2) := by decide +kernel
theorem dX8_areAlike_8 : decode cX8_areAlike 8 = .ok (.if_icmp .eq 14, 3) := by decide +kernel
theorem dX8_areAlike_11 : decode cX8_areAlike 11 = .ok (.aload_n 0, 1) := by decide +kernel
theorem dX8_areAlike_12 : decode cX8_areAlike 12 = .ok (.getfield 13, 3) := by decide +kernel
theorem dX8_areAlike_15 : decode cX8_areAlike 15 = .ok (.iload_n 1, 1) := by decide +kernel
theorem dX8_areAlike_16 : decode cX8_areAlike 16 = .ok (.iaload, 1) := by decide +kernel
theorem dX8_areAlike_17 : decode cX8_areAlike 17 = .ok (.bipush 8, 2) := by decide +kernel
theorem dX8_areAlike_19 : decode cX8_areAlike 19 = .ok (.if_icmp .ne 7, 3) := by decide +kernel
theorem dX8_areAlike_22 : decode cX8_areAlike 22 = .ok (.iconst 1, 1) := by decide +kernel
theorem dX8_areAlike_23 : decode cX8_areAlike 23 = .ok (.goto 4, 3) := by decide +kernel
theorem dX8_areAlike_26 : decode cX8_areAlike 26 = .ok (.iconst 0, 1) := by decide +kernel
theorem dX8_areAlike_27 : decode cX8_areAlike 27 = .ok (.istore_n 3, 1) := by decide +kernel
theorem dX8_areAlike_28 : decode cX8_areAlike 28 = .ok (.aload_n 0, 1) := by decide +kernel
theorem dX8_areAlike_29 : decode cX8_areAlike 29 = .ok (.getfield 13, 3) := by decide +kernel
theorem dX8_areAlike_32 : decode cX8_areAlike 32 = .ok (.iload_n 1, 1) := by decide +kernel
theorem dX8_areAlike_33 : decode cX8_areAlike 33 = .ok (.iaload, 1) := by decide +kernel
theorem dX8_areAlike_34 : decode cX8_areAlike 34 = .ok (.aload_n 0, 1) := by decide +kernel
theorem dX8_areAlike_35 : decode cX8_areAlike 35 = .ok (.getfield 13, 3) := by decide +kernel
theorem dX8_areAlike_38 : decode cX8_areAlike 38 = .ok (.iload_n 2, 1) := by decide +kernel
theorem dX8_areAlike_39 : decode cX8_areAlike 39 = .ok (.iaload, 1) := by decide +kernel
theorem dX8_areAlike_40 : decode cX8_areAlike 40 = .ok (.if_icmp .ne 26, 3) := by decide +kernel
theorem dX8_areAlike_43 : decode cX8_areAlike 43 = .ok (.iload_n 3, 1) := by decide +kernel
theorem dX8_areAlike_44 : decode cX8_areAlike 44 = .ok (.ifCond .eq 18, 3) := by decide +kernel
theorem dX8_areAlike_47 : decode cX8_areAlike 47 = .ok (.aload_n 0, 1) := by decide +kernel
theorem dX8_areAlike_48 : decode cX8_areAlike 48 = .ok (.getfield 16, 3) := by decide +kernel
theorem dX8_areAlike_51 : decode cX8_areAlike 51 = .ok (.iload_n 1, 1) := by decide +kernel
theorem dX8_areAlike_52 : decode cX8_areAlike 52 = .ok (.iaload, 1) := by decide +kernel
theorem dX8_areAlike_53 : decode cX8_areAlike 53 = .ok (.aload_n 0, 1) := by decide +kernel
theorem dX8_areAlike_54 : decode cX8_areAlike 54 = .ok (.getfield 16, 3) := by decide +kernel
theorem dX8_areAlike_57 : decode cX8_areAlike 57 = .ok (.iload_n 2, 1) := by decide +kernel
theorem dX8_areAlike_58 : decode cX8_areAlike 58 = .ok (.iaload, 1) := by decide +kernel
theorem dX8_areAlike_59 : decode cX8_areAlike 59 = .ok (.if_icmp .ne 7, 3) := by decide +kernel
theorem dX8_areAlike_62 : decode cX8_areAlike 62 = .ok (.iconst 1, 1) := by decide +kernel
theorem dX8_areAlike_63 : decode cX8_areAlike 63 = .ok (.goto 4, 3) := by decide +kernel
theorem dX8_areAlike_66 : decode cX8_areAlike 66 = .ok (.iconst 0, 1) := by decide +kernel
theorem dX8_areAlike_67 : decode cX8_areAlike 67 = .ok (.ireturn, 1) := by decide +kernel
theorem dX8_likeness_0 : decode cX8_likeness 0 = .ok (.aload_n 0, 1) := by decide +kernel
theorem dX8_likeness_1 : decode cX8_likeness 1 = .ok (.aload_n 0, 1) := by decide +kernel
theorem dX8_likeness_2 : decode cX8_likeness 2 = .ok (.iload_n 1, 1) := by decide +kernel
theorem dX8_likeness_3 : decode cX8_likeness 3 = .ok (.invokevirtual 192, 3) := by decide +kernel
theorem dX8_likeness_6 : decode cX8_likeness 6 = .ok (.ifCond .eq 15, 3) := by decide +kernel
theorem dX8_likeness_9 : decode cX8_likeness 9 = .ok (.aload_n 0, 1) := by decide +kernel
theorem dX8_likeness_10 : decode cX8_likeness 10 = .ok (.iload_n 2, 1) := by decide +kernel
theorem dX8_likeness_11 : decode cX8_likeness 11 = .ok (.invokevirtual 192, 3) := by decide +kernel
theorem dX8_likeness_14 : decode cX8_likeness 14 = .ok (.ifCond .eq 7, 3) := by decide +kernel
theorem dX8_likeness_17 : decode cX8_likeness 17 = .ok (.iconst 0, 1) := by decide +kernel
theorem dX8_likeness_18 : decode cX8_likeness 18 = .ok (.goto 4, 3) := by decide +kernel
theorem dX8_likeness_21 : decode cX8_likeness 21 = .ok (.iconst 1, 1) := by decide +kernel
theorem dX8_likeness_22 : decode cX8_likeness 22 = .ok (.putfield 102, 3) := by decide +kernel
theorem dX8_likeness_25 : decode cX8_likeness 25 = .ok (.aload_n 0, 1) := by decide +kernel
theorem dX8_likeness_26 : decode cX8_likeness 26 = .ok (.getfield 102, 3) := by decide +kernel
theorem dX8_likeness_29 : decode cX8_likeness 29 = .ok (.ifCond .le 5, 3) := by decide +kernel
theorem dX8_likeness_32 : decode cX8_likeness 32 = .ok (.iconst 0, 1) := by decide +kernel
theorem dX8_likeness_33 : decode cX8_likeness 33 = .ok (.ireturn, 1) := by decide +kernel
theorem dX8_likeness_34 : decode cX8_likeness 34 = .ok (.bipush 7, 2) := by decide +kernel
theorem dX8_likeness_36 : decode cX8_likeness 36 = .ok (.iload_n 1, 1) := by decide +kernel
theorem dX8_likeness_37 : decode cX8_likeness 37 = .ok (.iadd, 1) := by decide +kernel
theorem dX8_likeness_38 : decode cX8_likeness 38 = .ok (.istore_n 3, 1) := by decide +kernel
theorem dX8_likeness_39 : decode cX8_likeness 39 = .ok (.bipush 7, 2) := by decide +kernel
theorem dX8_likeness_41 : decode cX8_likeness 41 = .ok (.iload_n 2, 1) := by decide +kernel
theorem dX8_likeness_42 : decode cX8_likeness 42 = .ok (.iadd, 1) := by decide +kernel
theorem dX8_likeness_43 : decode cX8_likeness 43 = .ok (.istore 4, 2) := by decide +kernel
theorem dX8_likeness_45 : decode cX8_likeness 45 = .ok (.aload_n 0, 1) := by decide +kernel
theorem dX8_likeness_46 : decode cX8_likeness 46 = .ok (.getfield 7, 3) := by decide +kernel
theorem dX8_likeness_49 : decode cX8_likeness 49 = .ok (.iload_n 3, 1) := by decide +kernel
theorem dX8_likeness_50 : decode cX8_likeness 50 = .ok (.iaload, 1) := by decide +kernel
theorem dX8_likeness_51 : decode cX8_likeness 51 = .ok (.aload_n 0, 1) := by decide +kernel
theorem dX8_likeness_52 : decode cX8_likeness 52 = .ok (.getfield 7, 3) := by decide +kernel
theorem dX8_likeness_55 : decode cX8_likeness 55 = .ok (.iload 4, 2) := by decide +kernel
theorem dX8_likeness_57 : decode cX8_likeness 57 = .ok (.iaload, 1) := by decide +kernel
theorem dX8_likeness_58 : decode cX8_likeness 58 = .ok (.if_icmp .le 12, 3) := by decide +kernel
theorem dX8_likeness_61 : decode cX8_likeness 61 = .ok (.aload_n 0, 1) := by decide +kernel
theorem dX8_likeness_62 : decode cX8_likeness 62 = .ok (.getfield 7, 3) := by decide +kernel
theorem dX8_likeness_65 : decode cX8_likeness 65 = .ok (.iload_n 3, 1) := by decide +kernel
theorem dX8_likeness_66 : decode cX8_likeness 66 = .ok (.iaload, 1) := by decide +kernel
theorem dX8_likeness_67 : decode cX8_likeness 67 = .ok (.goto 10, 3) := by decide +kernel
theorem dX8_likeness_70 : decode cX8_likeness 70 = .ok (.aload_n 0, 1) := by decide +kernel
theorem dX8_likeness_71 : decode cX8_likeness 71 = .ok (.getfield 7, 3) := by decide +kernel
theorem dX8_likeness_74 : decode cX8_likeness 74 = .ok (.iload 4, 2) := by decide +kernel
theorem dX8_likeness_76 : decode cX8_likeness 76 = .ok (.iaload, 1) := by decide +kernel
theorem dX8_likeness_77 : decode cX8_likeness 77 = .ok (.istore 5, 2) := by decide +kernel
theorem dX8_likeness_79 : decode cX8_likeness 79 = .ok (.iconst 0, 1) := by decide +kernel
theorem dX8_likeness_80 : decode cX8_likeness 80 = .ok (.istore 6, 2) := by decide +kernel
theorem dX8_likeness_82 : decode cX8_likeness 82 = .ok (.iload 6, 2) := by decide +kernel
theorem dX8_likeness_84 : decode cX8_likeness 84 = .ok (.bipush 17, 2) := by decide +kernel
theorem dX8_likeness_86 : decode cX8_likeness 86 = .ok (.if_icmp .ge 17, 3) := by decide +kernel
theorem dX8_likeness_89 : decode cX8_likeness 89 = .ok (.aload_n 0, 1) := by decide +kernel
theorem dX8_likeness_90 : decode cX8_likeness 90 = .ok (.getfield 99, 3) := by decide +kernel
theorem dX8_likeness_93 : decode cX8_likeness 93 = .ok (.iload 6, 2) := by decide +kernel
theorem dX8_likeness_95 : decode cX8_likeness 95 = .ok (.iconst 0, 1) := by decide +kernel
theorem dX8_likeness_96 : decode cX8_likeness 96 = .ok (.iastore, 1) := by decide +kernel
theorem dX8_likeness_97 : decode cX8_likeness 97 = .ok (.iinc 6 1, 3) := by decide +kernel
theorem dX8_likeness_100 : decode cX8_likeness 100 = .ok (.goto (-18), 3) := by decide +kernel
theorem dX8_likeness_103 : decode cX8_likeness 103 = .ok (.iconst 0, 1) := by decide +kernel
theorem dX8_likeness_104 : decode cX8_likeness 104 = .ok (.istore 6, 2) := by decide +kernel
theorem dX8_likeness_106 : decode cX8_likeness 106 = .ok (.iload 6, 2) := by decide +kernel
theorem dX8_likeness_108 : decode cX8_likeness 108 = .ok (.aload_n 0, 1) := by decide +kernel
theorem dX8_likeness_109 : decode cX8_likeness 109 = .ok (.getfield 7, 3) := by decide +kernel
theorem dX8_likeness_112 : decode cX8_likeness 112 = .ok (.iload_n 3, 1) := by decide +kernel
theorem dX8_likeness_113 : decode cX8_likeness 113 = .ok (.iaload, 1) := by decide +kernel
theorem dX8_likeness_114 : decode cX8_likeness 114 = .ok (.if_icmp .ge 114, 3) := by decide +kernel
theorem dX8_likeness_117 : decode cX8_likeness 117 = .ok (.iconst 0, 1) := by decide +kernel
theorem dX8_likeness_118 : decode cX8_likeness 118 = .ok (.istore 7, 2) := by decide +kernel
theorem dX8_likeness_120 : decode cX8_likeness 120 = .ok (.iconst 0, 1) := by decide +kernel
theorem dX8_likeness_121 : decode cX8_likeness 121 = .ok (.istore 8, 2) := by decide +kernel
theorem dX8_likeness_123 : decode cX8_likeness 123 = .ok (.iload 8, 2) := by decide +kernel
theorem dX8_likeness_125 : decode cX8_likeness 125 = .ok (.aload_n 0, 1) := by decide +kernel
theorem dX8_likeness_126 : decode cX8_likeness 126 = .ok (.getfield 7, 3) := by decide +kernel
theorem dX8_likeness_129 : decode cX8_likeness 129 = .ok (.iload 4, 2) := by decide +kernel
theorem dX8_likeness_131 : decode cX8_likeness 131 = .ok (.iaload, 1) := by decide +kernel
theorem dX8_likeness_132 : decode cX8_likeness 132 = .ok (.if_icmp .ge 90, 3) := by decide +kernel
theorem dX8_likeness_135 : decode cX8_likeness 135 = .ok (.aload_n 0, 1) := by decide +kernel
theorem dX8_likeness_136 : decode cX8_likeness 136 = .ok (.getfield 99, 3) := by decide +kernel
theorem dX8_likeness_139 : decode cX8_likeness 139 = .ok (.iload 8, 2) := by decide +kernel
theorem dX8_likeness_141 : decode cX8_likeness 141 = .ok (.iconst 1, 1) := by decide +kernel
theorem dX8_likeness_142 : decode cX8_likeness 142 = .ok (.iadd, 1) := by decide +kernel
theorem dX8_likeness_143 : decode cX8_likeness 143 = .ok (.iaload, 1) := by decide +kernel
theorem dX8_likeness_144 : decode cX8_likeness 144 = .ok (.istore 9, 2) := by decide +kernel
theorem dX8_likeness_146 : decode cX8_likeness 146 = .ok (.iload 9, 2) := by decide +kernel
theorem dX8_likeness_148 : decode cX8_likeness 148 = .ok (.aload_n 0, 1) := by decide +kernel
theorem dX8_likeness_149 : decode cX8_likeness 149 = .ok (.getfield 99, 3) := by decide +kernel
theorem dX8_likeness_152 : decode cX8_likeness 152 = .ok (.iload 8, 2) := by decide +kernel
theorem dX8_likeness_154 : decode cX8_likeness 154 = .ok (.iaload, 1) := by decide +kernel
theorem dX8_likeness_155 : decode cX8_likeness 155 = .ok (.if_icmp .le 8, 3) := by decide +kernel
theorem dX8_likeness_158 : decode cX8_likeness 158 = .ok (.iload 9, 2) := by decide +kernel
theorem dX8_likeness_160 : decode cX8_likeness 160 = .ok (.goto 10, 3) := by decide +kernel
theorem dX8_likeness_163 : decode cX8_likeness 163 = .ok (.aload_n 0, 1) := by decide +kernel
theorem dX8_likeness_164 : decode cX8_likeness 164 = .ok (.getfield 99, 3) := by decide +kernel
theorem dX8_likeness_167 : decode cX8_likeness 167 = .ok (.iload 8, 2) := by decide +kernel
theorem dX8_likeness_169 : decode cX8_likeness 169 = .ok (.iaload, 1) := by decide +kernel
theorem dX8_likeness_170 : decode cX8_likeness 170 = .ok (.istore 10, 2) := by decide +kernel
theorem dX8_likeness_172 : decode cX8_likeness 172 = .ok (.aload_n 0, 1) := by decide +kernel
theorem dX8_likeness_173 : decode cX8_likeness 173 = .ok (.getfield 99, 3) := by decide +kernel
theorem dX8_likeness_176 : decode cX8_likeness 176 = .ok (.iload 8, 2) := by decide +kernel
theorem dX8_likeness_178 : decode cX8_likeness 178 = .ok (.iconst 1, 1) := by decide +kernel
theorem dX8_likeness_179 : decode cX8_likeness 179 = .ok (.iadd, 1) := by decide +kernel
theorem dX8_likeness_180 : decode cX8_likeness 180 = .ok (.aload_n 0, 1) := by decide +kernel
theorem dX8_likeness_181 : decode cX8_likeness 181 = .ok (.bipush 16, 2) := by decide +kernel
theorem dX8_likeness_183 : decode cX8_likeness 183 = .ok (.iload_n 3, 1) := by decide +kernel
theorem dX8_likeness_184 : decode cX8_likeness 184 = .ok (.imul, 1) := by decide +kernel
theorem dX8_likeness_185 : decode cX8_likeness 185 = .ok (.iload 6, 2) := by decide +kernel
theorem dX8_likeness_187 : decode cX8_likeness 187 = .ok (.iadd, 1) := by decide +kernel
theorem dX8_likeness_188 : decode cX8_likeness 188 = .ok (.bipush 16, 2) := by decide +kernel
theorem dX8_likeness_190 : decode cX8_likeness 190 = .ok (.iload 4, 2) := by decide +kernel
theorem dX8_likeness_192 : decode cX8_likeness 192 = .ok (.imul, 1) := by decide +kernel
theorem dX8_likeness_193 : decode cX8_likeness 193 = .ok (.iload 8, 2) := by decide +kernel
theorem dX8_likeness_195 : decode cX8_likeness 195 = .ok (.iadd, 1) := by decide +kernel
theorem dX8_likeness_196 : decode cX8_likeness 196 = .ok (.invokevirtual 195, 3) := by decide +kernel
theorem dX8_likeness_199 : decode cX8_likeness 199 = .ok (.ifCond .eq 10, 3) := by decide +kernel
theorem dX8_likeness_202 : decode cX8_likeness 202 = .ok (.iload 7, 2) := by decide +kernel
theorem dX8_likeness_204 : decode cX8_likeness 204 = .ok (.iconst 1, 1) := by decide +kernel
theorem dX8_likeness_205 : decode cX8_likeness 205 = .ok (.iadd, 1) := by decide +kernel
theorem dX8_likeness_206 : decode cX8_likeness 206 = .ok (.goto 5, 3) := by decide +kernel
theorem dX8_likeness_209 : decode cX8_likeness 209 = .ok (.iload 10, 2) := by decide +kernel
theorem dX8_likeness_211 : decode cX8_likeness 211 = .ok (.iastore, 1) := by decide +kernel
theorem dX8_likeness_212 : decode cX8_likeness 212 = .ok (.iload 9, 2) := by decide +kernel
theorem dX8_likeness_214 : decode cX8_likeness 214 = .ok (.istore 7, 2) := by decide +kernel
theorem dX8_likeness_216 : decode cX8_likeness 216 = .ok (.iinc 8 1, 3) := by decide +kernel
theorem dX8_likeness_219 : decode cX8_likeness 219 = .ok (.goto (-96), 3) := by decide +kernel
theorem dX8_likeness_222 : decode cX8_likeness 222 = .ok (.iinc 6 1, 3) := by decide +kernel
theorem dX8_likeness_225 : decode cX8_likeness 225 = .ok (.goto (-119), 3) := by decide +kernel
theorem dX8_likeness_228 : decode cX8_likeness 228 = .ok (.iload 5, 2) := by decide +kernel
theorem dX8_likeness_230 : decode cX8_likeness 230 = .ok (.ifCond .ne 8, 3) := by decide +kernel
theorem dX8_likeness_233 : decode cX8_likeness 233 = .ok (.bipush 100, 2) := by decide +kernel
theorem dX8_likeness_235 : decode cX8_likeness 235 = .ok (.goto 21, 3) := by decide +kernel
theorem dX8_likeness_238 : decode cX8_likeness 238 = .ok (.bipush 100, 2) := by decide +kernel
theorem dX8_likeness_240 : decode cX8_likeness 240 = .ok (.aload_n 0, 1) := by decide +kernel
theorem dX8_likeness_241 : decode cX8_likeness 241 = .ok (.getfield 99, 3) := by decide +kernel
theorem dX8_likeness_244 : decode cX8_likeness 244 = .ok (.aload_n 0, 1) := by decide +kernel
theorem dX8_likeness_245 : decode cX8_likeness 245 = .ok (.getfield 7, 3) := by decide +kernel
theorem dX8_likeness_248 : decode cX8_likeness 248 = .ok (.iload 4, 2) := by decide +kernel
theorem dX8_likeness_250 : decode cX8_likeness 250 = .ok (.iaload, 1) := by decide +kernel
theorem dX8_likeness_251 : decode cX8_likeness 251 = .ok (.iaload, 1) := by decide +kernel
theorem dX8_likeness_252 : decode cX8_likeness 252 = .ok (.imul, 1) := by decide +kernel
theorem dX8_likeness_253 : decode cX8_likeness 253 = .ok (.iload 5, 2) := by decide +kernel
theorem dX8_likeness_255 : decode cX8_likeness 255 = .ok (.idiv, 1) := by decide +kernel
theorem dX8_likeness_256 : decode cX8_likeness 256 = .ok (.ireturn, 1) := by decide +kernel
theorem dX8_isLate_0 : decode cX8_isLate 0 = .ok (.aload_n 0, 1) := by decide +kernel
theorem dX8_isLate_1 : decode cX8_isLate 1 = .ok (.getfield 70, 3) := by decide +kernel
theorem dX8_isLate_4 : decode cX8_isLate 4 = .ok (.iconst (-1), 1) := by decide +kernel
theorem dX8_isLate_5 : decode cX8_isLate 5 = .ok (.if_icmp .eq 20, 3) := by decide +kernel
theorem dX8_isLate_8 : decode cX8_isLate 8 = .ok (.aload_n 0, 1) := by decide +kernel
theorem dX8_isLate_9 : decode cX8_isLate 9 = .ok (.getfield 49, 3) := by decide +kernel
theorem dX8_isLate_12 : decode cX8_isLate 12 = .ok (.iload_n 1, 1) := by decide +kernel
theorem dX8_isLate_13 : decode cX8_isLate 13 = .ok (.iaload, 1) := by decide +kernel
theorem dX8_isLate_14 : decode cX8_isLate 14 = .ok (.aload_n 0, 1) := by decide +kernel
theorem dX8_isLate_15 : decode cX8_isLate 15 = .ok (.getfield 70, 3) := by decide +kernel
theorem dX8_isLate_18 : decode cX8_isLate 18 = .ok (.if_icmp .lt 7, 3) := by decide +kernel
theorem dX8_isLate_21 : decode cX8_isLate 21 = .ok (.iconst 1, 1) := by decide +kernel
theorem dX8_isLate_22 : decode cX8_isLate 22 = .ok (.goto 4, 3) := by decide +kernel
theorem dX8_isLate_25 : decode cX8_isLate 25 = .ok (.iconst 0, 1) := by decide +kernel
theorem dX8_isLate_26 : decode cX8_isLate 26 = .ok (.ireturn, 1) := by decide +kernel
theorem dX8_counts_0 : decode cX8_counts 0 = .ok (.iconst 0, 1) := by decide +kernel
theorem dX8_counts_1 : decode cX8_counts 1 = .ok (.istore_n 3, 1) := by decide +kernel
theorem dX8_counts_2 : decode cX8_counts 2 = .ok (.iload_n 3, 1) := by decide +kernel
theorem dX8_counts_3 : decode cX8_counts 3 = .ok (.aload_n 0, 1) := by decide +kernel
theorem dX8_counts_4 : decode cX8_counts 4 = .ok (.getfield 112, 3) := by decide +kernel
theorem dX8_counts_7 : decode cX8_counts 7 = .ok (.if_icmp .ge 40, 3) := by decide +kernel
theorem dX8_counts_10 : decode cX8_counts 10 = .ok (.aload_n 0, 1) := by decide +kernel
theorem dX8_counts_11 : decode cX8_counts 11 = .ok (.getfield 43, 3) := by decide +kernel
theorem dX8_counts_14 : decode cX8_counts 14 = .ok (.iload_n 3, 1) := by decide +kernel
theorem dX8_counts_15 : decode cX8_counts 15 = .ok (.iaload, 1) := by decide +kernel
theorem dX8_counts_16 : decode cX8_counts 16 = .ok (.iload_n 1, 1) := by decide +kernel
theorem dX8_counts_17 : decode cX8_counts 17 = .ok (.if_icmp .ne 24, 3) := by decide +kernel
theorem dX8_counts_20 : decode cX8_counts 20 = .ok (.aload_n 0, 1) := by decide +kernel
theorem dX8_counts_21 : decode cX8_counts 21 = .ok (.getfield 46, 3) := by decide +kernel
theorem dX8_counts_24 : decode cX8_counts 24 = .ok (.iload_n 3, 1) := by decide +kernel
theorem dX8_counts_25 : decode cX8_counts 25 = .ok (.iaload, 1) := by decide +kernel
theorem dX8_counts_26 : decode cX8_counts 26 = .ok (.iload_n 2, 1) := by decide +kernel
theorem dX8_counts_27 : decode cX8_counts 27 = .ok (.if_icmp .ne 14, 3) := by decide +kernel
theorem dX8_counts_30 : decode cX8_counts 30 = .ok (.aload_n 0, 1) := by decide +kernel
theorem dX8_counts_31 : decode cX8_counts 31 = .ok (.getfield 87, 3) := by decide +kernel
theorem dX8_counts_34 : decode cX8_counts 34 = .ok (.iload_n 3, 1) := by decide +kernel
theorem dX8_counts_35 : decode cX8_counts 35 = .ok (.iaload, 1) := by decide +kernel
theorem dX8_counts_36 : decode cX8_counts 36 = .ok (.ifCond .ne 5, 3) := by decide +kernel
theorem dX8_counts_39 : decode cX8_counts 39 = .ok (.iload_n 3, 1) := by decide +kernel
theorem dX8_counts_40 : decode cX8_counts 40 = .ok (.ireturn, 1) := by decide +kernel
theorem dX8_counts_41 : decode cX8_counts 41 = .ok (.iinc 3 1, 3) := by decide +kernel
theorem dX8_counts_44 : decode cX8_counts 44 = .ok (.goto (-42), 3) := by decide +kernel
theorem dX8_counts_47 : decode cX8_counts 47 = .ok (.iconst (-1), 1) := by decide +kernel
theorem dX8_counts_48 : decode cX8_counts 48 = .ok (.ireturn, 1) := by decide +kernel
theorem dX8_boards_0 : decode cX8_boards 0 = .ok (.iconst 0, 1) := by decide +kernel
theorem dX8_boards_1 : decode cX8_boards 1 = .ok (.istore_n 1, 1) := by decide +kernel
theorem dX8_boards_2 : decode cX8_boards 2 = .ok (.iload_n 1, 1) := by decide +kernel
theorem dX8_boards_3 : decode cX8_boards 3 = .ok (.bipush 8, 2) := by decide +kernel
theorem dX8_boards_5 : decode cX8_boards 5 = .ok (.if_icmp .ge 182, 3) := by decide +kernel
theorem dX8_boards_8 : decode cX8_boards 8 = .ok (.aload_n 0, 1) := by decide +kernel
theorem dX8_boards_9 : decode cX8_boards 9 = .ok (.getfield 90, 3) := by decide +kernel
theorem dX8_boards_12 : decode cX8_boards 12 = .ok (.iload_n 1, 1) := by decide +kernel
theorem dX8_boards_13 : decode cX8_boards 13 = .ok (.iconst 0, 1) := by decide +kernel
theorem dX8_boards_14 : decode cX8_boards 14 = .ok (.iastore, 1) := by decide +kernel
theorem dX8_boards_15 : decode cX8_boards 15 = .ok (.aload_n 0, 1) := by decide +kernel
theorem dX8_boards_16 : decode cX8_boards 16 = .ok (.getfield 93, 3) := by decide +kernel
theorem dX8_boards_19 : decode cX8_boards 19 = .ok (.iload_n 1, 1) := by decide +kernel
theorem dX8_boards_20 : decode cX8_boards 20 = .ok (.iconst 0, 1) := by decide +kernel
theorem dX8_boards_21 : decode cX8_boards 21 = .ok (.iastore, 1) := by decide +kernel
theorem dX8_boards_22 : decode cX8_boards 22 = .ok (.aload_n 0, 1) := by decide +kernel
theorem dX8_boards_23 : decode cX8_boards 23 = .ok (.getfield 96, 3) := by decide +kernel
theorem dX8_boards_26 : decode cX8_boards 26 = .ok (.iload_n 1, 1) := by decide +kernel
theorem dX8_boards_27 : decode cX8_boards 27 = .ok (.iconst 0, 1) := by decide +kernel
theorem dX8_boards_28 : decode cX8_boards 28 = .ok (.iastore, 1) := by decide +kernel
theorem dX8_boards_29 : decode cX8_boards 29 = .ok (.iconst 0, 1) := by decide +kernel
theorem dX8_boards_30 : decode cX8_boards 30 = .ok (.istore_n 2, 1) := by decide +kernel
theorem dX8_boards_31 : decode cX8_boards 31 = .ok (.iload_n 2, 1) := by decide +kernel
theorem dX8_boards_32 : decode cX8_boards 32 = .ok (.aload_n 0, 1) := by decide +kernel
theorem dX8_boards_33 : decode cX8_boards 33 = .ok (.getfield 105, 3) := by decide +kernel
theorem dX8_boards_36 : decode cX8_boards 36 = .ok (.if_icmp .ge 145, 3) := by decide +kernel
theorem dX8_boards_39 : decode cX8_boards 39 = .ok (.aload_n 0, 1) := by decide +kernel
theorem dX8_boards_40 : decode cX8_boards 40 = .ok (.iload_n 1, 1) := by decide +kernel
theorem dX8_boards_41 : decode cX8_boards 41 = .ok (.iload_n 2, 1) := by decide +kernel
theorem dX8_boards_42 : decode cX8_boards 42 = .ok (.invokevirtual 198, 3) := by decide +kernel
theorem dX8_boards_45 : decode cX8_boards 45 = .ok (.istore_n 3, 1) := by decide +kernel
theorem dX8_boards_46 : decode cX8_boards 46 = .ok (.iconst 0, 1) := by decide +kernel
theorem dX8_boards_47 : decode cX8_boards 47 = .ok (.istore 4, 2) := by decide +kernel
theorem dX8_boards_49 : decode cX8_boards 49 = .ok (.iload 4, 2) := by decide +kernel
theorem dX8_boards_51 : decode cX8_boards 51 = .ok (.iload_n 3, 1) := by decide +kernel
theorem dX8_boards_52 : decode cX8_boards 52 = .ok (.if_icmp .ge 57, 3) := by decide +kernel
theorem dX8_boards_55 : decode cX8_boards 55 = .ok (.aload_n 0, 1) := by decide +kernel
theorem dX8_boards_56 : decode cX8_boards 56 = .ok (.getfield 93, 3) := by decide +kernel
theorem dX8_boards_59 : decode cX8_boards 59 = .ok (.iload_n 1, 1) := by decide +kernel
theorem dX8_boards_60 : decode cX8_boards 60 = .ok (.dup2, 1) := by decide +kernel
theorem dX8_boards_61 : decode cX8_boards 61 = .ok (.iaload, 1) := by decide +kernel
theorem dX8_boards_62 : decode cX8_boards 62 = .ok (.aload_n 0, 1) := by decide +kernel
theorem dX8_boards_63 : decode cX8_boards 63 = .ok (.getfield 43, 3) := by decide +kernel
theorem dX8_boards_66 : decode cX8_boards 66 = .ok (.iload 4, 2) := by decide +kernel
theorem dX8_boards_68 : decode cX8_boards 68 = .ok (.iaload, 1) := by decide +kernel
theorem dX8_boards_69 : decode cX8_boards 69 = .ok (.iload_n 1, 1) := by decide +kernel
theorem dX8_boards_70 : decode cX8_boards 70 = .ok (.if_icmp .ne 30, 3) := by decide +kernel
theorem dX8_boards_73 : decode cX8_boards 73 = .ok (.aload_n 0, 1) := by decide +kernel
theorem dX8_boards_74 : decode cX8_boards 74 = .ok (.getfield 46, 3) := by decide +kernel
theorem dX8_boards_77 : decode cX8_boards 77 = .ok (.iload 4, 2) := by decide +kernel
theorem dX8_boards_79 : decode cX8_boards 79 = .ok (.iaload, 1) := by decide +kernel
theorem dX8_boards_80 : decode cX8_boards 80 = .ok (.iload_n 2, 1) := by decide +kernel
theorem dX8_boards_81 : decode cX8_boards 81 = .ok (.if_icmp .ne 19, 3) := by decide +kernel
theorem dX8_boards_84 : decode cX8_boards 84 = .ok (.aload_n 0, 1) := by decide +kernel
theorem dX8_boards_85 : decode cX8_boards 85 = .ok (.getfield 87, 3) := by decide +kernel
theorem dX8_boards_88 : decode cX8_boards 88 = .ok (.iload 4, 2) := by decide +kernel
theorem dX8_boards_90 : decode cX8_boards 90 = .ok (.iaload, 1) := by decide +kernel
theorem dX8_boards_91 : decode cX8_boards 91 = .ok (.iconst (-1), 1) := by decide +kernel
theorem dX8_boards_92 : decode cX8_boards 92 = .ok (.if_icmp .eq 8, 3) := by decide +kernel
theorem dX8_boards_95 : decode cX8_boards 95 = .ok (.bipush 20, 2) := by decide +kernel
theorem dX8_boards_97 : decode cX8_boards 97 = .ok (.goto 4, 3) := by decide +kernel
theorem dX8_boards_100 : decode cX8_boards 100 = .ok (.iconst 0, 1) := by decide +kernel
theorem dX8_boards_101 : decode cX8_boards 101 = .ok (.iadd, 1) := by decide +kernel
theorem dX8_boards_102 : decode cX8_boards 102 = .ok (.iastore, 1) := by decide +kernel
theorem dX8_boards_103 : decode cX8_boards 103 = .ok (.iinc 4 1, 3) := by decide +kernel
theorem dX8_boards_106 : decode cX8_boards 106 = .ok (.goto (-57), 3) := by decide +kernel
theorem dX8_boards_109 : decode cX8_boards 109 = .ok (.iload_n 3, 1) := by decide +kernel
theorem dX8_boards_110 : decode cX8_boards 110 = .ok (.iconst (-1), 1) := by decide +kernel
theorem dX8_boards_111 : decode cX8_boards 111 = .ok (.if_icmp .eq 64, 3) := by decide +kernel
theorem dX8_boards_114 : decode cX8_boards 114 = .ok (.aload_n 0, 1) := by decide +kernel
theorem dX8_boards_115 : decode cX8_boards 115 = .ok (.getfield 90, 3) := by decide +kernel
theorem dX8_boards_118 : decode cX8_boards 118 = .ok (.iload_n 1, 1) := by decide +kernel
theorem dX8_boards_119 : decode cX8_boards 119 = .ok (.dup2, 1) := by decide +kernel
theorem dX8_boards_120 : decode cX8_boards 120 = .ok (.iaload, 1) := by decide +kernel
theorem dX8_boards_121 : decode cX8_boards 121 = .ok (.iconst 1, 1) := by decide +kernel
theorem dX8_boards_122 : decode cX8_boards 122 = .ok (.iadd, 1) := by decide +kernel
theorem dX8_boards_123 : decode cX8_boards 123 = .ok (.iastore, 1) := by decide +kernel
theorem dX8_boards_124 : decode cX8_boards 124 = .ok (.aload_n 0, 1) := by decide +kernel
theorem dX8_boards_125 : decode cX8_boards 125 = .ok (.getfield 93, 3) := by decide +kernel
theorem dX8_boards_128 : decode cX8_boards 128 = .ok (.iload_n 1, 1) := by decide +kernel
theorem dX8_boards_129 : decode cX8_boards 129 = .ok (.dup2, 1) := by decide +kernel
theorem dX8_boards_130 : decode cX8_boards 130 = .ok (.iaload, 1) := by decide +kernel
theorem dX8_boards_131 : decode cX8_boards 131 = .ok (.aload_n 0, 1) := by decide +kernel
theorem dX8_boards_132 : decode cX8_boards 132 = .ok (.getfield 49, 3) := by decide +kernel
theorem dX8_boards_135 : decode cX8_boards 135 = .ok (.iload_n 3, 1) := by decide +kernel
theorem dX8_boards_136 : decode cX8_boards 136 = .ok (.iaload, 1) := by decide +kernel
theorem dX8_boards_137 : decode cX8_boards 137 = .ok (.iadd, 1) := by decide +kernel
theorem dX8_boards_138 : decode cX8_boards 138 = .ok (.iastore, 1) := by decide +kernel
theorem dX8_boards_139 : decode cX8_boards 139 = .ok (.aload_n 0, 1) := by decide +kernel
theorem dX8_boards_140 : decode cX8_boards 140 = .ok (.getfield 96, 3) := by decide +kernel
theorem dX8_boards_143 : decode cX8_boards 143 = .ok (.iload_n 1, 1) := by decide +kernel
theorem dX8_boards_144 : decode cX8_boards 144 = .ok (.aload_n 0, 1) := by decide +kernel
theorem dX8_boards_145 : decode cX8_boards 145 = .ok (.getfield 49, 3) := by decide +kernel
theorem dX8_boards_148 : decode cX8_boards 148 = .ok (.iload_n 3, 1) := by decide +kernel
theorem dX8_boards_149 : decode cX8_boards 149 = .ok (.iaload, 1) := by decide +kernel
theorem dX8_boards_150 : decode cX8_boards 150 = .ok (.aload_n 0, 1) := by decide +kernel
theorem dX8_boards_151 : decode cX8_boards 151 = .ok (.getfield 96, 3) := by decide +kernel
theorem dX8_boards_154 : decode cX8_boards 154 = .ok (.iload_n 1, 1) := by decide +kernel
theorem dX8_boards_155 : decode cX8_boards 155 = .ok (.iaload, 1) := by decide +kernel
theorem dX8_boards_156 : decode cX8_boards 156 = .ok (.if_icmp .le 12, 3) := by decide +kernel
theorem dX8_boards_159 : decode cX8_boards 159 = .ok (.aload_n 0, 1) := by decide +kernel
theorem dX8_boards_160 : decode cX8_boards 160 = .ok (.getfield 49, 3) := by decide +kernel
theorem dX8_boards_163 : decode cX8_boards 163 = .ok (.iload_n 3, 1) := by decide +kernel
theorem dX8_boards_164 : decode cX8_boards 164 = .ok (.iaload, 1) := by decide +kernel
theorem dX8_boards_165 : decode cX8_boards 165 = .ok (.goto 9, 3) := by decide +kernel
theorem dX8_boards_168 : decode cX8_boards 168 = .ok (.aload_n 0, 1) := by decide +kernel
theorem dX8_boards_169 : decode cX8_boards 169 = .ok (.getfield 96, 3) := by decide +kernel
theorem dX8_boards_172 : decode cX8_boards 172 = .ok (.iload_n 1, 1) := by decide +kernel
theorem dX8_boards_173 : decode cX8_boards 173 = .ok (.iaload, 1) := by decide +kernel
theorem dX8_boards_174 : decode cX8_boards 174 = .ok (.iastore, 1) := by decide +kernel
theorem dX8_boards_175 : decode cX8_boards 175 = .ok (.iinc 2 1, 3) := by decide +kernel
theorem dX8_boards_178 : decode cX8_boards 178 = .ok (.goto (-147), 3) := by decide +kernel
theorem dX8_boards_181 : decode cX8_boards 181 = .ok (.iinc 1 1, 3) := by decide +kernel
theorem dX8_boards_184 : decode cX8_boards 184 = .ok (.goto (-182), 3) := by decide +kernel
theorem dX8_boards_187 : decode cX8_boards 187 = .ok (.return_, 1) := by decide +kernel
theorem dX8_tells_0 : decode cX8_tells 0 = .ok (.iconst 0, 1) := by decide +kernel
theorem dX8_tells_1 : decode cX8_tells 1 = .ok (.istore_n 2, 1) := by decide +kernel
theorem dX8_tells_2 : decode cX8_tells 2 = .ok (.iload_n 2, 1) := by decide +kernel
theorem dX8_tells_3 : decode cX8_tells 3 = .ok (.aload_n 0, 1) := by decide +kernel
theorem dX8_tells_4 : decode cX8_tells 4 = .ok (.getfield 112, 3) := by decide +kernel
theorem dX8_tells_7 : decode cX8_tells 7 = .ok (.if_icmp .ge 71, 3) := by decide +kernel
theorem dX8_tells_10 : decode cX8_tells 10 = .ok (.iload_n 1, 1) := by decide +kernel
theorem dX8_tells_11 : decode cX8_tells 11 = .ok (.ifCond .eq 39, 3) := by decide +kernel
theorem dX8_tells_14 : decode cX8_tells 14 = .ok (.aload_n 0, 1) := by decide +kernel
theorem dX8_tells_15 : decode cX8_tells 15 = .ok (.iload_n 2, 1) := by decide +kernel
theorem dX8_tells_16 : decode cX8_tells 16 = .ok (.invokevirtual 202, 3) := by decide +kernel
theorem dX8_tells_19 : decode cX8_tells 19 = .ok (.ifCond .eq 31, 3) := by decide +kernel
theorem dX8_tells_22 : decode cX8_tells 22 = .ok (.aload_n 0, 1) := by decide +kernel
theorem dX8_tells_23 : decode cX8_tells 23 = .ok (.getfield 74, 3) := by decide +kernel
theorem dX8_tells_26 : decode cX8_tells 26 = .ok (.bipush 6, 2) := by decide +kernel
theorem dX8_tells_28 : decode cX8_tells 28 = .ok (.aload_n 0, 1) := by decide +kernel
theorem dX8_tells_29 : decode cX8_tells 29 = .ok (.getfield 43, 3) := by decide +kernel
theorem dX8_tells_32 : decode cX8_tells 32 = .ok (.iload_n 2, 1) := by decide +kernel
theorem dX8_tells_33 : decode cX8_tells 33 = .ok (.iaload, 1) := by decide +kernel
theorem dX8_tells_34 : decode cX8_tells 34 = .ok (.imul, 1) := by decide +kernel
theorem dX8_tells_35 : decode cX8_tells 35 = .ok (.aload_n 0, 1) := by decide +kernel
theorem dX8_tells_36 : decode cX8_tells 36 = .ok (.getfield 46, 3) := by decide +kernel
theorem dX8_tells_39 : decode cX8_tells 39 = .ok (.iload_n 2, 1) := by decide +kernel
theorem dX8_tells_40 : decode cX8_tells 40 = .ok (.iaload, 1) := by decide +kernel
theorem dX8_tells_41 : decode cX8_tells 41 = .ok (.iadd, 1) := by decide +kernel
theorem dX8_tells_42 : decode cX8_tells 42 = .ok (.baload, 1) := by decide +kernel
theorem dX8_tells_43 : decode cX8_tells 43 = .ok (.ifCond .ne 7, 3) := by decide +kernel
theorem dX8_tells_46 : decode cX8_tells 46 = .ok (.iconst 1, 1) := by decide +kernel
theorem dX8_tells_47 : decode cX8_tells 47 = .ok (.goto 4, 3) := by decide +kernel
theorem dX8_tells_50 : decode cX8_tells 50 = .ok (.iconst 0, 1) := by decide +kernel
theorem dX8_tells_51 : decode cX8_tells 51 = .ok (.istore_n 3, 1) := by decide +kernel
theorem dX8_tells_52 : decode cX8_tells 52 = .ok (.aload_n 0, 1) := by decide +kernel
theorem dX8_tells_53 : decode cX8_tells 53 = .ok (.getfield 87, 3) := by decide +kernel
theorem dX8_tells_56 : decode cX8_tells 56 = .ok (.iload_n 2, 1) := by decide +kernel
theorem dX8_tells_57 : decode cX8_tells 57 = .ok (.iload_n 3, 1) := by decide +kernel
theorem dX8_tells_58 : decode cX8_tells 58 = .ok (.ifCond .eq 7, 3) := by decide +kernel
theorem dX8_tells_61 : decode cX8_tells 61 = .ok (.iconst (-1), 1) := by decide +kernel
theorem dX8_tells_62 : decode cX8_tells 62 = .ok (.goto 9, 3) := by decide +kernel
theorem dX8_tells_65 : decode cX8_tells 65 = .ok (.aload_n 0, 1) := by decide +kernel
theorem dX8_tells_66 : decode cX8_tells 66 = .ok (.getfield 52, 3) := by decide +kernel
theorem dX8_tells_69 : decode cX8_tells 69 = .ok (.iload_n 2, 1) := by decide +kernel
theorem dX8_tells_70 : decode cX8_tells 70 = .ok (.iaload, 1) := by decide +kernel
theorem dX8_tells_71 : decode cX8_tells 71 = .ok (.iastore, 1) := by decide +kernel
theorem dX8_tells_72 : decode cX8_tells 72 = .ok (.iinc 2 1, 3) := by decide +kernel
theorem dX8_tells_75 : decode cX8_tells 75 = .ok (.goto (-73), 3) := by decide +kernel
theorem dX8_tells_78 : decode cX8_tells 78 = .ok (.aload_n 0, 1) := by decide +kernel
theorem dX8_tells_79 : decode cX8_tells 79 = .ok (.invokevirtual 205, 3) := by decide +kernel
theorem dX8_tells_82 : decode cX8_tells 82 = .ok (.return_, 1) := by decide +kernel
theorem dX8_isAhead_0 : decode cX8_isAhead 0 = .ok (.aload_n 0, 1) := by decide +kernel
theorem dX8_isAhead_1 : decode cX8_isAhead 1 = .ok (.getfield 90, 3) := by decide +kernel
theorem dX8_isAhead_4 : decode cX8_isAhead 4 = .ok (.iload_n 1, 1) := by decide +kernel
theorem dX8_isAhead_5 : decode cX8_isAhead 5 = .ok (.iaload, 1) := by decide +kernel
theorem dX8_isAhead_6 : decode cX8_isAhead 6 = .ok (.aload_n 0, 1) := by decide +kernel
theorem dX8_isAhead_7 : decode cX8_isAhead 7 = .ok (.getfield 90, 3) := by decide +kernel
theorem dX8_isAhead_10 : decode cX8_isAhead 10 = .ok (.iload_n 2, 1) := by decide +kernel
theorem dX8_isAhead_11 : decode cX8_isAhead 11 = .ok (.iaload, 1) := by decide +kernel
theorem dX8_isAhead_12 : decode cX8_isAhead 12 = .ok (.if_icmp .eq 24, 3) := by decide +kernel
theorem dX8_isAhead_15 : decode cX8_isAhead 15 = .ok (.aload_n 0, 1) := by decide +kernel
theorem dX8_isAhead_16 : decode cX8_isAhead 16 = .ok (.getfield 90, 3) := by decide +kernel
theorem dX8_isAhead_19 : decode cX8_isAhead 19 = .ok (.iload_n 1, 1) := by decide +kernel
theorem dX8_isAhead_20 : decode cX8_isAhead 20 = .ok (.iaload, 1) := by decide +kernel
theorem dX8_isAhead_21 : decode cX8_isAhead 21 = .ok (.aload_n 0, 1) := by decide +kernel
theorem dX8_isAhead_22 : decode cX8_isAhead 22 = .ok (.getfield 90, 3) := by decide +kernel
theorem dX8_isAhead_25 : decode cX8_isAhead 25 = .ok (.iload_n 2, 1) := by decide +kernel
theorem dX8_isAhead_26 : decode cX8_isAhead 26 = .ok (.iaload, 1) := by decide +kernel
theorem dX8_isAhead_27 : decode cX8_isAhead 27 = .ok (.if_icmp .le 7, 3) := by decide +kernel
theorem dX8_isAhead_30 : decode cX8_isAhead 30 = .ok (.iconst 1, 1) := by decide +kernel
theorem dX8_isAhead_31 : decode cX8_isAhead 31 = .ok (.goto 4, 3) := by decide +kernel
theorem dX8_isAhead_34 : decode cX8_isAhead 34 = .ok (.iconst 0, 1) := by decide +kernel
theorem dX8_isAhead_35 : decode cX8_isAhead 35 = .ok (.ireturn, 1) := by decide +kernel
theorem dX8_isAhead_36 : decode cX8_isAhead 36 = .ok (.aload_n 0, 1) := by decide +kernel
theorem dX8_isAhead_37 : decode cX8_isAhead 37 = .ok (.getfield 93, 3) := by decide +kernel
theorem dX8_isAhead_40 : decode cX8_isAhead 40 = .ok (.iload_n 1, 1) := by decide +kernel
theorem dX8_isAhead_41 : decode cX8_isAhead 41 = .ok (.iaload, 1) := by decide +kernel
theorem dX8_isAhead_42 : decode cX8_isAhead 42 = .ok (.aload_n 0, 1) := by decide +kernel
theorem dX8_isAhead_43 : decode cX8_isAhead 43 = .ok (.getfield 93, 3) := by decide +kernel
theorem dX8_isAhead_46 : decode cX8_isAhead 46 = .ok (.iload_n 2, 1) := by decide +kernel
theorem dX8_isAhead_47 : decode cX8_isAhead 47 = .ok (.iaload, 1) := by decide +kernel
theorem dX8_isAhead_48 : decode cX8_isAhead 48 = .ok (.if_icmp .eq 24, 3) := by decide +kernel
theorem dX8_isAhead_51 : decode cX8_isAhead 51 = .ok (.aload_n 0, 1) := by decide +kernel
theorem dX8_isAhead_52 : decode cX8_isAhead 52 = .ok (.getfield 93, 3) := by decide +kernel
theorem dX8_isAhead_55 : decode cX8_isAhead 55 = .ok (.iload_n 1, 1) := by decide +kernel
theorem dX8_isAhead_56 : decode cX8_isAhead 56 = .ok (.iaload, 1) := by decide +kernel
theorem dX8_isAhead_57 : decode cX8_isAhead 57 = .ok (.aload_n 0, 1) := by decide +kernel
theorem dX8_isAhead_58 : decode cX8_isAhead 58 = .ok (.getfield 93, 3) := by decide +kernel
theorem dX8_isAhead_61 : decode cX8_isAhead 61 = .ok (.iload_n 2, 1) := by decide +kernel
theorem dX8_isAhead_62 : decode cX8_isAhead 62 = .ok (.iaload, 1) := by decide +kernel
theorem dX8_isAhead_63 : decode cX8_isAhead 63 = .ok (.if_icmp .ge 7, 3) := by decide +kernel
theorem dX8_isAhead_66 : decode cX8_isAhead 66 = .ok (.iconst 1, 1) := by decide +kernel
theorem dX8_isAhead_67 : decode cX8_isAhead 67 = .ok (.goto 4, 3) := by decide +kernel
theorem dX8_isAhead_70 : decode cX8_isAhead 70 = .ok (.iconst 0, 1) := by decide +kernel
theorem dX8_isAhead_71 : decode cX8_isAhead 71 = .ok (.ireturn, 1) := by decide +kernel
theorem dX8_isAhead_72 : decode cX8_isAhead 72 = .ok (.aload_n 0, 1) := by decide +kernel
theorem dX8_isAhead_73 : decode cX8_isAhead 73 = .ok (.getfield 96, 3) := by decide +kernel
theorem dX8_isAhead_76 : decode cX8_isAhead 76 = .ok (.iload_n 1, 1) := by decide +kernel
theorem dX8_isAhead_77 : decode cX8_isAhead 77 = .ok (.iaload, 1) := by decide +kernel
theorem dX8_isAhead_78 : decode cX8_isAhead 78 = .ok (.aload_n 0, 1) := by decide +kernel
theorem dX8_isAhead_79 : decode cX8_isAhead 79 = .ok (.getfield 96, 3) := by decide +kernel
theorem dX8_isAhead_82 : decode cX8_isAhead 82 = .ok (.iload_n 2, 1) := by decide +kernel
theorem dX8_isAhead_83 : decode cX8_isAhead 83 = .ok (.iaload, 1) := by decide +kernel
theorem dX8_isAhead_84 : decode cX8_isAhead 84 = .ok (.if_icmp .eq 26, 3) := by decide +kernel
theorem dX8_isAhead_87 : decode cX8_isAhead 87 = .ok (.aload_n 0, 1) := by decide +kernel
theorem dX8_isAhead_88 : decode cX8_isAhead 88 = .ok (.getfield 96, 3) := by decide +kernel
theorem dX8_isAhead_91 : decode cX8_isAhead 91 = .ok (.iload_n 1, 1) := by decide +kernel
theorem dX8_isAhead_92 : decode cX8_isAhead 92 = .ok (.iaload, 1) := by decide +kernel
theorem dX8_isAhead_93 : decode cX8_isAhead 93 = .ok (.aload_n 0, 1) := by decide +kernel
theorem dX8_isAhead_94 : decode cX8_isAhead 94 = .ok (.getfield 96, 3) := by decide +kernel
theorem dX8_isAhead_97 : decode cX8_isAhead 97 = .ok (.iload_n 2, 1) := by decide +kernel
theorem dX8_isAhead_98 : decode cX8_isAhead 98 = .ok (.iaload, 1) := by decide +kernel
theorem dX8_isAhead_99 : decode cX8_isAhead 99 = .ok (.if_icmp .ge 7, 3) := by decide +kernel
theorem dX8_isAhead_102 : decode cX8_isAhead 102 = .ok (.iconst 1, 1) := by decide +kernel
theorem dX8_isAhead_103 : decode cX8_isAhead 103 = .ok (.goto 17, 3) := by decide +kernel
theorem dX8_isAhead_106 : decode cX8_isAhead 106 = .ok (.iconst 0, 1) := by decide +kernel
theorem dX8_isAhead_107 : decode cX8_isAhead 107 = .ok (.goto 13, 3) := by decide +kernel
theorem dX8_isAhead_110 : decode cX8_isAhead 110 = .ok (.iload_n 1, 1) := by decide +kernel
theorem dX8_isAhead_111 : decode cX8_isAhead 111 = .ok (.iload_n 2, 1) := by decide +kernel
theorem dX8_isAhead_112 : decode cX8_isAhead 112 = .ok (.if_icmp .ge 7, 3) := by decide +kernel
theorem dX8_isAhead_115 : decode cX8_isAhead 115 = .ok (.iconst 1, 1) := by decide +kernel
theorem dX8_isAhead_116 : decode cX8_isAhead 116 = .ok (.goto 4, 3) := by decide +kernel
theorem dX8_isAhead_119 : decode cX8_isAhead 119 = .ok (.iconst 0, 1) := by decide +kernel
theorem dX8_isAhead_120 : decode cX8_isAhead 120 = .ok (.ireturn, 1) := by decide +kernel
theorem dX8_placeOf_0 : decode cX8_placeOf 0 = .ok (.iconst 0, 1) := by decide +kernel
theorem dX8_placeOf_1 : decode cX8_placeOf 1 = .ok (.istore_n 2, 1) := by decide +kernel
theorem dX8_placeOf_2 : decode cX8_placeOf 2 = .ok (.iconst 0, 1) := by decide +kernel
theorem dX8_placeOf_3 : decode cX8_placeOf 3 = .ok (.istore_n 3, 1) := by decide +kernel
theorem dX8_placeOf_4 : decode cX8_placeOf 4 = .ok (.iload_n 3, 1) := by decide +kernel
theorem dX8_placeOf_5 : decode cX8_placeOf 5 = .ok (.bipush 8, 2) := by decide +kernel
theorem dX8_placeOf_7 : decode cX8_placeOf 7 = .ok (.if_icmp .ge 31, 3) := by decide +kernel
theorem dX8_placeOf_10 : decode cX8_placeOf 10 = .ok (.iload_n 2, 1) := by decide +kernel
theorem dX8_placeOf_11 : decode cX8_placeOf 11 = .ok (.iload_n 3, 1) := by decide +kernel
theorem dX8_placeOf_12 : decode cX8_placeOf 12 = .ok (.iload_n 1, 1) := by decide +kernel
theorem dX8_placeOf_13 : decode cX8_placeOf 13 = .ok (.if_icmp .eq 16, 3) := by decide +kernel
theorem dX8_placeOf_16 : decode cX8_placeOf 16 = .ok (.aload_n 0, 1) := by decide +kernel
theorem dX8_placeOf_17 : decode cX8_placeOf 17 = .ok (.iload_n 3, 1) := by decide +kernel
theorem dX8_placeOf_18 : decode cX8_placeOf 18 = .ok (.iload_n 1, 1) := by decide +kernel
theorem dX8_placeOf_19 : decode cX8_placeOf 19 = .ok (.invokevirtual 208, 3) := by decide +kernel
theorem dX8_placeOf_22 : decode cX8_placeOf 22 = .ok (.ifCond .eq 7, 3) := by decide +kernel
theorem dX8_placeOf_25 : decode cX8_placeOf 25 = .ok (.iconst 1, 1) := by decide +kernel
theorem dX8_placeOf_26 : decode cX8_placeOf 26 = .ok (.goto 4, 3) := by decide +kernel
theorem dX8_placeOf_29 : decode cX8_placeOf 29 = .ok (.iconst 0, 1) := by decide +kernel
theorem dX8_placeOf_30 : decode cX8_placeOf 30 = .ok (.iadd, 1) := by decide +kernel
theorem dX8_placeOf_31 : decode cX8_placeOf 31 = .ok (.istore_n 2, 1) := by decide +kernel
theorem dX8_placeOf_32 : decode cX8_placeOf 32 = .ok (.iinc 3 1, 3) := by decide +kernel
theorem dX8_placeOf_35 : decode cX8_placeOf 35 = .ok (.goto (-31), 3) := by decide +kernel
theorem dX8_placeOf_38 : decode cX8_placeOf 38 = .ok (.iload_n 2, 1) := by decide +kernel
theorem dX8_placeOf_39 : decode cX8_placeOf 39 = .ok (.ireturn, 1) := by decide +kernel
theorem dX8_freeze_0 : decode cX8_freeze 0 = .ok (.aload_n 0, 1) := by decide +kernel
theorem dX8_freeze_1 : decode cX8_freeze 1 = .ok (.iload_n 1, 1) := by decide +kernel
theorem dX8_freeze_2 : decode cX8_freeze 2 = .ok (.iconst (-1), 1) := by decide +kernel
theorem dX8_freeze_3 : decode cX8_freeze 3 = .ok (.sipush 9999, 3) := by decide +kernel
theorem dX8_freeze_6 : decode cX8_freeze 6 = .ok (.invokestatic 108, 3) := by decide +kernel
theorem dX8_freeze_9 : decode cX8_freeze 9 = .ok (.ifCond .eq 7, 3) := by decide +kernel
theorem dX8_freeze_12 : decode cX8_freeze 12 = .ok (.iconst 0, 1) := by decide +kernel
theorem dX8_freeze_13 : decode cX8_freeze 13 = .ok (.goto 4, 3) := by decide +kernel
theorem dX8_freeze_16 : decode cX8_freeze 16 = .ok (.iconst 1, 1) := by decide +kernel
theorem dX8_freeze_17 : decode cX8_freeze 17 = .ok (.putfield 102, 3) := by decide +kernel
theorem dX8_freeze_20 : decode cX8_freeze 20 = .ok (.aload_n 0, 1) := by decide +kernel
theorem dX8_freeze_21 : decode cX8_freeze 21 = .ok (.getfield 102, 3) := by decide +kernel
theorem dX8_freeze_24 : decode cX8_freeze 24 = .ok (.ifCond .ne 29, 3) := by decide +kernel
theorem dX8_freeze_27 : decode cX8_freeze 27 = .ok (.aload_n 0, 1) := by decide +kernel
theorem dX8_freeze_28 : decode cX8_freeze 28 = .ok (.iload_n 1, 1) := by decide +kernel
theorem dX8_freeze_29 : decode cX8_freeze 29 = .ok (.putfield 70, 3) := by decide +kernel
theorem dX8_freeze_32 : decode cX8_freeze 32 = .ok (.iconst 0, 1) := by decide +kernel
theorem dX8_freeze_33 : decode cX8_freeze 33 = .ok (.istore_n 2, 1) := by decide +kernel
theorem dX8_freeze_34 : decode cX8_freeze 34 = .ok (.iload_n 2, 1) := by decide +kernel
theorem dX8_freeze_35 : decode cX8_freeze 35 = .ok (.bipush 48, 2) := by decide +kernel
theorem dX8_freeze_37 : decode cX8_freeze 37 = .ok (.if_icmp .ge 16, 3) := by decide +kernel
theorem dX8_freeze_40 : decode cX8_freeze 40 = .ok (.aload_n 0, 1) := by decide +kernel
theorem dX8_freeze_41 : decode cX8_freeze 41 = .ok (.getfield 74, 3) := by decide +kernel
theorem dX8_freeze_44 : decode cX8_freeze 44 = .ok (.iload_n 2, 1) := by decide +kernel
theorem dX8_freeze_45 : decode cX8_freeze 45 = .ok (.iconst 0, 1) := by decide +kernel
theorem dX8_freeze_46 : decode cX8_freeze 46 = .ok (.bastore, 1) := by decide +kernel
theorem dX8_freeze_47 : decode cX8_freeze 47 = .ok (.iinc 2 1, 3) := by decide +kernel
theorem dX8_freeze_50 : decode cX8_freeze 50 = .ok (.goto (-16), 3) := by decide +kernel
theorem dX8_freeze_53 : decode cX8_freeze 53 = .ok (.return_, 1) := by decide +kernel
theorem dX8_toReveal_0 : decode cX8_toReveal 0 = .ok (.iconst (-1), 1) := by decide +kernel
theorem dX8_toReveal_1 : decode cX8_toReveal 1 = .ok (.istore_n 2, 1) := by decide +kernel
theorem dX8_toReveal_2 : decode cX8_toReveal 2 = .ok (.iconst 0, 1) := by decide +kernel
theorem dX8_toReveal_3 : decode cX8_toReveal 3 = .ok (.istore_n 3, 1) := by decide +kernel
theorem dX8_toReveal_4 : decode cX8_toReveal 4 = .ok (.iload_n 3, 1) := by decide +kernel
theorem dX8_toReveal_5 : decode cX8_toReveal 5 = .ok (.aload_n 0, 1) := by decide +kernel
theorem dX8_toReveal_6 : decode cX8_toReveal 6 = .ok (.getfield 112, 3) := by decide +kernel
theorem dX8_toReveal_9 : decode cX8_toReveal 9 = .ok (.if_icmp .ge 94, 3) := by decide +kernel
theorem dX8_toReveal_12 : decode cX8_toReveal 12 = .ok (.aload_n 0, 1) := by decide +kernel
theorem dX8_toReveal_13 : decode cX8_toReveal 13 = .ok (.getfield 43, 3) := by decide +kernel
theorem dX8_toReveal_16 : decode cX8_toReveal 16 = .ok (.iload_n 3, 1) := by decide +kernel
theorem dX8_toReveal_17 : decode cX8_toReveal 17 = .ok (.iaload, 1) := by decide +kernel
theorem dX8_toReveal_18 : decode cX8_toReveal 18 = .ok (.iload_n 1, 1) := by decide +kernel
theorem dX8_toReveal_19 : decode cX8_toReveal 19 = .ok (.if_icmp .ne 44, 3) := by decide +kernel
theorem dX8_toReveal_22 : decode cX8_toReveal 22 = .ok (.aload_n 0, 1) := by decide +kernel
theorem dX8_toReveal_23 : decode cX8_toReveal 23 = .ok (.iload_n 3, 1) := by decide +kernel
theorem dX8_toReveal_24 : decode cX8_toReveal 24 = .ok (.invokevirtual 202, 3) := by decide +kernel
theorem dX8_toReveal_27 : decode cX8_toReveal 27 = .ok (.ifCond .eq 36, 3) := by decide +kernel
theorem dX8_toReveal_30 : decode cX8_toReveal 30 = .ok (.aload_n 0, 1) := by decide +kernel
theorem dX8_toReveal_31 : decode cX8_toReveal 31 = .ok (.getfield 52, 3) := by decide +kernel
theorem dX8_toReveal_34 : decode cX8_toReveal 34 = .ok (.iload_n 3, 1) := by decide +kernel
theorem dX8_toReveal_35 : decode cX8_toReveal 35 = .ok (.iaload, 1) := by decide +kernel
theorem dX8_toReveal_36 : decode cX8_toReveal 36 = .ok (.iconst (-1), 1) := by decide +kernel
theorem dX8_toReveal_37 : decode cX8_toReveal 37 = .ok (.if_icmp .eq 26, 3) := by decide +kernel
theorem dX8_toReveal_40 : decode cX8_toReveal 40 = .ok (.aload_n 0, 1) := by decide +kernel
theorem dX8_toReveal_41 : decode cX8_toReveal 41 = .ok (.getfield 74, 3) := by decide +kernel
theorem dX8_toReveal_44 : decode cX8_toReveal 44 = .ok (.bipush 6, 2) := by decide +kernel
theorem dX8_toReveal_46 : decode cX8_toReveal 46 = .ok (.iload_n 1, 1) := by decide +kernel
theorem dX8_toReveal_47 : decode cX8_toReveal 47 = .ok (.imul, 1) := by decide +kernel
theorem dX8_toReveal_48 : decode cX8_toReveal 48 = .ok (.aload_n 0, 1) := by decide +kernel
theorem dX8_toReveal_49 : decode cX8_toReveal 49 = .ok (.getfield 46, 3) := by decide +kernel
theorem dX8_toReveal_52 : decode cX8_toReveal 52 = .ok (.iload_n 3, 1) := by decide +kernel
theorem dX8_toReveal_53 : decode cX8_toReveal 53 = .ok (.iaload, 1) := by decide +kernel
theorem dX8_toReveal_54 : decode cX8_toReveal 54 = .ok (.iadd, 1) := by decide +kernel
theorem dX8_toReveal_55 : decode cX8_toReveal 55 = .ok (.baload, 1) := by decide +kernel
theorem dX8_toReveal_56 : decode cX8_toReveal 56 = .ok (.ifCond .ne 7, 3) := by decide +kernel
theorem dX8_toReveal_59 : decode cX8_toReveal 59 = .ok (.iconst 1, 1) := by decide +kernel
theorem dX8_toReveal_60 : decode cX8_toReveal 60 = .ok (.goto 4, 3) := by decide +kernel
theorem dX8_toReveal_63 : decode cX8_toReveal 63 = .ok (.iconst 0, 1) := by decide +kernel
theorem dX8_toReveal_64 : decode cX8_toReveal 64 = .ok (.istore 4, 2) := by decide +kernel
theorem dX8_toReveal_66 : decode cX8_toReveal 66 = .ok (.iload 4, 2) := by decide +kernel
theorem dX8_toReveal_68 : decode cX8_toReveal 68 = .ok (.ifCond .eq 27, 3) := by decide +kernel
theorem dX8_toReveal_71 : decode cX8_toReveal 71 = .ok (.iload_n 2, 1) := by decide +kernel
theorem dX8_toReveal_72 : decode cX8_toReveal 72 = .ok (.iconst (-1), 1) := by decide +kernel
theorem dX8_toReveal_73 : decode cX8_toReveal 73 = .ok (.if_icmp .eq 13, 3) := by decide +kernel
theorem dX8_toReveal_76 : decode cX8_toReveal 76 = .ok (.aload_n 0, 1) := by decide +kernel
theorem dX8_toReveal_77 : decode cX8_toReveal 77 = .ok (.getfield 46, 3) := by decide +kernel
theorem dX8_toReveal_80 : decode cX8_toReveal 80 = .ok (.iload_n 3, 1) := by decide +kernel
theorem dX8_toReveal_81 : decode cX8_toReveal 81 = .ok (.iaload, 1) := by decide +kernel
theorem dX8_toReveal_82 : decode cX8_toReveal 82 = .ok (.iload_n 2, 1) := by decide +kernel
theorem dX8_toReveal_83 : decode cX8_toReveal 83 = .ok (.if_icmp .ge 12, 3) := by decide +kernel
theorem dX8_toReveal_86 : decode cX8_toReveal 86 = .ok (.aload_n 0, 1) := by decide +kernel
theorem dX8_toReveal_87 : decode cX8_toReveal 87 = .ok (.getfield 46, 3) := by decide +kernel
theorem dX8_toReveal_90 : decode cX8_toReveal 90 = .ok (.iload_n 3, 1) := by decide +kernel
theorem dX8_toReveal_91 : decode cX8_toReveal 91 = .ok (.iaload, 1) := by decide +kernel
theorem dX8_toReveal_92 : decode cX8_toReveal 92 = .ok (.goto 4, 3) := by decide +kernel
theorem dX8_toReveal_95 : decode cX8_toReveal 95 = .ok (.iload_n 2, 1) := by decide +kernel
theorem dX8_toReveal_96 : decode cX8_toReveal 96 = .ok (.istore_n 2, 1) := by decide +kernel
theorem dX8_toReveal_97 : decode cX8_toReveal 97 = .ok (.iinc 3 1, 3) := by decide +kernel
theorem dX8_toReveal_100 : decode cX8_toReveal 100 = .ok (.goto (-96), 3) := by decide +kernel
theorem dX8_toReveal_103 : decode cX8_toReveal 103 = .ok (.iload_n 2, 1) := by decide +kernel
theorem dX8_toReveal_104 : decode cX8_toReveal 104 = .ok (.ireturn, 1) := by decide +kernel
theorem dX8_reveal_0 : decode cX8_reveal 0 = .ok (.aload_n 0, 1) := by decide +kernel
theorem dX8_reveal_1 : decode cX8_reveal 1 = .ok (.iconst 0, 1) := by decide +kernel
theorem dX8_reveal_2 : decode cX8_reveal 2 = .ok (.putfield 102, 3) := by decide +kernel
theorem dX8_reveal_5 : decode cX8_reveal 5 = .ok (.aload_n 0, 1) := by decide +kernel
theorem dX8_reveal_6 : decode cX8_reveal 6 = .ok (.iconst 1, 1) := by decide +kernel
theorem dX8_reveal_7 : decode cX8_reveal 7 = .ok (.invokevirtual 211, 3) := by decide +kernel
theorem dX8_reveal_10 : decode cX8_reveal 10 = .ok (.iconst (-1), 1) := by decide +kernel
theorem dX8_reveal_11 : decode cX8_reveal 11 = .ok (.istore_n 1, 1) := by decide +kernel
theorem dX8_reveal_12 : decode cX8_reveal 12 = .ok (.iconst 0, 1) := by decide +kernel
theorem dX8_reveal_13 : decode cX8_reveal 13 = .ok (.istore_n 2, 1) := by decide +kernel
theorem dX8_reveal_14 : decode cX8_reveal 14 = .ok (.iload_n 2, 1) := by decide +kernel
theorem dX8_reveal_15 : decode cX8_reveal 15 = .ok (.bipush 8, 2) := by decide +kernel
theorem dX8_reveal_17 : decode cX8_reveal 17 = .ok (.if_icmp .ge 48, 3) := by decide +kernel
theorem dX8_reveal_20 : decode cX8_reveal 20 = .ok (.aload_n 0, 1) := by decide +kernel
theorem dX8_reveal_21 : decode cX8_reveal 21 = .ok (.iload_n 2, 1) := by decide +kernel
theorem dX8_reveal_22 : decode cX8_reveal 22 = .ok (.invokevirtual 215, 3) := by decide +kernel
theorem dX8_reveal_25 : decode cX8_reveal 25 = .ok (.iconst (-1), 1) := by decide +kernel
theorem dX8_reveal_26 : decode cX8_reveal 26 = .ok (.if_icmp .eq 7, 3) := by decide +kernel
theorem dX8_reveal_29 : decode cX8_reveal 29 = .ok (.iconst 1, 1) := by decide +kernel
theorem dX8_reveal_30 : decode cX8_reveal 30 = .ok (.goto 4, 3) := by decide +kernel
theorem dX8_reveal_33 : decode cX8_reveal 33 = .ok (.iconst 0, 1) := by decide +kernel
theorem dX8_reveal_34 : decode cX8_reveal 34 = .ok (.istore_n 3, 1) := by decide +kernel
theorem dX8_reveal_35 : decode cX8_reveal 35 = .ok (.iload_n 3, 1) := by decide +kernel
theorem dX8_reveal_36 : decode cX8_reveal 36 = .ok (.ifCond .eq 21, 3) := by decide +kernel
theorem dX8_reveal_39 : decode cX8_reveal 39 = .ok (.iload_n 1, 1) := by decide +kernel
theorem dX8_reveal_40 : decode cX8_reveal 40 = .ok (.iconst (-1), 1) := by decide +kernel
theorem dX8_reveal_41 : decode cX8_reveal 41 = .ok (.if_icmp .eq 12, 3) := by decide +kernel
theorem dX8_reveal_44 : decode cX8_reveal 44 = .ok (.aload_n 0, 1) := by decide +kernel
theorem dX8_reveal_45 : decode cX8_reveal 45 = .ok (.iload_n 1, 1) := by decide +kernel
theorem dX8_reveal_46 : decode cX8_reveal 46 = .ok (.iload_n 2, 1) := by decide +kernel
theorem dX8_reveal_47 : decode cX8_reveal 47 = .ok (.invokevirtual 208, 3) := by decide +kernel
theorem dX8_reveal_50 : decode cX8_reveal 50 = .ok (.ifCond .eq 7, 3) := by decide +kernel
theorem dX8_reveal_53 : decode cX8_reveal 53 = .ok (.iload_n 2, 1) := by decide +kernel
theorem dX8_reveal_54 : decode cX8_reveal 54 = .ok (.goto 4, 3) := by decide +kernel
theorem dX8_reveal_57 : decode cX8_reveal 57 = .ok (.iload_n 1, 1) := by decide +kernel
theorem dX8_reveal_58 : decode cX8_reveal 58 = .ok (.istore_n 1, 1) := by decide +kernel
theorem dX8_reveal_59 : decode cX8_reveal 59 = .ok (.iinc 2 1, 3) := by decide +kernel
theorem dX8_reveal_62 : decode cX8_reveal 62 = .ok (.goto (-48), 3) := by decide +kernel
theorem dX8_reveal_65 : decode cX8_reveal 65 = .ok (.iload_n 1, 1) := by decide +kernel
theorem dX8_reveal_66 : decode cX8_reveal 66 = .ok (.iconst (-1), 1) := by decide +kernel
theorem dX8_reveal_67 : decode cX8_reveal 67 = .ok (.if_icmp .ne 5, 3) := by decide +kernel
theorem dX8_reveal_70 : decode cX8_reveal 70 = .ok (.iconst (-1), 1) := by decide +kernel
theorem dX8_reveal_71 : decode cX8_reveal 71 = .ok (.ireturn, 1) := by decide +kernel
theorem dX8_reveal_72 : decode cX8_reveal 72 = .ok (.aload_n 0, 1) := by decide +kernel
theorem dX8_reveal_73 : decode cX8_reveal 73 = .ok (.iload_n 1, 1) := by decide +kernel
theorem dX8_reveal_74 : decode cX8_reveal 74 = .ok (.invokevirtual 215, 3) := by decide +kernel
theorem dX8_reveal_77 : decode cX8_reveal 77 = .ok (.istore_n 2, 1) := by decide +kernel
theorem dX8_reveal_78 : decode cX8_reveal 78 = .ok (.aload_n 0, 1) := by decide +kernel
theorem dX8_reveal_79 : decode cX8_reveal 79 = .ok (.getfield 74, 3) := by decide +kernel
theorem dX8_reveal_82 : decode cX8_reveal 82 = .ok (.bipush 6, 2) := by decide +kernel
theorem dX8_reveal_84 : decode cX8_reveal 84 = .ok (.iload_n 1, 1) := by decide +kernel
theorem dX8_reveal_85 : decode cX8_reveal 85 = .ok (.imul, 1) := by decide +kernel
theorem dX8_reveal_86 : decode cX8_reveal 86 = .ok (.iload_n 2, 1) := by decide +kernel
theorem dX8_reveal_87 : decode cX8_reveal 87 = .ok (.iadd, 1) := by decide +kernel
theorem dX8_reveal_88 : decode cX8_reveal 88 = .ok (.iconst 1, 1) := by decide +kernel
theorem dX8_reveal_89 : decode cX8_reveal 89 = .ok (.bastore, 1) := by decide +kernel
theorem dX8_reveal_90 : decode cX8_reveal 90 = .ok (.bipush 10, 2) := by decide +kernel
theorem dX8_reveal_92 : decode cX8_reveal 92 = .ok (.iload_n 1, 1) := by decide +kernel
theorem dX8_reveal_93 : decode cX8_reveal 93 = .ok (.imul, 1) := by decide +kernel
theorem dX8_reveal_94 : decode cX8_reveal 94 = .ok (.iload_n 2, 1) := by decide +kernel
theorem dX8_reveal_95 : decode cX8_reveal 95 = .ok (.iadd, 1) := by decide +kernel
theorem dX8_reveal_96 : decode cX8_reveal 96 = .ok (.ireturn, 1) := by decide +kernel
theorem dX8_board_0 : decode cX8_board 0 = .ok (.aload_n 0, 1) := by decide +kernel
theorem dX8_board_1 : decode cX8_board 1 = .ok (.iload_n 1, 1) := by decide +kernel
theorem dX8_board_2 : decode cX8_board 2 = .ok (.invokestatic 183, 3) := by decide +kernel
theorem dX8_board_5 : decode cX8_board 5 = .ok (.ifCond .ne 7, 3) := by decide +kernel
theorem dX8_board_8 : decode cX8_board 8 = .ok (.iconst 1, 1) := by decide +kernel
theorem dX8_board_9 : decode cX8_board 9 = .ok (.goto 17, 3) := by decide +kernel
theorem dX8_board_12 : decode cX8_board 12 = .ok (.iload_n 3, 1) := by decide +kernel
theorem dX8_board_13 : decode cX8_board 13 = .ok (.iconst 0, 1) := by decide +kernel
theorem dX8_board_14 : decode cX8_board 14 = .ok (.iconst 4, 1) := by decide +kernel
theorem dX8_board_15 : decode cX8_board 15 = .ok (.invokestatic 108, 3) := by decide +kernel
theorem dX8_board_18 : decode cX8_board 18 = .ok (.ifCond .ne 7, 3) := by decide +kernel
theorem dX8_board_21 : decode cX8_board 21 = .ok (.iconst 2, 1) := by decide +kernel
theorem dX8_board_22 : decode cX8_board 22 = .ok (.goto 4, 3) := by decide +kernel
theorem dX8_board_25 : decode cX8_board 25 = .ok (.iconst 0, 1) := by decide +kernel
theorem dX8_board_26 : decode cX8_board 26 = .ok (.putfield 102, 3) := by decide +kernel
theorem dX8_board_29 : decode cX8_board 29 = .ok (.aload_n 0, 1) := by decide +kernel
theorem dX8_board_30 : decode cX8_board 30 = .ok (.getfield 102, 3) := by decide +kernel
theorem dX8_board_33 : decode cX8_board 33 = .ok (.ifCond .le 5, 3) := by decide +kernel
theorem dX8_board_36 : decode cX8_board 36 = .ok (.iconst 0, 1) := by decide +kernel
theorem dX8_board_37 : decode cX8_board 37 = .ok (.ireturn, 1) := by decide +kernel
theorem dX8_board_38 : decode cX8_board 38 = .ok (.aload_n 0, 1) := by decide +kernel
theorem dX8_board_39 : decode cX8_board 39 = .ok (.iload_n 2, 1) := by decide +kernel
theorem dX8_board_40 : decode cX8_board 40 = .ok (.invokevirtual 211, 3) := by decide +kernel
theorem dX8_board_43 : decode cX8_board 43 = .ok (.iload_n 3, 1) := by decide +kernel
theorem dX8_board_44 : decode cX8_board 44 = .ok (.ifCond .ne 11, 3) := by decide +kernel
theorem dX8_board_47 : decode cX8_board 47 = .ok (.aload_n 0, 1) := by decide +kernel
theorem dX8_board_48 : decode cX8_board 48 = .ok (.iload_n 1, 1) := by decide +kernel
theorem dX8_board_49 : decode cX8_board 49 = .ok (.invokevirtual 218, 3) := by decide +kernel
theorem dX8_board_52 : decode cX8_board 52 = .ok (.goto 51, 3) := by decide +kernel
theorem dX8_board_55 : decode cX8_board 55 = .ok (.iload_n 3, 1) := by decide +kernel
theorem dX8_board_56 : decode cX8_board 56 = .ok (.iconst 1, 1) := by decide +kernel
theorem dX8_board_57 : decode cX8_board 57 = .ok (.if_icmp .ne 12, 3) := by decide +kernel
theorem dX8_board_60 : decode cX8_board 60 = .ok (.aload_n 0, 1) := by decide +kernel
theorem dX8_board_61 : decode cX8_board 61 = .ok (.getfield 90, 3) := by decide +kernel
theorem dX8_board_64 : decode cX8_board 64 = .ok (.iload_n 1, 1) := by decide +kernel
theorem dX8_board_65 : decode cX8_board 65 = .ok (.iaload, 1) := by decide +kernel
theorem dX8_board_66 : decode cX8_board 66 = .ok (.goto 37, 3) := by decide +kernel
theorem dX8_board_69 : decode cX8_board 69 = .ok (.iload_n 3, 1) := by decide +kernel
theorem dX8_board_70 : decode cX8_board 70 = .ok (.iconst 2, 1) := by decide +kernel
theorem dX8_board_71 : decode cX8_board 71 = .ok (.if_icmp .ne 12, 3) := by decide +kernel
theorem dX8_board_74 : decode cX8_board 74 = .ok (.aload_n 0, 1) := by decide +kernel
theorem dX8_board_75 : decode cX8_board 75 = .ok (.getfield 93, 3) := by decide +kernel
theorem dX8_board_78 : decode cX8_board 78 = .ok (.iload_n 1, 1) := by decide +kernel
theorem dX8_board_79 : decode cX8_board 79 = .ok (.iaload, 1) := by decide +kernel
theorem dX8_board_80 : decode cX8_board 80 = .ok (.goto 23, 3) := by decide +kernel
theorem dX8_board_83 : decode cX8_board 83 = .ok (.iload_n 3, 1) := by decide +kernel
theorem dX8_board_84 : decode cX8_board 84 = .ok (.iconst 3, 1) := by decide +kernel
theorem dX8_board_85 : decode cX8_board 85 = .ok (.if_icmp .ne 12, 3) := by decide +kernel
theorem dX8_board_88 : decode cX8_board 88 = .ok (.aload_n 0, 1) := by decide +kernel
theorem dX8_board_89 : decode cX8_board 89 = .ok (.getfield 96, 3) := by decide +kernel
theorem dX8_board_92 : decode cX8_board 92 = .ok (.iload_n 1, 1) := by decide +kernel
theorem dX8_board_93 : decode cX8_board 93 = .ok (.iaload, 1) := by decide +kernel
theorem dX8_board_94 : decode cX8_board 94 = .ok (.goto 9, 3) := by decide +kernel
theorem dX8_board_97 : decode cX8_board 97 = .ok (.aload_n 0, 1) := by decide +kernel
theorem dX8_board_98 : decode cX8_board 98 = .ok (.getfield 67, 3) := by decide +kernel
theorem dX8_board_101 : decode cX8_board 101 = .ok (.iload_n 1, 1) := by decide +kernel
theorem dX8_board_102 : decode cX8_board 102 = .ok (.iaload, 1) := by decide +kernel
theorem dX8_board_103 : decode cX8_board 103 = .ok (.ireturn, 1) := by decide +kernel
theorem dX8_placeAnew_0 : decode cX8_placeAnew 0 = .ok (.aload_n 0, 1) := by decide +kernel
theorem dX8_placeAnew_1 : decode cX8_placeAnew 1 = .ok (.iload_n 1, 1) := by decide +kernel
theorem dX8_placeAnew_2 : decode cX8_placeAnew 2 = .ok (.invokestatic 183, 3) := by decide +kernel
theorem dX8_placeAnew_5 : decode cX8_placeAnew 5 = .ok (.ifCond .eq 7, 3) := by decide +kernel
theorem dX8_placeAnew_8 : decode cX8_placeAnew 8 = .ok (.iconst 0, 1) := by decide +kernel
theorem dX8_placeAnew_9 : decode cX8_placeAnew 9 = .ok (.goto 4, 3) := by decide +kernel
theorem dX8_placeAnew_12 : decode cX8_placeAnew 12 = .ok (.iconst 1, 1) := by decide +kernel
theorem dX8_placeAnew_13 : decode cX8_placeAnew 13 = .ok (.putfield 102, 3) := by decide +kernel
theorem dX8_placeAnew_16 : decode cX8_placeAnew 16 = .ok (.aload_n 0, 1) := by decide +kernel
theorem dX8_placeAnew_17 : decode cX8_placeAnew 17 = .ok (.getfield 102, 3) := by decide +kernel
theorem dX8_placeAnew_20 : decode cX8_placeAnew 20 = .ok (.ifCond .le 5, 3) := by decide +kernel
theorem dX8_placeAnew_23 : decode cX8_placeAnew 23 = .ok (.iconst 0, 1) := by decide +kernel
theorem dX8_placeAnew_24 : decode cX8_placeAnew 24 = .ok (.ireturn, 1) := by decide +kernel
theorem dX8_placeAnew_25 : decode cX8_placeAnew 25 = .ok (.iconst 0, 1) := by decide +kernel
theorem dX8_placeAnew_26 : decode cX8_placeAnew 26 = .ok (.istore_n 2, 1) := by decide +kernel
theorem dX8_placeAnew_27 : decode cX8_placeAnew 27 = .ok (.iload_n 2, 1) := by decide +kernel
theorem dX8_placeAnew_28 : decode cX8_placeAnew 28 = .ok (.aload_n 0, 1) := by decide +kernel
theorem dX8_placeAnew_29 : decode cX8_placeAnew 29 = .ok (.getfield 112, 3) := by decide +kernel
theorem dX8_placeAnew_32 : decode cX8_placeAnew 32 = .ok (.if_icmp .ge 29, 3) := by decide +kernel
theorem dX8_placeAnew_35 : decode cX8_placeAnew 35 = .ok (.aload_n 0, 1) := by decide +kernel
theorem dX8_placeAnew_36 : decode cX8_placeAnew 36 = .ok (.getfield 87, 3) := by decide +kernel
theorem dX8_placeAnew_39 : decode cX8_placeAnew 39 = .ok (.iload_n 2, 1) := by decide +kernel
theorem dX8_placeAnew_40 : decode cX8_placeAnew 40 = .ok (.aload_n 0, 1) := by decide +kernel
theorem dX8_placeAnew_41 : decode cX8_placeAnew 41 = .ok (.iload_n 2, 1) := by decide +kernel
theorem dX8_placeAnew_42 : decode cX8_placeAnew 42 = .ok (.invokevirtual 180, 3) := by decide +kernel
theorem dX8_placeAnew_45 : decode cX8_placeAnew 45 = .ok (.iconst (-1), 1) := by decide +kernel
theorem dX8_placeAnew_46 : decode cX8_placeAnew 46 = .ok (.if_icmp .ne 7, 3) := by decide +kernel
theorem dX8_placeAnew_49 : decode cX8_placeAnew 49 = .ok (.iconst 0, 1) := by decide +kernel
theorem dX8_placeAnew_50 : decode cX8_placeAnew 50 = .ok (.goto 4, 3) := by decide +kernel
theorem dX8_placeAnew_53 : decode cX8_placeAnew 53 = .ok (.iconst 1, 1) := by decide +kernel
theorem dX8_placeAnew_54 : decode cX8_placeAnew 54 = .ok (.iastore, 1) := by decide +kernel
theorem dX8_placeAnew_55 : decode cX8_placeAnew 55 = .ok (.iinc 2 1, 3) := by decide +kernel
theorem dX8_placeAnew_58 : decode cX8_placeAnew 58 = .ok (.goto (-31), 3) := by decide +kernel
theorem dX8_placeAnew_61 : decode cX8_placeAnew 61 = .ok (.aload_n 0, 1) := by decide +kernel
theorem dX8_placeAnew_62 : decode cX8_placeAnew 62 = .ok (.invokevirtual 205, 3) := by decide +kernel
theorem dX8_placeAnew_65 : decode cX8_placeAnew 65 = .ok (.aload_n 0, 1) := by decide +kernel
theorem dX8_placeAnew_66 : decode cX8_placeAnew 66 = .ok (.iload_n 1, 1) := by decide +kernel
theorem dX8_placeAnew_67 : decode cX8_placeAnew 67 = .ok (.invokevirtual 218, 3) := by decide +kernel
theorem dX8_placeAnew_70 : decode cX8_placeAnew 70 = .ok (.ireturn, 1) := by decide +kernel
theorem dX8_hack_0 : decode cX8_hack 0 = .ok (.aload_n 0, 1) := by decide +kernel
theorem dX8_hack_1 : decode cX8_hack 1 = .ok (.iload_n 1, 1) := by decide +kernel
theorem dX8_hack_2 : decode cX8_hack 2 = .ok (.invokestatic 183, 3) := by decide +kernel
theorem dX8_hack_5 : decode cX8_hack 5 = .ok (.ifCond .eq 15, 3) := by decide +kernel
theorem dX8_hack_8 : decode cX8_hack 8 = .ok (.aload_n 0, 1) := by decide +kernel
theorem dX8_hack_9 : decode cX8_hack 9 = .ok (.iload_n 2, 1) := by decide +kernel
theorem dX8_hack_10 : decode cX8_hack 10 = .ok (.invokevirtual 192, 3) := by decide +kernel
theorem dX8_hack_13 : decode cX8_hack 13 = .ok (.ifCond .eq 7, 3) := by decide +kernel
theorem dX8_hack_16 : decode cX8_hack 16 = .ok (.iconst 0, 1) := by decide +kernel
theorem dX8_hack_17 : decode cX8_hack 17 = .ok (.goto 4, 3) := by decide +kernel
theorem dX8_hack_20 : decode cX8_hack 20 = .ok (.iconst 1, 1) := by decide +kernel
theorem dX8_hack_21 : decode cX8_hack 21 = .ok (.putfield 102, 3) := by decide +kernel
theorem dX8_hack_24 : decode cX8_hack 24 = .ok (.aload_n 0, 1) := by decide +kernel
theorem dX8_hack_25 : decode cX8_hack 25 = .ok (.getfield 102, 3) := by decide +kernel
theorem dX8_hack_28 : decode cX8_hack 28 = .ok (.ifCond .le 5, 3) := by decide +kernel
theorem dX8_hack_31 : decode cX8_hack 31 = .ok (.iconst 0, 1) := by decide +kernel
theorem dX8_hack_32 : decode cX8_hack 32 = .ok (.ireturn, 1) := by decide +kernel
theorem dX8_hack_33 : decode cX8_hack 33 = .ok (.aload_n 0, 1) := by decide +kernel
theorem dX8_hack_34 : decode cX8_hack 34 = .ok (.getfield 46, 3) := by decide +kernel
theorem dX8_hack_37 : decode cX8_hack 37 = .ok (.iload_n 2, 1) := by decide +kernel
theorem dX8_hack_38 : decode cX8_hack 38 = .ok (.iaload, 1) := by decide +kernel
theorem dX8_hack_39 : decode cX8_hack 39 = .ok (.istore_n 3, 1) := by decide +kernel
theorem dX8_hack_40 : decode cX8_hack 40 = .ok (.aload_n 0, 1) := by decide +kernel
theorem dX8_hack_41 : decode cX8_hack 41 = .ok (.iconst 0, 1) := by decide +kernel
theorem dX8_hack_42 : decode cX8_hack 42 = .ok (.invokevirtual 211, 3) := by decide +kernel
theorem dX8_hack_45 : decode cX8_hack 45 = .ok (.aload_n 0, 1) := by decide +kernel
theorem dX8_hack_46 : decode cX8_hack 46 = .ok (.iload_n 1, 1) := by decide +kernel
theorem dX8_hack_47 : decode cX8_hack 47 = .ok (.iload_n 3, 1) := by decide +kernel
theorem dX8_hack_48 : decode cX8_hack 48 = .ok (.invokevirtual 198, 3) := by decide +kernel
theorem dX8_hack_51 : decode cX8_hack 51 = .ok (.iconst (-1), 1) := by decide +kernel
theorem dX8_hack_52 : decode cX8_hack 52 = .ok (.if_icmp .eq 37, 3) := by decide +kernel
theorem dX8_hack_55 : decode cX8_hack 55 = .ok (.aload_n 0, 1) := by decide +kernel
theorem dX8_hack_56 : decode cX8_hack 56 = .ok (.getfield 43, 3) := by decide +kernel
theorem dX8_hack_59 : decode cX8_hack 59 = .ok (.iload_n 2, 1) := by decide +kernel
theorem dX8_hack_60 : decode cX8_hack 60 = .ok (.iaload, 1) := by decide +kernel
theorem dX8_hack_61 : decode cX8_hack 61 = .ok (.iload_n 1, 1) := by decide +kernel
theorem dX8_hack_62 : decode cX8_hack 62 = .ok (.if_icmp .eq 27, 3) := by decide +kernel
theorem dX8_hack_65 : decode cX8_hack 65 = .ok (.aload_n 0, 1) := by decide +kernel
theorem dX8_hack_66 : decode cX8_hack 66 = .ok (.getfield 52, 3) := by decide +kernel
theorem dX8_hack_69 : decode cX8_hack 69 = .ok (.iload_n 2, 1) := by decide +kernel
theorem dX8_hack_70 : decode cX8_hack 70 = .ok (.iaload, 1) := by decide +kernel
theorem dX8_hack_71 : decode cX8_hack 71 = .ok (.ifCond .ne 18, 3) := by decide +kernel
theorem dX8_hack_74 : decode cX8_hack 74 = .ok (.aload_n 0, 1) := by decide +kernel
theorem dX8_hack_75 : decode cX8_hack 75 = .ok (.getfield 34, 3) := by decide +kernel
theorem dX8_hack_78 : decode cX8_hack 78 = .ok (.iload_n 3, 1) := by decide +kernel
theorem dX8_hack_79 : decode cX8_hack 79 = .ok (.iaload, 1) := by decide +kernel
theorem dX8_hack_80 : decode cX8_hack 80 = .ok (.bipush 12, 2) := by decide +kernel
theorem dX8_hack_82 : decode cX8_hack 82 = .ok (.if_icmp .ge 7, 3) := by decide +kernel
theorem dX8_hack_85 : decode cX8_hack 85 = .ok (.iconst 1, 1) := by decide +kernel
theorem dX8_hack_86 : decode cX8_hack 86 = .ok (.goto 4, 3) := by decide +kernel
theorem dX8_hack_89 : decode cX8_hack 89 = .ok (.iconst 0, 1) := by decide +kernel
theorem dX8_hack_90 : decode cX8_hack 90 = .ok (.istore 4, 2) := by decide +kernel
theorem dX8_hack_92 : decode cX8_hack 92 = .ok (.aload_n 0, 1) := by decide +kernel
theorem dX8_hack_93 : decode cX8_hack 93 = .ok (.iload 4, 2) := by decide +kernel
theorem dX8_hack_95 : decode cX8_hack 95 = .ok (.ifCond .eq 19, 3) := by decide +kernel
theorem dX8_hack_98 : decode cX8_hack 98 = .ok (.aload_n 0, 1) := by decide +kernel
theorem dX8_hack_99 : decode cX8_hack 99 = .ok (.iconst 1, 1) := by decide +kernel
theorem dX8_hack_100 : decode cX8_hack 100 = .ok (.iload_n 3, 1) := by decide +kernel
theorem dX8_hack_101 : decode cX8_hack 101 = .ok (.iadd, 1) := by decide +kernel
theorem dX8_hack_102 : decode cX8_hack 102 = .ok (.bipush 72, 2) := by decide +kernel
theorem dX8_hack_104 : decode cX8_hack 104 = .ok (.invokevirtual 169, 3) := by decide +kernel
theorem dX8_hack_107 : decode cX8_hack 107 = .ok (.ifCond .eq 7, 3) := by decide +kernel
theorem dX8_hack_110 : decode cX8_hack 110 = .ok (.iconst 0, 1) := by decide +kernel
theorem dX8_hack_111 : decode cX8_hack 111 = .ok (.goto 4, 3) := by decide +kernel
theorem dX8_hack_114 : decode cX8_hack 114 = .ok (.iconst 2, 1) := by decide +kernel
theorem dX8_hack_115 : decode cX8_hack 115 = .ok (.putfield 102, 3) := by decide +kernel
theorem dX8_hack_118 : decode cX8_hack 118 = .ok (.aload_n 0, 1) := by decide +kernel
theorem dX8_hack_119 : decode cX8_hack 119 = .ok (.getfield 102, 3) := by decide +kernel
theorem dX8_hack_122 : decode cX8_hack 122 = .ok (.ifCond .le 5, 3) := by decide +kernel
theorem dX8_hack_125 : decode cX8_hack 125 = .ok (.iconst 0, 1) := by decide +kernel
theorem dX8_hack_126 : decode cX8_hack 126 = .ok (.ireturn, 1) := by decide +kernel
theorem dX8_hack_127 : decode cX8_hack 127 = .ok (.aload_n 0, 1) := by decide +kernel
theorem dX8_hack_128 : decode cX8_hack 128 = .ok (.iload_n 3, 1) := by decide +kernel
theorem dX8_hack_129 : decode cX8_hack 129 = .ok (.bipush 7, 2) := by decide +kernel
theorem dX8_hack_131 : decode cX8_hack 131 = .ok (.iload_n 2, 1) := by decide +kernel
theorem dX8_hack_132 : decode cX8_hack 132 = .ok (.iadd, 1) := by decide +kernel
theorem dX8_hack_133 : decode cX8_hack 133 = .ok (.bipush 72, 2) := by decide +kernel
theorem dX8_hack_135 : decode cX8_hack 135 = .ok (.invokevirtual 176, 3) := by decide +kernel
theorem dX8_hack_138 : decode cX8_hack 138 = .ok (.ifCond .eq 7, 3) := by decide +kernel
theorem dX8_hack_141 : decode cX8_hack 141 = .ok (.iconst 1, 1) := by decide +kernel
theorem dX8_hack_142 : decode cX8_hack 142 = .ok (.goto 4, 3) := by decide +kernel
theorem dX8_hack_145 : decode cX8_hack 145 = .ok (.iconst 0, 1) := by decide +kernel
theorem dX8_hack_146 : decode cX8_hack 146 = .ok (.istore 5, 2) := by decide +kernel
theorem dX8_hack_148 : decode cX8_hack 148 = .ok (.aload_n 0, 1) := by decide +kernel
theorem dX8_hack_149 : decode cX8_hack 149 = .ok (.getfield 67, 3) := by decide +kernel
theorem dX8_hack_152 : decode cX8_hack 152 = .ok (.iload_n 1, 1) := by decide +kernel
theorem dX8_hack_153 : decode cX8_hack 153 = .ok (.dup2, 1) := by decide +kernel
theorem dX8_hack_154 : decode cX8_hack 154 = .ok (.iaload, 1) := by decide +kernel
theorem dX8_hack_155 : decode cX8_hack 155 = .ok (.iload 5, 2) := by decide +kernel
theorem dX8_hack_157 : decode cX8_hack 157 = .ok (.ifCond .eq 7, 3) := by decide +kernel
theorem dX8_hack_160 : decode cX8_hack 160 = .ok (.iconst 1, 1) := by decide +kernel
theorem dX8_hack_161 : decode cX8_hack 161 = .ok (.goto 4, 3) := by decide +kernel
theorem dX8_hack_164 : decode cX8_hack 164 = .ok (.iconst (-1), 1) := by decide +kernel
theorem dX8_hack_165 : decode cX8_hack 165 = .ok (.iadd, 1) := by decide +kernel
theorem dX8_hack_166 : decode cX8_hack 166 = .ok (.iastore, 1) := by decide +kernel
theorem dX8_hack_167 : decode cX8_hack 167 = .ok (.iload 5, 2) := by decide +kernel
theorem dX8_hack_169 : decode cX8_hack 169 = .ok (.ifCond .eq 14, 3) := by decide +kernel
theorem dX8_hack_172 : decode cX8_hack 172 = .ok (.aload_n 0, 1) := by decide +kernel
theorem dX8_hack_173 : decode cX8_hack 173 = .ok (.iload_n 3, 1) := by decide +kernel
theorem dX8_hack_174 : decode cX8_hack 174 = .ok (.iconst 3, 1) := by decide +kernel
theorem dX8_hack_175 : decode cX8_hack 175 = .ok (.invokevirtual 173, 3) := by decide +kernel
theorem dX8_hack_178 : decode cX8_hack 178 = .ok (.aload_n 0, 1) := by decide +kernel
theorem dX8_hack_179 : decode cX8_hack 179 = .ok (.iload_n 2, 1) := by decide +kernel
theorem dX8_hack_180 : decode cX8_hack 180 = .ok (.invokevirtual 189, 3) := by decide +kernel
theorem dX8_hack_183 : decode cX8_hack 183 = .ok (.aload_n 0, 1) := by decide +kernel
theorem dX8_hack_184 : decode cX8_hack 184 = .ok (.getfield 19, 3) := by decide +kernel
theorem dX8_hack_187 : decode cX8_hack 187 = .ok (.bipush 72, 2) := by decide +kernel
theorem dX8_hack_189 : decode cX8_hack 189 = .ok (.iconst 0, 1) := by decide +kernel
theorem dX8_hack_190 : decode cX8_hack 190 = .ok (.iastore, 1) := by decide +kernel
theorem dX8_hack_191 : decode cX8_hack 191 = .ok (.iload 5, 2) := by decide +kernel
theorem dX8_hack_193 : decode cX8_hack 193 = .ok (.ireturn, 1) := by decide +kernel
