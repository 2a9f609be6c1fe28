section HTAB
variable {p : Program} {l : Launch} {e : Env} {R : Room} {s : State} {m : MethodId} {args : Array Value} {below : List Frame} {meth : Method} {c : Code} {H : Heap} {locs : List Loc} {cells slots mc ms : Nat} {Q : State → Prop}
variable {D : va_G} {cy : Nat → ClassId} {B : Nat} {cc : ByteArray} {nL pc : Nat} {ls : Array Slot} {rest st0 As : List Value} {x : Nat} {S S' : Hl} {v : Int}
variable {y : MethodName} {bytes : ByteArray} {maxL idx n : Nat} {ret : Option FieldType} {rm : Room} {hh : List (Nat × Nat × Nat × Nat)}
abbrev rm_L_tables : Room := { frames := 12, cells := 1708, slots := 299430, locals := 350 }
theorem pm_L_tables : plainM yL_tables 0 := by decide +kernel
set_option maxRecDepth 100000 in
set_option maxHeartbeats 4000000 in
theorem w_tables_0 (hst : l.stackTraces = false) (C : LC p s m meth c D cy B cL_tables 2) (kk : ∀ (H : Heap) (locs : List Loc) (ls : Array Slot), HI D cy B s.heap H locs x tS22 → lv_has ls 2 [(0, .ref x)] → W p l e rm_L_tables s m args below meth c H locs 159 13118 Q (F0 m 260 ls [])) : ∀ (H : Heap) (locs : List Loc) (ls : Array Slot), HI D cy B s.heap H locs x s0 → lv_has ls 2 [(0, .ref x)] → W p l e rm_L_tables s m args below meth c H locs 23 294 Q (F0 m 8 ls []) := by
  intro H locs ls hI hl
  refine lv_aload_n C.1.1 C.1.2.1 dL_tables_8 rfl (lv_at hl 0 rfl) ?_
  refine fl_iconst C.1 dL_tables_9 ?_
  refine fl_iconst C.1 dL_tables_10 ?_
  refine j_problem hst C (by exact ⟨(Nat.le_of_ble_eq_true rfl), (Nat.le_of_ble_eq_true rfl)⟩) hI hl.1 (rgk 3 rfl) (rgk 0 rfl) tSf1 (Nat.le_of_ble_eq_true rfl) ⟨(Nat.le_of_ble_eq_true rfl), (Nat.le_of_ble_eq_true rfl)⟩ dL_tables_11 (fun H locs hI _ => ?_)
  refine fl_if_ne (tgt := 162) C.1 (rgk 0 rfl) dL_tables_14 (by decide) (fun h => absurd rfl h) (fun _ => ?_)
  refine lv_aload_n C.1.1 C.1.2.1 dL_tables_17 rfl (lv_at hl 0 rfl) ?_
  refine fl_iconst C.1 dL_tables_18 ?_
  refine fl_iconst C.1 dL_tables_19 ?_
  refine j_test hst C (by exact ⟨(Nat.le_of_ble_eq_true rfl), (Nat.le_of_ble_eq_true rfl)⟩) hI hl.1 (rgk 0 rfl) (rgk 3 rfl) tSf2 (Nat.le_of_ble_eq_true rfl) ⟨(Nat.le_of_ble_eq_true rfl), (Nat.le_of_ble_eq_true rfl)⟩ dL_tables_20 (fun H locs hI _ => ?_)
  refine fl_if_ne (tgt := 162) C.1 (rgk 0 rfl) dL_tables_23 (by decide) (fun h => absurd rfl h) (fun _ => ?_)
  refine lv_aload_n C.1.1 C.1.2.1 dL_tables_26 rfl (lv_at hl 0 rfl) ?_
  refine fl_iconst C.1 dL_tables_27 ?_
  refine fl_iconst C.1 dL_tables_28 ?_
  refine fl_iconst C.1 dL_tables_29 ?_
  refine j_answer hst C (by exact ⟨(Nat.le_of_ble_eq_true rfl), (Nat.le_of_ble_eq_true rfl)⟩) hI hl.1 (rgk 0 rfl) (rgk 0 rfl) (rgk 0 rfl) tSf3 (Nat.le_of_ble_eq_true rfl) ⟨(Nat.le_of_ble_eq_true rfl), (Nat.le_of_ble_eq_true rfl)⟩ dL_tables_30 (fun H locs hI _ => ?_)
  refine fl_if_ne (tgt := 162) C.1 (rgk 0 rfl) dL_tables_33 (by decide) (fun h => absurd rfl h) (fun _ => ?_)
  refine lv_aload_n C.1.1 C.1.2.1 dL_tables_36 rfl (lv_at hl 0 rfl) ?_
  refine fl_ldc (n := 99050) C.1 aw_833 rfl dL_tables_37 ?_
  refine fl_iconst C.1 dL_tables_39 ?_
  refine k_qcodes (N := 5) hst C ⟨(Nat.le_of_ble_eq_true rfl), (Nat.le_of_ble_eq_true rfl)⟩ hI hl.1 rfl (Nat.le_of_ble_eq_true rfl) (by decide) tSf4 (Nat.le_of_ble_eq_true rfl) ⟨(Nat.le_of_ble_eq_true rfl), (Nat.le_of_ble_eq_true rfl)⟩ dL_tables_40 (fun H locs hI _ => ?_)
  refine fl_iconst C.1 dL_tables_43 ?_
  refine fl_icmp_ne (tgt := 162) C.1 (rgk 5 rfl) (rgk 5 rfl) dL_tables_44 (by decide) (fun h => absurd rfl h) (fun _ => ?_)
  refine lv_aload_n C.1.1 C.1.2.1 dL_tables_47 rfl (lv_at hl 0 rfl) ?_
  refine j_clear C (by exact ⟨(Nat.le_of_ble_eq_true rfl), (Nat.le_of_ble_eq_true rfl)⟩) hI hl.1 tSf5 (Nat.le_of_ble_eq_true rfl) ⟨(Nat.le_of_ble_eq_true rfl), (Nat.le_of_ble_eq_true rfl)⟩ dL_tables_48 (fun H locs hI _ => ?_)
  refine fl_iconst C.1 dL_tables_51 ?_
  refine fl_icmp_ne (tgt := 162) C.1 (rgk 5 rfl) (rgk 5 rfl) dL_tables_52 (by decide) (fun h => absurd rfl h) (fun _ => ?_)
  refine lv_aload_n C.1.1 C.1.2.1 dL_tables_55 rfl (lv_at hl 0 rfl) ?_
  refine fl_sipush C.1 dL_tables_56 (by decide) ?_
  refine fl_iconst C.1 dL_tables_59 ?_
  refine k_qcodes (N := 4) hst C ⟨(Nat.le_of_ble_eq_true rfl), (Nat.le_of_ble_eq_true rfl)⟩ hI hl.1 rfl (Nat.le_of_ble_eq_true rfl) (by decide) tSf6 (Nat.le_of_ble_eq_true rfl) ⟨(Nat.le_of_ble_eq_true rfl), (Nat.le_of_ble_eq_true rfl)⟩ dL_tables_60 (fun H locs hI _ => ?_)
  refine fl_iconst C.1 dL_tables_63 ?_
  refine fl_icmp_ne (tgt := 162) C.1 (rgk 4 rfl) (rgk 4 rfl) dL_tables_64 (by decide) (fun h => absurd rfl h) (fun _ => ?_)
  refine lv_aload_n C.1.1 C.1.2.1 dL_tables_67 rfl (lv_at hl 0 rfl) ?_
  refine fl_iconst C.1 dL_tables_68 ?_
  refine fl_iconst C.1 dL_tables_69 ?_
  refine j_problem hst C (by exact ⟨(Nat.le_of_ble_eq_true rfl), (Nat.le_of_ble_eq_true rfl)⟩) hI hl.1 (rgk 4 rfl) (rgk 1 rfl) tSf7 (Nat.le_of_ble_eq_true rfl) ⟨(Nat.le_of_ble_eq_true rfl), (Nat.le_of_ble_eq_true rfl)⟩ dL_tables_70 (fun H locs hI _ => ?_)
  refine fl_iconst C.1 dL_tables_73 ?_
  refine fl_icmp_ne (tgt := 162) C.1 (rgk 1 rfl) (rgk 1 rfl) dL_tables_74 (by decide) (fun h => absurd rfl h) (fun _ => ?_)
  refine lv_aload_n C.1.1 C.1.2.1 dL_tables_77 rfl (lv_at hl 0 rfl) ?_
  refine fl_bipush C.1 dL_tables_78 (by decide) ?_
  refine j_input hst C (by exact ⟨(Nat.le_of_ble_eq_true rfl), (Nat.le_of_ble_eq_true rfl)⟩) hI hl.1 (rgk 6 rfl) tSf8 (Nat.le_of_ble_eq_true rfl) ⟨(Nat.le_of_ble_eq_true rfl), (Nat.le_of_ble_eq_true rfl)⟩ dL_tables_80 (fun H locs hI _ => ?_)
  refine fl_iconst C.1 dL_tables_83 ?_
  refine fl_icmp_ne (tgt := 162) C.1 (rgk 1 rfl) (rgk 1 rfl) dL_tables_84 (by decide) (fun h => absurd rfl h) (fun _ => ?_)
  refine lv_aload_n C.1.1 C.1.2.1 dL_tables_87 rfl (lv_at hl 0 rfl) ?_
  refine fl_iconst C.1 dL_tables_88 ?_
  refine fl_iconst C.1 dL_tables_89 ?_
  refine j_test hst C (by exact ⟨(Nat.le_of_ble_eq_true rfl), (Nat.le_of_ble_eq_true rfl)⟩) hI hl.1 (rgk 1 rfl) (rgk 0 rfl) tSf9 (Nat.le_of_ble_eq_true rfl) ⟨(Nat.le_of_ble_eq_true rfl), (Nat.le_of_ble_eq_true rfl)⟩ dL_tables_90 (fun H locs hI _ => ?_)
  refine fl_if_ne (tgt := 162) C.1 (rgk 0 rfl) dL_tables_93 (by decide) (fun h => absurd rfl h) (fun _ => ?_)
  refine lv_aload_n C.1.1 C.1.2.1 dL_tables_96 rfl (lv_at hl 0 rfl) ?_
  refine fl_iconst C.1 dL_tables_97 ?_
  refine fl_iconst C.1 dL_tables_98 ?_
  refine fl_iconst C.1 dL_tables_99 ?_
  refine j_answer hst C (by exact ⟨(Nat.le_of_ble_eq_true rfl), (Nat.le_of_ble_eq_true rfl)⟩) hI hl.1 (rgk 1 rfl) (rgk 0 rfl) (rgk 1 rfl) tSf10 (Nat.le_of_ble_eq_true rfl) ⟨(Nat.le_of_ble_eq_true rfl), (Nat.le_of_ble_eq_true rfl)⟩ dL_tables_100 (fun H locs hI _ => ?_)
  refine fl_bipush C.1 dL_tables_103 (by decide) ?_
  refine fl_icmp_ne (tgt := 162) C.1 (rgk 6 rfl) (rgk 6 rfl) dL_tables_105 (by decide) (fun h => absurd rfl h) (fun _ => ?_)
  refine lv_aload_n C.1.1 C.1.2.1 dL_tables_108 rfl (lv_at hl 0 rfl) ?_
  refine fl_iconst C.1 dL_tables_109 ?_
  refine fl_iconst C.1 dL_tables_110 ?_
  refine j_code hst C (by exact ⟨(Nat.le_of_ble_eq_true rfl), (Nat.le_of_ble_eq_true rfl)⟩) hI hl.1 (rgk 1 rfl) (rgk 1 rfl) tSf11 (Nat.le_of_ble_eq_true rfl) ⟨(Nat.le_of_ble_eq_true rfl), (Nat.le_of_ble_eq_true rfl)⟩ dL_tables_111 (fun H locs hI _ => ?_)
  refine fl_iconst C.1 dL_tables_114 ?_
  refine fl_icmp_ne (tgt := 162) C.1 (rgk 1 rfl) (rgk 1 rfl) dL_tables_115 (by decide) (fun h => absurd rfl h) (fun _ => ?_)
  refine lv_aload_n C.1.1 C.1.2.1 dL_tables_118 rfl (lv_at hl 0 rfl) ?_
  refine fl_bipush C.1 dL_tables_119 (by decide) ?_
  refine fl_iconst C.1 dL_tables_121 ?_
  refine j_code hst C (by exact ⟨(Nat.le_of_ble_eq_true rfl), (Nat.le_of_ble_eq_true rfl)⟩) hI hl.1 (rgk 9 rfl) (rgk 0 rfl) tSf12 (Nat.le_of_ble_eq_true rfl) ⟨(Nat.le_of_ble_eq_true rfl), (Nat.le_of_ble_eq_true rfl)⟩ dL_tables_122 (fun H locs hI _ => ?_)
  refine fl_iconst C.1 dL_tables_125 ?_
  refine fl_icmp_ne (tgt := 162) C.1 (rgk 2 rfl) (rgk 2 rfl) dL_tables_126 (by decide) (fun h => absurd rfl h) (fun _ => ?_)
  refine lv_aload_n C.1.1 C.1.2.1 dL_tables_129 rfl (lv_at hl 0 rfl) ?_
  refine fl_iconst C.1 dL_tables_130 ?_
  refine fl_iconst C.1 dL_tables_131 ?_
  refine j_code hst C (by exact ⟨(Nat.le_of_ble_eq_true rfl), (Nat.le_of_ble_eq_true rfl)⟩) hI hl.1 (rgk 1 rfl) (rgk 2 rfl) tSf13 (Nat.le_of_ble_eq_true rfl) ⟨(Nat.le_of_ble_eq_true rfl), (Nat.le_of_ble_eq_true rfl)⟩ dL_tables_132 (fun H locs hI _ => ?_)
  refine fl_iconst C.1 dL_tables_135 ?_
  refine fl_icmp_ne (tgt := 162) C.1 (rgk 3 rfl) (rgk 3 rfl) dL_tables_136 (by decide) (fun h => absurd rfl h) (fun _ => ?_)
  refine lv_aload_n C.1.1 C.1.2.1 dL_tables_139 rfl (lv_at hl 0 rfl) ?_
  refine fl_bipush C.1 dL_tables_140 (by decide) ?_
  refine fl_iconst C.1 dL_tables_142 ?_
  refine j_code hst C (by exact ⟨(Nat.le_of_ble_eq_true rfl), (Nat.le_of_ble_eq_true rfl)⟩) hI hl.1 (rgk 9 rfl) (rgk 0 rfl) tSf14 (Nat.le_of_ble_eq_true rfl) ⟨(Nat.le_of_ble_eq_true rfl), (Nat.le_of_ble_eq_true rfl)⟩ dL_tables_143 (fun H locs hI _ => ?_)
  refine fl_iconst C.1 dL_tables_146 ?_
  refine fl_icmp_ne (tgt := 162) C.1 (rgk 4 rfl) (rgk 4 rfl) dL_tables_147 (by decide) (fun h => absurd rfl h) (fun _ => ?_)
  refine lv_aload_n C.1.1 C.1.2.1 dL_tables_150 rfl (lv_at hl 0 rfl) ?_
  refine fl_sipush C.1 dL_tables_151 (by decide) ?_
  refine fl_iconst C.1 dL_tables_154 ?_
  refine j_problem hst C (by exact ⟨(Nat.le_of_ble_eq_true rfl), (Nat.le_of_ble_eq_true rfl)⟩) hI hl.1 (rgk 500 rfl) (rgk 1 rfl) tSf15 (Nat.le_of_ble_eq_true rfl) ⟨(Nat.le_of_ble_eq_true rfl), (Nat.le_of_ble_eq_true rfl)⟩ dL_tables_155 (fun H locs hI _ => ?_)
  refine fl_iconst C.1 dL_tables_158 ?_
  refine fl_icmp_eq (tgt := 164) C.1 (rgk 2 rfl) (rgk 2 rfl) dL_tables_159 (by decide) (fun _ => ?_) (fun h => absurd (by decide) h)
  refine lv_aload_n C.1.1 C.1.2.1 dL_tables_164 rfl (lv_at hl 0 rfl) ?_
  refine fl_iconst C.1 dL_tables_165 ?_
  refine fl_bipush C.1 dL_tables_166 (by decide) ?_
  refine j_code hst C (by exact ⟨(Nat.le_of_ble_eq_true rfl), (Nat.le_of_ble_eq_true rfl)⟩) hI hl.1 (rgk 1 rfl) (rgk 7 rfl) tSf16 (Nat.le_of_ble_eq_true rfl) ⟨(Nat.le_of_ble_eq_true rfl), (Nat.le_of_ble_eq_true rfl)⟩ dL_tables_168 (fun H locs hI _ => ?_)
  refine fl_iconst C.1 dL_tables_171 ?_
  refine fl_icmp_ne (tgt := 400) C.1 (rgk 1 rfl) (rgk 1 rfl) dL_tables_172 (by decide) (fun h => absurd rfl h) (fun _ => ?_)
  refine lv_aload_n C.1.1 C.1.2.1 dL_tables_175 rfl (lv_at hl 0 rfl) ?_
  refine fl_bipush C.1 dL_tables_176 (by decide) ?_
  refine fl_iconst C.1 dL_tables_178 ?_
  refine j_code hst C (by exact ⟨(Nat.le_of_ble_eq_true rfl), (Nat.le_of_ble_eq_true rfl)⟩) hI hl.1 (rgk 9 rfl) (rgk 0 rfl) tSf17 (Nat.le_of_ble_eq_true rfl) ⟨(Nat.le_of_ble_eq_true rfl), (Nat.le_of_ble_eq_true rfl)⟩ dL_tables_179 (fun H locs hI _ => ?_)
  refine fl_iconst C.1 dL_tables_182 ?_
  refine fl_icmp_ne (tgt := 400) C.1 (rgk 2 rfl) (rgk 2 rfl) dL_tables_183 (by decide) (fun h => absurd rfl h) (fun _ => ?_)
  refine lv_aload_n C.1.1 C.1.2.1 dL_tables_186 rfl (lv_at hl 0 rfl) ?_
  refine fl_iconst C.1 dL_tables_187 ?_
  refine fl_iconst C.1 dL_tables_188 ?_
  refine j_code hst C (by exact ⟨(Nat.le_of_ble_eq_true rfl), (Nat.le_of_ble_eq_true rfl)⟩) hI hl.1 (rgk 1 rfl) (rgk 5 rfl) tSf18 (Nat.le_of_ble_eq_true rfl) ⟨(Nat.le_of_ble_eq_true rfl), (Nat.le_of_ble_eq_true rfl)⟩ dL_tables_189 (fun H locs hI _ => ?_)
  refine fl_iconst C.1 dL_tables_192 ?_
  refine fl_icmp_ne (tgt := 400) C.1 (rgk 3 rfl) (rgk 3 rfl) dL_tables_193 (by decide) (fun h => absurd rfl h) (fun _ => ?_)
  refine lv_aload_n C.1.1 C.1.2.1 dL_tables_196 rfl (lv_at hl 0 rfl) ?_
  refine fl_bipush C.1 dL_tables_197 (by decide) ?_
  refine fl_iconst C.1 dL_tables_199 ?_
  refine j_code hst C (by exact ⟨(Nat.le_of_ble_eq_true rfl), (Nat.le_of_ble_eq_true rfl)⟩) hI hl.1 (rgk 9 rfl) (rgk 0 rfl) tSf19 (Nat.le_of_ble_eq_true rfl) ⟨(Nat.le_of_ble_eq_true rfl), (Nat.le_of_ble_eq_true rfl)⟩ dL_tables_200 (fun H locs hI _ => ?_)
  refine fl_iconst C.1 dL_tables_203 ?_
  refine fl_icmp_ne (tgt := 400) C.1 (rgk 4 rfl) (rgk 4 rfl) dL_tables_204 (by decide) (fun h => absurd rfl h) (fun _ => ?_)
  refine lv_aload_n C.1.1 C.1.2.1 dL_tables_207 rfl (lv_at hl 0 rfl) ?_
  refine fl_iconst C.1 dL_tables_208 ?_
  refine fl_iconst C.1 dL_tables_209 ?_
  refine j_enter hst C (by exact ⟨(Nat.le_of_ble_eq_true rfl), (Nat.le_of_ble_eq_true rfl)⟩) hI hl.1 (rgk 0 rfl) (rgk 1 rfl) tSf20 (Nat.le_of_ble_eq_true rfl) ⟨(Nat.le_of_ble_eq_true rfl), (Nat.le_of_ble_eq_true rfl)⟩ dL_tables_210 (fun H locs hI _ => ?_)
  refine fl_if_ne (tgt := 400) C.1 (rgk 0 rfl) dL_tables_213 (by decide) (fun h => absurd rfl h) (fun _ => ?_)
  refine lv_aload_n C.1.1 C.1.2.1 dL_tables_216 rfl (lv_at hl 0 rfl) ?_
  refine fl_iconst C.1 dL_tables_217 ?_
  refine fl_bipush C.1 dL_tables_218 (by decide) ?_
  refine j_code hst C (by exact ⟨(Nat.le_of_ble_eq_true rfl), (Nat.le_of_ble_eq_true rfl)⟩) hI hl.1 (rgk 1 rfl) (rgk 7 rfl) tSf21 (Nat.le_of_ble_eq_true rfl) ⟨(Nat.le_of_ble_eq_true rfl), (Nat.le_of_ble_eq_true rfl)⟩ dL_tables_220 (fun H locs hI _ => ?_)
  refine fl_iconst C.1 dL_tables_223 ?_
  refine fl_icmp_ne (tgt := 400) C.1 (rgk 1 rfl) (rgk 1 rfl) dL_tables_224 (by decide) (fun h => absurd rfl h) (fun _ => ?_)
  refine lv_aload_n C.1.1 C.1.2.1 dL_tables_227 rfl (lv_at hl 0 rfl) ?_
  refine fl_bipush C.1 dL_tables_228 (by decide) ?_
  refine fl_iconst C.1 dL_tables_230 ?_
  refine j_code hst C (by exact ⟨(Nat.le_of_ble_eq_true rfl), (Nat.le_of_ble_eq_true rfl)⟩) hI hl.1 (rgk 9 rfl) (rgk 0 rfl) tSf22 (Nat.le_of_ble_eq_true rfl) ⟨(Nat.le_of_ble_eq_true rfl), (Nat.le_of_ble_eq_true rfl)⟩ dL_tables_231 (fun H locs hI _ => ?_)
  refine fl_iconst C.1 dL_tables_234 ?_
  refine fl_icmp_ne (tgt := 400) C.1 (rgk 2 rfl) (rgk 2 rfl) dL_tables_235 (by decide) (fun h => absurd rfl h) (fun _ => ?_)
  refine lv_aload_n C.1.1 C.1.2.1 dL_tables_238 rfl (lv_at hl 0 rfl) ?_
  refine fl_iconst C.1 dL_tables_239 ?_
  refine fl_bipush C.1 dL_tables_240 (by decide) ?_
  refine j_code hst C (by exact ⟨(Nat.le_of_ble_eq_true rfl), (Nat.le_of_ble_eq_true rfl)⟩) hI hl.1 (rgk 1 rfl) (rgk 8 rfl) tSf23 (Nat.le_of_ble_eq_true rfl) ⟨(Nat.le_of_ble_eq_true rfl), (Nat.le_of_ble_eq_true rfl)⟩ dL_tables_242 (fun H locs hI _ => ?_)
  refine fl_iconst C.1 dL_tables_245 ?_
  refine fl_icmp_ne (tgt := 400) C.1 (rgk 3 rfl) (rgk 3 rfl) dL_tables_246 (by decide) (fun h => absurd rfl h) (fun _ => ?_)
  refine lv_aload_n C.1.1 C.1.2.1 dL_tables_249 rfl (lv_at hl 0 rfl) ?_
  refine fl_bipush C.1 dL_tables_250 (by decide) ?_
  refine fl_iconst C.1 dL_tables_252 ?_
  refine j_code hst C (by exact ⟨(Nat.le_of_ble_eq_true rfl), (Nat.le_of_ble_eq_true rfl)⟩) hI hl.1 (rgk 9 rfl) (rgk 0 rfl) tSf24 (Nat.le_of_ble_eq_true rfl) ⟨(Nat.le_of_ble_eq_true rfl), (Nat.le_of_ble_eq_true rfl)⟩ dL_tables_253 (fun H locs hI _ => ?_)
  refine fl_iconst C.1 dL_tables_256 ?_
  refine fl_icmp_ne (tgt := 400) C.1 (rgk 4 rfl) (rgk 4 rfl) dL_tables_257 (by decide) (fun h => absurd rfl h) (fun _ => ?_)
  exact W.widen (Nat.le_of_ble_eq_true rfl) (Nat.le_of_ble_eq_true rfl) (kk H locs ls hI hl)
set_option maxRecDepth 100000 in
set_option maxHeartbeats 4000000 in
theorem w_tables_1 (hst : l.stackTraces = false) (C : LC p s m meth c D cy B cL_tables 2) (kk : ∀ (H : Heap) (locs : List Loc) (ls : Array Slot), HI D cy B s.heap H locs x tS43 → lv_has ls 2 [(1, iv 8), (0, .ref x)] → W p l e rm_L_tables s m args below meth c H locs 304 28079 Q (F0 m 463 ls [])) : ∀ (H : Heap) (locs : List Loc) (ls : Array Slot), HI D cy B s.heap H locs x tS22 → lv_has ls 2 [(0, .ref x)] → W p l e rm_L_tables s m args below meth c H locs 159 13118 Q (F0 m 260 ls []) := by
  intro H locs ls hI hl
  refine lv_aload_n C.1.1 C.1.2.1 dL_tables_260 rfl (lv_at hl 0 rfl) ?_
  refine fl_iconst C.1 dL_tables_261 ?_
  refine fl_iconst C.1 dL_tables_262 ?_
  refine j_enter hst C (by exact ⟨(Nat.le_of_ble_eq_true rfl), (Nat.le_of_ble_eq_true rfl)⟩) hI hl.1 (rgk 1 rfl) (rgk 1 rfl) tSf25 (Nat.le_of_ble_eq_true rfl) ⟨(Nat.le_of_ble_eq_true rfl), (Nat.le_of_ble_eq_true rfl)⟩ dL_tables_263 (fun H locs hI _ => ?_)
  refine fl_iconst C.1 dL_tables_266 ?_
  refine fl_icmp_ne (tgt := 400) C.1 (rgk 1 rfl) (rgk 1 rfl) dL_tables_267 (by decide) (fun h => absurd rfl h) (fun _ => ?_)
  refine lv_aload_n C.1.1 C.1.2.1 dL_tables_270 rfl (lv_at hl 0 rfl) ?_
  refine fl_bipush C.1 dL_tables_271 (by decide) ?_
  refine fl_iconst C.1 dL_tables_273 ?_
  refine k_qcodes (N := 2) hst C ⟨(Nat.le_of_ble_eq_true rfl), (Nat.le_of_ble_eq_true rfl)⟩ hI hl.1 rfl (Nat.le_of_ble_eq_true rfl) (by decide) tSf26 (Nat.le_of_ble_eq_true rfl) ⟨(Nat.le_of_ble_eq_true rfl), (Nat.le_of_ble_eq_true rfl)⟩ dL_tables_274 (fun H locs hI _ => ?_)
  refine fl_iconst C.1 dL_tables_277 ?_
  refine fl_icmp_ne (tgt := 400) C.1 (rgk 2 rfl) (rgk 2 rfl) dL_tables_278 (by decide) (fun h => absurd rfl h) (fun _ => ?_)
  refine lv_aload_n C.1.1 C.1.2.1 dL_tables_281 rfl (lv_at hl 0 rfl) ?_
  refine fl_iconst C.1 dL_tables_282 ?_
  refine fl_iconst C.1 dL_tables_283 ?_
  refine j_enter hst C (by exact ⟨(Nat.le_of_ble_eq_true rfl), (Nat.le_of_ble_eq_true rfl)⟩) hI hl.1 (rgk 2 rfl) (rgk 1 rfl) tSf27 (Nat.le_of_ble_eq_true rfl) ⟨(Nat.le_of_ble_eq_true rfl), (Nat.le_of_ble_eq_true rfl)⟩ dL_tables_284 (fun H locs hI _ => ?_)
  refine fl_iconst C.1 dL_tables_287 ?_
  refine fl_icmp_ne (tgt := 400) C.1 (rgk 2 rfl) (rgk 2 rfl) dL_tables_288 (by decide) (fun h => absurd rfl h) (fun _ => ?_)
  refine lv_aload_n C.1.1 C.1.2.1 dL_tables_291 rfl (lv_at hl 0 rfl) ?_
  refine fl_sipush C.1 dL_tables_292 (by decide) ?_
  refine fl_iconst C.1 dL_tables_295 ?_
  refine k_qcodes (N := 4) hst C ⟨(Nat.le_of_ble_eq_true rfl), (Nat.le_of_ble_eq_true rfl)⟩ hI hl.1 rfl (Nat.le_of_ble_eq_true rfl) (by decide) tSf28 (Nat.le_of_ble_eq_true rfl) ⟨(Nat.le_of_ble_eq_true rfl), (Nat.le_of_ble_eq_true rfl)⟩ dL_tables_296 (fun H locs hI _ => ?_)
  refine fl_iconst C.1 dL_tables_299 ?_
  refine fl_icmp_ne (tgt := 400) C.1 (rgk 4 rfl) (rgk 4 rfl) dL_tables_300 (by decide) (fun h => absurd rfl h) (fun _ => ?_)
  refine lv_aload_n C.1.1 C.1.2.1 dL_tables_303 rfl (lv_at hl 0 rfl) ?_
  refine fl_bipush C.1 dL_tables_304 (by decide) ?_
  refine fl_iconst C.1 dL_tables_306 ?_
  refine j_code hst C (by exact ⟨(Nat.le_of_ble_eq_true rfl), (Nat.le_of_ble_eq_true rfl)⟩) hI hl.1 (rgk 8 rfl) (rgk 5 rfl) tSf29 (Nat.le_of_ble_eq_true rfl) ⟨(Nat.le_of_ble_eq_true rfl), (Nat.le_of_ble_eq_true rfl)⟩ dL_tables_307 (fun H locs hI _ => ?_)
  refine fl_iconst C.1 dL_tables_310 ?_
  refine fl_icmp_ne (tgt := 400) C.1 (rgk 5 rfl) (rgk 5 rfl) dL_tables_311 (by decide) (fun h => absurd rfl h) (fun _ => ?_)
  refine lv_aload_n C.1.1 C.1.2.1 dL_tables_314 rfl (lv_at hl 0 rfl) ?_
  refine fl_iconst C.1 dL_tables_315 ?_
  refine fl_iconst C.1 dL_tables_316 ?_
  refine j_enter hst C (by exact ⟨(Nat.le_of_ble_eq_true rfl), (Nat.le_of_ble_eq_true rfl)⟩) hI hl.1 (rgk 3 rfl) (rgk 1 rfl) tSf30 (Nat.le_of_ble_eq_true rfl) ⟨(Nat.le_of_ble_eq_true rfl), (Nat.le_of_ble_eq_true rfl)⟩ dL_tables_317 (fun H locs hI _ => ?_)
  refine fl_iconst C.1 dL_tables_320 ?_
  refine fl_icmp_ne (tgt := 400) C.1 (rgk 3 rfl) (rgk 3 rfl) dL_tables_321 (by decide) (fun h => absurd rfl h) (fun _ => ?_)
  refine lv_aload_n C.1.1 C.1.2.1 dL_tables_324 rfl (lv_at hl 0 rfl) ?_
  refine fl_iconst C.1 dL_tables_325 ?_
  refine fl_iconst C.1 dL_tables_326 ?_
  refine j_enter hst C (by exact ⟨(Nat.le_of_ble_eq_true rfl), (Nat.le_of_ble_eq_true rfl)⟩) hI hl.1 (rgk 4 rfl) (rgk 0 rfl) tSf31 (Nat.le_of_ble_eq_true rfl) ⟨(Nat.le_of_ble_eq_true rfl), (Nat.le_of_ble_eq_true rfl)⟩ dL_tables_327 (fun H locs hI _ => ?_)
  refine fl_iconst C.1 dL_tables_330 ?_
  refine fl_icmp_ne (tgt := 400) C.1 (rgk 4 rfl) (rgk 4 rfl) dL_tables_331 (by decide) (fun h => absurd rfl h) (fun _ => ?_)
  refine lv_aload_n C.1.1 C.1.2.1 dL_tables_334 rfl (lv_at hl 0 rfl) ?_
  refine fl_bipush C.1 dL_tables_335 (by decide) ?_
  refine fl_iconst C.1 dL_tables_337 ?_
  refine k_qcodes (N := 1) hst C ⟨(Nat.le_of_ble_eq_true rfl), (Nat.le_of_ble_eq_true rfl)⟩ hI hl.1 rfl (Nat.le_of_ble_eq_true rfl) (by decide) tSf32 (Nat.le_of_ble_eq_true rfl) ⟨(Nat.le_of_ble_eq_true rfl), (Nat.le_of_ble_eq_true rfl)⟩ dL_tables_338 (fun H locs hI _ => ?_)
  refine fl_iconst C.1 dL_tables_341 ?_
  refine fl_icmp_ne (tgt := 400) C.1 (rgk 1 rfl) (rgk 1 rfl) dL_tables_342 (by decide) (fun h => absurd rfl h) (fun _ => ?_)
  refine lv_aload_n C.1.1 C.1.2.1 dL_tables_345 rfl (lv_at hl 0 rfl) ?_
  refine fl_iconst C.1 dL_tables_346 ?_
  refine fl_iconst C.1 dL_tables_347 ?_
  refine j_enter hst C (by exact ⟨(Nat.le_of_ble_eq_true rfl), (Nat.le_of_ble_eq_true rfl)⟩) hI hl.1 (rgk 5 rfl) (rgk 0 rfl) tSf33 (Nat.le_of_ble_eq_true rfl) ⟨(Nat.le_of_ble_eq_true rfl), (Nat.le_of_ble_eq_true rfl)⟩ dL_tables_348 (fun H locs hI _ => ?_)
  refine fl_iconst C.1 dL_tables_351 ?_
  refine fl_icmp_ne (tgt := 400) C.1 (rgk 5 rfl) (rgk 5 rfl) dL_tables_352 (by decide) (fun h => absurd rfl h) (fun _ => ?_)
  refine lv_aload_n C.1.1 C.1.2.1 dL_tables_355 rfl (lv_at hl 0 rfl) ?_
  refine fl_iconst C.1 dL_tables_356 ?_
  refine fl_iconst C.1 dL_tables_357 ?_
  refine j_code hst C (by exact ⟨(Nat.le_of_ble_eq_true rfl), (Nat.le_of_ble_eq_true rfl)⟩) hI hl.1 (rgk 1 rfl) (rgk 1 rfl) tSf34 (Nat.le_of_ble_eq_true rfl) ⟨(Nat.le_of_ble_eq_true rfl), (Nat.le_of_ble_eq_true rfl)⟩ dL_tables_358 (fun H locs hI _ => ?_)
  refine fl_iconst C.1 dL_tables_361 ?_
  refine fl_icmp_ne (tgt := 400) C.1 (rgk 1 rfl) (rgk 1 rfl) dL_tables_362 (by decide) (fun h => absurd rfl h) (fun _ => ?_)
  refine lv_aload_n C.1.1 C.1.2.1 dL_tables_365 rfl (lv_at hl 0 rfl) ?_
  refine fl_bipush C.1 dL_tables_366 (by decide) ?_
  refine fl_iconst C.1 dL_tables_368 ?_
  refine j_code hst C (by exact ⟨(Nat.le_of_ble_eq_true rfl), (Nat.le_of_ble_eq_true rfl)⟩) hI hl.1 (rgk 9 rfl) (rgk 0 rfl) tSf35 (Nat.le_of_ble_eq_true rfl) ⟨(Nat.le_of_ble_eq_true rfl), (Nat.le_of_ble_eq_true rfl)⟩ dL_tables_369 (fun H locs hI _ => ?_)
  refine fl_iconst C.1 dL_tables_372 ?_
  refine fl_icmp_ne (tgt := 400) C.1 (rgk 2 rfl) (rgk 2 rfl) dL_tables_373 (by decide) (fun h => absurd rfl h) (fun _ => ?_)
  refine lv_aload_n C.1.1 C.1.2.1 dL_tables_376 rfl (lv_at hl 0 rfl) ?_
  refine fl_bipush C.1 dL_tables_377 (by decide) ?_
  refine fl_iconst C.1 dL_tables_379 ?_
  refine j_enter hst C (by exact ⟨(Nat.le_of_ble_eq_true rfl), (Nat.le_of_ble_eq_true rfl)⟩) hI hl.1 (rgk 6 rfl) (rgk 0 rfl) tSf36 (Nat.le_of_ble_eq_true rfl) ⟨(Nat.le_of_ble_eq_true rfl), (Nat.le_of_ble_eq_true rfl)⟩ dL_tables_380 (fun H locs hI _ => ?_)
  refine fl_bipush C.1 dL_tables_383 (by decide) ?_
  refine fl_icmp_ne (tgt := 400) C.1 (rgk 6 rfl) (rgk 6 rfl) dL_tables_385 (by decide) (fun h => absurd rfl h) (fun _ => ?_)
  refine lv_aload_n C.1.1 C.1.2.1 dL_tables_388 rfl (lv_at hl 0 rfl) ?_
  refine fl_bipush C.1 dL_tables_389 (by decide) ?_
  refine fl_iconst C.1 dL_tables_391 ?_
  refine j_enter hst C (by exact ⟨(Nat.le_of_ble_eq_true rfl), (Nat.le_of_ble_eq_true rfl)⟩) hI hl.1 (rgk 7 rfl) (rgk 2 rfl) tSf37 (Nat.le_of_ble_eq_true rfl) ⟨(Nat.le_of_ble_eq_true rfl), (Nat.le_of_ble_eq_true rfl)⟩ dL_tables_392 (fun H locs hI _ => ?_)
  refine fl_bipush C.1 dL_tables_395 (by decide) ?_
  refine fl_icmp_eq (tgt := 402) C.1 (rgk 7 rfl) (rgk 7 rfl) dL_tables_397 (by decide) (fun _ => ?_) (fun h => absurd (by decide) h)
  refine fl_iconst C.1 dL_tables_402 ?_
  refine lv_istore_n (lv' := [(1, iv 0), (0, .ref x)]) C.1.1 C.1.2.1 dL_tables_403 rfl hl (by decide) rfl (fun ls hl => ?_)
  refine lv_iload_n C.1.1 C.1.2.1 dL_tables_404 rfl (lv_at hl 0 rfl) ?_
  refine fl_bipush C.1 dL_tables_405 (by decide) ?_
  refine fl_icmp_ge (tgt := 426) C.1 (rgk 0 rfl) (rgk 8 rfl) dL_tables_407 (by decide) (fun h => absurd h (by decide)) (fun _ => ?_)
  refine lv_aload_n C.1.1 C.1.2.1 dL_tables_410 rfl (lv_at hl 1 rfl) ?_
  refine j_judge C (by exact ⟨(Nat.le_of_ble_eq_true rfl), (Nat.le_of_ble_eq_true rfl)⟩) hI hl.1 tSf38 (Nat.le_of_ble_eq_true rfl) ⟨(Nat.le_of_ble_eq_true rfl), (Nat.le_of_ble_eq_true rfl)⟩ dL_tables_411 (fun H locs hI _ => ?_)
  refine lv_iload_n C.1.1 C.1.2.1 dL_tables_414 rfl (lv_at hl 0 rfl) ?_
  refine fl_icmp_eq (tgt := 420) C.1 (rgk 0 rfl) (rgk 0 rfl) dL_tables_415 (by decide) (fun _ => ?_) (fun h => absurd (by decide) h)
  refine fl_iinc (k := 0) (lv' := [(1, iv (wr (0 + 1))), (0, .ref x)]) C.1 dL_tables_420 hl rfl (by decide) rfl (fun ls hl => ?_)
  rw [show wr (0 + 1) = (1 : Int) from by decide +kernel] at hl
  refine fl_goto (tgt := 404) C.1 dL_tables_423 (by decide) ?_
  refine lv_iload_n C.1.1 C.1.2.1 dL_tables_404 rfl (lv_at hl 0 rfl) ?_
  refine fl_bipush C.1 dL_tables_405 (by decide) ?_
  refine fl_icmp_ge (tgt := 426) C.1 (rgk 1 rfl) (rgk 8 rfl) dL_tables_407 (by decide) (fun h => absurd h (by decide)) (fun _ => ?_)
  refine lv_aload_n C.1.1 C.1.2.1 dL_tables_410 rfl (lv_at hl 1 rfl) ?_
  refine j_judge C (by exact ⟨(Nat.le_of_ble_eq_true rfl), (Nat.le_of_ble_eq_true rfl)⟩) hI hl.1 tSf39 (Nat.le_of_ble_eq_true rfl) ⟨(Nat.le_of_ble_eq_true rfl), (Nat.le_of_ble_eq_true rfl)⟩ dL_tables_411 (fun H locs hI _ => ?_)
  refine lv_iload_n C.1.1 C.1.2.1 dL_tables_414 rfl (lv_at hl 0 rfl) ?_
  refine fl_icmp_eq (tgt := 420) C.1 (rgk 1 rfl) (rgk 1 rfl) dL_tables_415 (by decide) (fun _ => ?_) (fun h => absurd (by decide) h)
  refine fl_iinc (k := 0) (lv' := [(1, iv (wr (1 + 1))), (0, .ref x)]) C.1 dL_tables_420 hl rfl (by decide) rfl (fun ls hl => ?_)
  rw [show wr (1 + 1) = (2 : Int) from by decide +kernel] at hl
  refine fl_goto (tgt := 404) C.1 dL_tables_423 (by decide) ?_
  refine lv_iload_n C.1.1 C.1.2.1 dL_tables_404 rfl (lv_at hl 0 rfl) ?_
  refine fl_bipush C.1 dL_tables_405 (by decide) ?_
  refine fl_icmp_ge (tgt := 426) C.1 (rgk 2 rfl) (rgk 8 rfl) dL_tables_407 (by decide) (fun h => absurd h (by decide)) (fun _ => ?_)
  refine lv_aload_n C.1.1 C.1.2.1 dL_tables_410 rfl (lv_at hl 1 rfl) ?_
  refine j_judge C (by exact ⟨(Nat.le_of_ble_eq_true rfl), (Nat.le_of_ble_eq_true rfl)⟩) hI hl.1 tSf40 (Nat.le_of_ble_eq_true rfl) ⟨(Nat.le_of_ble_eq_true rfl), (Nat.le_of_ble_eq_true rfl)⟩ dL_tables_411 (fun H locs hI _ => ?_)
  refine lv_iload_n C.1.1 C.1.2.1 dL_tables_414 rfl (lv_at hl 0 rfl) ?_
  refine fl_icmp_eq (tgt := 420) C.1 (rgk 2 rfl) (rgk 2 rfl) dL_tables_415 (by decide) (fun _ => ?_) (fun h => absurd (by decide) h)
  refine fl_iinc (k := 0) (lv' := [(1, iv (wr (2 + 1))), (0, .ref x)]) C.1 dL_tables_420 hl rfl (by decide) rfl (fun ls hl => ?_)
  rw [show wr (2 + 1) = (3 : Int) from by decide +kernel] at hl
  refine fl_goto (tgt := 404) C.1 dL_tables_423 (by decide) ?_
  refine lv_iload_n C.1.1 C.1.2.1 dL_tables_404 rfl (lv_at hl 0 rfl) ?_
  refine fl_bipush C.1 dL_tables_405 (by decide) ?_
  refine fl_icmp_ge (tgt := 426) C.1 (rgk 3 rfl) (rgk 8 rfl) dL_tables_407 (by decide) (fun h => absurd h (by decide)) (fun _ => ?_)
  refine lv_aload_n C.1.1 C.1.2.1 dL_tables_410 rfl (lv_at hl 1 rfl) ?_
  refine j_judge C (by exact ⟨(Nat.le_of_ble_eq_true rfl), (Nat.le_of_ble_eq_true rfl)⟩) hI hl.1 tSf41 (Nat.le_of_ble_eq_true rfl) ⟨(Nat.le_of_ble_eq_true rfl), (Nat.le_of_ble_eq_true rfl)⟩ dL_tables_411 (fun H locs hI _ => ?_)
  refine lv_iload_n C.1.1 C.1.2.1 dL_tables_414 rfl (lv_at hl 0 rfl) ?_
  refine fl_icmp_eq (tgt := 420) C.1 (rgk 3 rfl) (rgk 3 rfl) dL_tables_415 (by decide) (fun _ => ?_) (fun h => absurd (by decide) h)
  refine fl_iinc (k := 0) (lv' := [(1, iv (wr (3 + 1))), (0, .ref x)]) C.1 dL_tables_420 hl rfl (by decide) rfl (fun ls hl => ?_)
  rw [show wr (3 + 1) = (4 : Int) from by decide +kernel] at hl
  refine fl_goto (tgt := 404) C.1 dL_tables_423 (by decide) ?_
  refine lv_iload_n C.1.1 C.1.2.1 dL_tables_404 rfl (lv_at hl 0 rfl) ?_
  refine fl_bipush C.1 dL_tables_405 (by decide) ?_
  refine fl_icmp_ge (tgt := 426) C.1 (rgk 4 rfl) (rgk 8 rfl) dL_tables_407 (by decide) (fun h => absurd h (by decide)) (fun _ => ?_)
  refine lv_aload_n C.1.1 C.1.2.1 dL_tables_410 rfl (lv_at hl 1 rfl) ?_
  refine j_judge C (by exact ⟨(Nat.le_of_ble_eq_true rfl), (Nat.le_of_ble_eq_true rfl)⟩) hI hl.1 tSf42 (Nat.le_of_ble_eq_true rfl) ⟨(Nat.le_of_ble_eq_true rfl), (Nat.le_of_ble_eq_true rfl)⟩ dL_tables_411 (fun H locs hI _ => ?_)
  refine lv_iload_n C.1.1 C.1.2.1 dL_tables_414 rfl (lv_at hl 0 rfl) ?_
  refine fl_icmp_eq (tgt := 420) C.1 (rgk 4 rfl) (rgk 4 rfl) dL_tables_415 (by decide) (fun _ => ?_) (fun h => absurd (by decide) h)
  refine fl_iinc (k := 0) (lv' := [(1, iv (wr (4 + 1))), (0, .ref x)]) C.1 dL_tables_420 hl rfl (by decide) rfl (fun ls hl => ?_)
  rw [show wr (4 + 1) = (5 : Int) from by decide +kernel] at hl
  refine fl_goto (tgt := 404) C.1 dL_tables_423 (by decide) ?_
  refine lv_iload_n C.1.1 C.1.2.1 dL_tables_404 rfl (lv_at hl 0 rfl) ?_
  refine fl_bipush C.1 dL_tables_405 (by decide) ?_
  refine fl_icmp_ge (tgt := 426) C.1 (rgk 5 rfl) (rgk 8 rfl) dL_tables_407 (by decide) (fun h => absurd h (by decide)) (fun _ => ?_)
  refine lv_aload_n C.1.1 C.1.2.1 dL_tables_410 rfl (lv_at hl 1 rfl) ?_
  refine j_judge C (by exact ⟨(Nat.le_of_ble_eq_true rfl), (Nat.le_of_ble_eq_true rfl)⟩) hI hl.1 tSf43 (Nat.le_of_ble_eq_true rfl) ⟨(Nat.le_of_ble_eq_true rfl), (Nat.le_of_ble_eq_true rfl)⟩ dL_tables_411 (fun H locs hI _ => ?_)
  refine lv_iload_n C.1.1 C.1.2.1 dL_tables_414 rfl (lv_at hl 0 rfl) ?_
  refine fl_icmp_eq (tgt := 420) C.1 (rgk 5 rfl) (rgk 5 rfl) dL_tables_415 (by decide) (fun _ => ?_) (fun h => absurd (by decide) h)
  refine fl_iinc (k := 0) (lv' := [(1, iv (wr (5 + 1))), (0, .ref x)]) C.1 dL_tables_420 hl rfl (by decide) rfl (fun ls hl => ?_)
  rw [show wr (5 + 1) = (6 : Int) from by decide +kernel] at hl
  refine fl_goto (tgt := 404) C.1 dL_tables_423 (by decide) ?_
  refine lv_iload_n C.1.1 C.1.2.1 dL_tables_404 rfl (lv_at hl 0 rfl) ?_
  refine fl_bipush C.1 dL_tables_405 (by decide) ?_
  refine fl_icmp_ge (tgt := 426) C.1 (rgk 6 rfl) (rgk 8 rfl) dL_tables_407 (by decide) (fun h => absurd h (by decide)) (fun _ => ?_)
  refine lv_aload_n C.1.1 C.1.2.1 dL_tables_410 rfl (lv_at hl 1 rfl) ?_
  refine j_judge C (by exact ⟨(Nat.le_of_ble_eq_true rfl), (Nat.le_of_ble_eq_true rfl)⟩) hI hl.1 tSf44 (Nat.le_of_ble_eq_true rfl) ⟨(Nat.le_of_ble_eq_true rfl), (Nat.le_of_ble_eq_true rfl)⟩ dL_tables_411 (fun H locs hI _ => ?_)
  refine lv_iload_n C.1.1 C.1.2.1 dL_tables_414 rfl (lv_at hl 0 rfl) ?_
  refine fl_icmp_eq (tgt := 420) C.1 (rgk 6 rfl) (rgk 6 rfl) dL_tables_415 (by decide) (fun _ => ?_) (fun h => absurd (by decide) h)
  refine fl_iinc (k := 0) (lv' := [(1, iv (wr (6 + 1))), (0, .ref x)]) C.1 dL_tables_420 hl rfl (by decide) rfl (fun ls hl => ?_)
  rw [show wr (6 + 1) = (7 : Int) from by decide +kernel] at hl
  refine fl_goto (tgt := 404) C.1 dL_tables_423 (by decide) ?_
  refine lv_iload_n C.1.1 C.1.2.1 dL_tables_404 rfl (lv_at hl 0 rfl) ?_
  refine fl_bipush C.1 dL_tables_405 (by decide) ?_
  refine fl_icmp_ge (tgt := 426) C.1 (rgk 7 rfl) (rgk 8 rfl) dL_tables_407 (by decide) (fun h => absurd h (by decide)) (fun _ => ?_)
  refine lv_aload_n C.1.1 C.1.2.1 dL_tables_410 rfl (lv_at hl 1 rfl) ?_
  refine j_judge C (by exact ⟨(Nat.le_of_ble_eq_true rfl), (Nat.le_of_ble_eq_true rfl)⟩) hI hl.1 tSf45 (Nat.le_of_ble_eq_true rfl) ⟨(Nat.le_of_ble_eq_true rfl), (Nat.le_of_ble_eq_true rfl)⟩ dL_tables_411 (fun H locs hI _ => ?_)
  refine lv_iload_n C.1.1 C.1.2.1 dL_tables_414 rfl (lv_at hl 0 rfl) ?_
  refine fl_icmp_eq (tgt := 420) C.1 (rgk 7 rfl) (rgk 7 rfl) dL_tables_415 (by decide) (fun _ => ?_) (fun h => absurd (by decide) h)
  refine fl_iinc (k := 0) (lv' := [(1, iv (wr (7 + 1))), (0, .ref x)]) C.1 dL_tables_420 hl rfl (by decide) rfl (fun ls hl => ?_)
  rw [show wr (7 + 1) = (8 : Int) from by decide +kernel] at hl
  refine fl_goto (tgt := 404) C.1 dL_tables_423 (by decide) ?_
  refine lv_iload_n C.1.1 C.1.2.1 dL_tables_404 rfl (lv_at hl 0 rfl) ?_
  refine fl_bipush C.1 dL_tables_405 (by decide) ?_
  refine fl_icmp_ge (tgt := 426) C.1 (rgk 8 rfl) (rgk 8 rfl) dL_tables_407 (by decide) (fun _ => ?_) (fun h => absurd (by decide) h)
  refine lv_aload_n C.1.1 C.1.2.1 dL_tables_426 rfl (lv_at hl 1 rfl) ?_
  refine fl_iconst C.1 dL_tables_427 ?_
  refine fl_iconst C.1 dL_tables_428 ?_
  refine fl_iconst C.1 dL_tables_429 ?_
  refine fl_bipush C.1 dL_tables_430 (by decide) ?_
  refine fl_iconst C.1 dL_tables_432 ?_
  refine k_qentry hst C ⟨(Nat.le_of_ble_eq_true rfl), (Nat.le_of_ble_eq_true rfl)⟩ hI hl.1 (rgk 0 rfl) (rgk 0 rfl) (rgk (-1) rfl) (rgk 25 rfl) (rgk 1 rfl) tSf46 (Nat.le_of_ble_eq_true rfl) ⟨(Nat.le_of_ble_eq_true rfl), (Nat.le_of_ble_eq_true rfl)⟩ dL_tables_433 (fun H locs hI _ => ?_)
  refine fl_if_eq (tgt := 566) C.1 (rgk 1 rfl) dL_tables_436 (by decide) (fun h => absurd h (by decide)) (fun _ => ?_)
  refine lv_aload_n C.1.1 C.1.2.1 dL_tables_439 rfl (lv_at hl 1 rfl) ?_
  refine fl_iconst C.1 dL_tables_440 ?_
  refine fl_iconst C.1 dL_tables_441 ?_
  refine fl_iconst C.1 dL_tables_442 ?_
  refine fl_iconst C.1 dL_tables_443 ?_
  refine fl_iconst C.1 dL_tables_444 ?_
  refine k_qentry hst C ⟨(Nat.le_of_ble_eq_true rfl), (Nat.le_of_ble_eq_true rfl)⟩ hI hl.1 (rgk 1 rfl) (rgk 1 rfl) (rgk 0 rfl) (rgk 0 rfl) (rgk 1 rfl) tSf47 (Nat.le_of_ble_eq_true rfl) ⟨(Nat.le_of_ble_eq_true rfl), (Nat.le_of_ble_eq_true rfl)⟩ dL_tables_445 (fun H locs hI _ => ?_)
  refine fl_if_eq (tgt := 566) C.1 (rgk 1 rfl) dL_tables_448 (by decide) (fun h => absurd h (by decide)) (fun _ => ?_)
  refine lv_aload_n C.1.1 C.1.2.1 dL_tables_451 rfl (lv_at hl 1 rfl) ?_
  refine fl_iconst C.1 dL_tables_452 ?_
  refine fl_iconst C.1 dL_tables_453 ?_
  refine fl_iconst C.1 dL_tables_454 ?_
  refine fl_iconst C.1 dL_tables_455 ?_
  refine fl_iconst C.1 dL_tables_456 ?_
  refine k_qentry hst C ⟨(Nat.le_of_ble_eq_true rfl), (Nat.le_of_ble_eq_true rfl)⟩ hI hl.1 (rgk 2 rfl) (rgk 1 rfl) (rgk 0 rfl) (rgk 0 rfl) (rgk 1 rfl) tSf48 (Nat.le_of_ble_eq_true rfl) ⟨(Nat.le_of_ble_eq_true rfl), (Nat.le_of_ble_eq_true rfl)⟩ dL_tables_457 (fun H locs hI _ => ?_)
  refine fl_if_eq (tgt := 566) C.1 (rgk 1 rfl) dL_tables_460 (by decide) (fun h => absurd h (by decide)) (fun _ => ?_)
  exact W.widen (Nat.le_of_ble_eq_true rfl) (Nat.le_of_ble_eq_true rfl) (kk H locs ls hI hl)
set_option maxRecDepth 100000 in
set_option maxHeartbeats 4000000 in
theorem w_tables_2 (hst : l.stackTraces = false) (C : LC p s m meth c D cy B cL_tables 2) (kk : ∀ (H : Heap) (locs : List Loc) (ls : Array Slot), HI D cy B s.heap H locs x tS52 → lv_has ls 2 [(1, iv 8), (0, .ref x)] → W p l e rm_L_tables s m args below meth c H locs 430 30842 Q (F0 m 730 ls [])) : ∀ (H : Heap) (locs : List Loc) (ls : Array Slot), HI D cy B s.heap H locs x tS43 → lv_has ls 2 [(1, iv 8), (0, .ref x)] → W p l e rm_L_tables s m args below meth c H locs 304 28079 Q (F0 m 463 ls []) := by
  intro H locs ls hI hl
  refine lv_aload_n C.1.1 C.1.2.1 dL_tables_463 rfl (lv_at hl 1 rfl) ?_
  refine fl_iconst C.1 dL_tables_464 ?_
  refine fl_iconst C.1 dL_tables_465 ?_
  refine fl_iconst C.1 dL_tables_466 ?_
  refine fl_iconst C.1 dL_tables_467 ?_
  refine fl_iconst C.1 dL_tables_468 ?_
  refine k_qentry hst C ⟨(Nat.le_of_ble_eq_true rfl), (Nat.le_of_ble_eq_true rfl)⟩ hI hl.1 (rgk 3 rfl) (rgk 2 rfl) (rgk 0 rfl) (rgk 0 rfl) (rgk 1 rfl) tSf49 (Nat.le_of_ble_eq_true rfl) ⟨(Nat.le_of_ble_eq_true rfl), (Nat.le_of_ble_eq_true rfl)⟩ dL_tables_469 (fun H locs hI _ => ?_)
  refine fl_if_eq (tgt := 566) C.1 (rgk 1 rfl) dL_tables_472 (by decide) (fun h => absurd h (by decide)) (fun _ => ?_)
  refine lv_aload_n C.1.1 C.1.2.1 dL_tables_475 rfl (lv_at hl 1 rfl) ?_
  refine fl_iconst C.1 dL_tables_476 ?_
  refine fl_iconst C.1 dL_tables_477 ?_
  refine fl_iconst C.1 dL_tables_478 ?_
  refine fl_bipush C.1 dL_tables_479 (by decide) ?_
  refine fl_iconst C.1 dL_tables_481 ?_
  refine k_qentry hst C ⟨(Nat.le_of_ble_eq_true rfl), (Nat.le_of_ble_eq_true rfl)⟩ hI hl.1 (rgk 4 rfl) (rgk 0 rfl) (rgk (-1) rfl) (rgk 25 rfl) (rgk 1 rfl) tSf50 (Nat.le_of_ble_eq_true rfl) ⟨(Nat.le_of_ble_eq_true rfl), (Nat.le_of_ble_eq_true rfl)⟩ dL_tables_482 (fun H locs hI _ => ?_)
  refine fl_if_eq (tgt := 566) C.1 (rgk 1 rfl) dL_tables_485 (by decide) (fun h => absurd h (by decide)) (fun _ => ?_)
  refine lv_aload_n C.1.1 C.1.2.1 dL_tables_488 rfl (lv_at hl 1 rfl) ?_
  refine fl_iconst C.1 dL_tables_489 ?_
  refine fl_iconst C.1 dL_tables_490 ?_
  refine fl_iconst C.1 dL_tables_491 ?_
  refine fl_iconst C.1 dL_tables_492 ?_
  refine fl_iconst C.1 dL_tables_493 ?_
  refine k_qentry hst C ⟨(Nat.le_of_ble_eq_true rfl), (Nat.le_of_ble_eq_true rfl)⟩ hI hl.1 (rgk 5 rfl) (rgk 4 rfl) (rgk 0 rfl) (rgk 0 rfl) (rgk 1 rfl) tSf51 (Nat.le_of_ble_eq_true rfl) ⟨(Nat.le_of_ble_eq_true rfl), (Nat.le_of_ble_eq_true rfl)⟩ dL_tables_494 (fun H locs hI _ => ?_)
  refine fl_if_eq (tgt := 566) C.1 (rgk 1 rfl) dL_tables_497 (by decide) (fun h => absurd h (by decide)) (fun _ => ?_)
  refine lv_aload_n C.1.1 C.1.2.1 dL_tables_500 rfl (lv_at hl 1 rfl) ?_
  refine fl_bipush C.1 dL_tables_501 (by decide) ?_
  refine fl_iconst C.1 dL_tables_503 ?_
  refine fl_iconst C.1 dL_tables_504 ?_
  refine fl_iconst C.1 dL_tables_505 ?_
  refine fl_iconst C.1 dL_tables_506 ?_
  refine k_qentry hst C ⟨(Nat.le_of_ble_eq_true rfl), (Nat.le_of_ble_eq_true rfl)⟩ hI hl.1 (rgk 6 rfl) (rgk 1 rfl) (rgk 0 rfl) (rgk 0 rfl) (rgk 1 rfl) tSf52 (Nat.le_of_ble_eq_true rfl) ⟨(Nat.le_of_ble_eq_true rfl), (Nat.le_of_ble_eq_true rfl)⟩ dL_tables_507 (fun H locs hI _ => ?_)
  refine fl_if_eq (tgt := 566) C.1 (rgk 1 rfl) dL_tables_510 (by decide) (fun h => absurd h (by decide)) (fun _ => ?_)
  refine lv_aload_n C.1.1 C.1.2.1 dL_tables_513 rfl (lv_at hl 1 rfl) ?_
  refine fl_bipush C.1 dL_tables_514 (by decide) ?_
  refine fl_iconst C.1 dL_tables_516 ?_
  refine fl_iconst C.1 dL_tables_517 ?_
  refine fl_iconst C.1 dL_tables_518 ?_
  refine fl_iconst C.1 dL_tables_519 ?_
  refine k_qentry hst C ⟨(Nat.le_of_ble_eq_true rfl), (Nat.le_of_ble_eq_true rfl)⟩ hI hl.1 (rgk 7 rfl) (rgk 0 rfl) (rgk (-1) rfl) (rgk 0 rfl) (rgk 0 rfl) tSf53 (Nat.le_of_ble_eq_true rfl) ⟨(Nat.le_of_ble_eq_true rfl), (Nat.le_of_ble_eq_true rfl)⟩ dL_tables_520 (fun H locs hI _ => ?_)
  refine fl_if_eq (tgt := 566) C.1 (rgk 1 rfl) dL_tables_523 (by decide) (fun h => absurd h (by decide)) (fun _ => ?_)
  refine lv_aload_n C.1.1 C.1.2.1 dL_tables_526 rfl (lv_at hl 1 rfl) ?_
  refine fl_iconst C.1 dL_tables_527 ?_
  refine fl_iconst C.1 dL_tables_528 ?_
  refine fl_iconst C.1 dL_tables_529 ?_
  refine fl_iconst C.1 dL_tables_530 ?_
  refine fl_iconst C.1 dL_tables_531 ?_
  refine fl_iconst C.1 dL_tables_532 ?_
  refine k_qboard hst C ⟨(Nat.le_of_ble_eq_true rfl), (Nat.le_of_ble_eq_true rfl)⟩ hI hl.1 (rgk 4 rfl) (rgk 0 rfl) (rgk 1 rfl) (rgk 1 rfl) (rgk 0 rfl) (rgk 0 rfl) tSf54 (Nat.le_of_ble_eq_true rfl) ⟨(Nat.le_of_ble_eq_true rfl), (Nat.le_of_ble_eq_true rfl)⟩ dL_tables_533 (fun H locs hI _ => ?_)
  refine fl_if_eq (tgt := 566) C.1 (rgk 1 rfl) dL_tables_536 (by decide) (fun h => absurd h (by decide)) (fun _ => ?_)
  refine lv_aload_n C.1.1 C.1.2.1 dL_tables_539 rfl (lv_at hl 1 rfl) ?_
  refine fl_bipush C.1 dL_tables_540 (by decide) ?_
  refine fl_iconst C.1 dL_tables_542 ?_
  refine fl_iconst C.1 dL_tables_543 ?_
  refine fl_iconst C.1 dL_tables_544 ?_
  refine fl_iconst C.1 dL_tables_545 ?_
  refine fl_iconst C.1 dL_tables_546 ?_
  refine k_qboard hst C ⟨(Nat.le_of_ble_eq_true rfl), (Nat.le_of_ble_eq_true rfl)⟩ hI hl.1 (rgk 7 rfl) (rgk 0 rfl) (rgk 2 rfl) (rgk 1 rfl) (rgk 0 rfl) (rgk 0 rfl) tSf55 (Nat.le_of_ble_eq_true rfl) ⟨(Nat.le_of_ble_eq_true rfl), (Nat.le_of_ble_eq_true rfl)⟩ dL_tables_547 (fun H locs hI _ => ?_)
  refine fl_if_eq (tgt := 566) C.1 (rgk 1 rfl) dL_tables_550 (by decide) (fun h => absurd h (by decide)) (fun _ => ?_)
  refine lv_aload_n C.1.1 C.1.2.1 dL_tables_553 rfl (lv_at hl 1 rfl) ?_
  refine fl_iconst C.1 dL_tables_554 ?_
  refine fl_iconst C.1 dL_tables_555 ?_
  refine fl_iconst C.1 dL_tables_556 ?_
  refine fl_iconst C.1 dL_tables_557 ?_
  refine fl_iconst C.1 dL_tables_558 ?_
  refine fl_iconst C.1 dL_tables_559 ?_
  refine k_qboard hst C ⟨(Nat.le_of_ble_eq_true rfl), (Nat.le_of_ble_eq_true rfl)⟩ hI hl.1 (rgk 1 rfl) (rgk 0 rfl) (rgk 3 rfl) (rgk 0 rfl) (rgk 0 rfl) (rgk 0 rfl) tSf56 (Nat.le_of_ble_eq_true rfl) ⟨(Nat.le_of_ble_eq_true rfl), (Nat.le_of_ble_eq_true rfl)⟩ dL_tables_560 (fun H locs hI _ => ?_)
  refine fl_if_ne (tgt := 568) C.1 (rgk 1 rfl) dL_tables_563 (by decide) (fun _ => ?_) (fun h => absurd h (by decide))
  refine lv_aload_n C.1.1 C.1.2.1 dL_tables_568 rfl (lv_at hl 1 rfl) ?_
  refine fl_bipush C.1 dL_tables_569 (by decide) ?_
  refine fl_iconst C.1 dL_tables_571 ?_
  refine j_code hst C (by exact ⟨(Nat.le_of_ble_eq_true rfl), (Nat.le_of_ble_eq_true rfl)⟩) hI hl.1 (rgk 8 rfl) (rgk 0 rfl) tSf57 (Nat.le_of_ble_eq_true rfl) ⟨(Nat.le_of_ble_eq_true rfl), (Nat.le_of_ble_eq_true rfl)⟩ dL_tables_572 (fun H locs hI _ => ?_)
  refine fl_iconst C.1 dL_tables_575 ?_
  refine fl_icmp_ne (tgt := 741) C.1 (rgk 1 rfl) (rgk 1 rfl) dL_tables_576 (by decide) (fun h => absurd rfl h) (fun _ => ?_)
  refine lv_aload_n C.1.1 C.1.2.1 dL_tables_579 rfl (lv_at hl 1 rfl) ?_
  refine fl_bipush C.1 dL_tables_580 (by decide) ?_
  refine fl_iconst C.1 dL_tables_582 ?_
  refine fl_iconst C.1 dL_tables_583 ?_
  refine fl_iconst C.1 dL_tables_584 ?_
  refine k_act hst C ⟨(Nat.le_of_ble_eq_true rfl), (Nat.le_of_ble_eq_true rfl)⟩ hI hl.1 (rgk 6 rfl) (rgk 1 rfl) (rgk 0 rfl) (rgk 0 rfl) tSf58 (Nat.le_of_ble_eq_true rfl) ⟨(Nat.le_of_ble_eq_true rfl), (Nat.le_of_ble_eq_true rfl)⟩ dL_tables_585 (fun H locs hI _ => ?_)
  refine fl_ldc (n := (-7000003)) C.1 aw_803 rfl dL_tables_588 ?_
  refine fl_icmp_ne (tgt := 741) C.1 (rgk (-7000003) rfl) (rgk (-7000003) rfl) dL_tables_590 (by decide) (fun h => absurd rfl h) (fun _ => ?_)
  refine lv_aload_n C.1.1 C.1.2.1 dL_tables_593 rfl (lv_at hl 1 rfl) ?_
  refine fl_bipush C.1 dL_tables_594 (by decide) ?_
  refine fl_iconst C.1 dL_tables_596 ?_
  refine j_run hst C (by exact ⟨(Nat.le_of_ble_eq_true rfl), (Nat.le_of_ble_eq_true rfl)⟩) hI hl.1 (rgk 9 rfl) (rgk 0 rfl) tSf59 (Nat.le_of_ble_eq_true rfl) ⟨(Nat.le_of_ble_eq_true rfl), (Nat.le_of_ble_eq_true rfl)⟩ dL_tables_597 (fun H locs hI _ => ?_)
  refine fl_iconst C.1 dL_tables_600 ?_
  refine fl_icmp_ne (tgt := 741) C.1 (rgk 2 rfl) (rgk 2 rfl) dL_tables_601 (by decide) (fun h => absurd rfl h) (fun _ => ?_)
  refine lv_aload_n C.1.1 C.1.2.1 dL_tables_604 rfl (lv_at hl 1 rfl) ?_
  refine j_clear C (by exact ⟨(Nat.le_of_ble_eq_true rfl), (Nat.le_of_ble_eq_true rfl)⟩) hI hl.1 tSf60 (Nat.le_of_ble_eq_true rfl) ⟨(Nat.le_of_ble_eq_true rfl), (Nat.le_of_ble_eq_true rfl)⟩ dL_tables_605 (fun H locs hI _ => ?_)
  refine fl_iconst C.1 dL_tables_608 ?_
  refine fl_icmp_ne (tgt := 741) C.1 (rgk 1 rfl) (rgk 1 rfl) dL_tables_609 (by decide) (fun h => absurd rfl h) (fun _ => ?_)
  refine lv_aload_n C.1.1 C.1.2.1 dL_tables_612 rfl (lv_at hl 1 rfl) ?_
  refine fl_iconst C.1 dL_tables_613 ?_
  refine fl_iconst C.1 dL_tables_614 ?_
  refine j_code hst C (by exact ⟨(Nat.le_of_ble_eq_true rfl), (Nat.le_of_ble_eq_true rfl)⟩) hI hl.1 (rgk 1 rfl) (rgk 5 rfl) tSf61 (Nat.le_of_ble_eq_true rfl) ⟨(Nat.le_of_ble_eq_true rfl), (Nat.le_of_ble_eq_true rfl)⟩ dL_tables_615 (fun H locs hI _ => ?_)
  refine fl_iconst C.1 dL_tables_618 ?_
  refine fl_icmp_ne (tgt := 741) C.1 (rgk 1 rfl) (rgk 1 rfl) dL_tables_619 (by decide) (fun h => absurd rfl h) (fun _ => ?_)
  refine lv_aload_n C.1.1 C.1.2.1 dL_tables_622 rfl (lv_at hl 1 rfl) ?_
  refine fl_sipush C.1 dL_tables_623 (by decide) ?_
  refine fl_iconst C.1 dL_tables_626 ?_
  refine k_qcodes (N := 3) hst C ⟨(Nat.le_of_ble_eq_true rfl), (Nat.le_of_ble_eq_true rfl)⟩ hI hl.1 rfl (Nat.le_of_ble_eq_true rfl) (by decide) tSf62 (Nat.le_of_ble_eq_true rfl) ⟨(Nat.le_of_ble_eq_true rfl), (Nat.le_of_ble_eq_true rfl)⟩ dL_tables_627 (fun H locs hI _ => ?_)
  refine fl_iconst C.1 dL_tables_630 ?_
  refine fl_icmp_ne (tgt := 741) C.1 (rgk 4 rfl) (rgk 4 rfl) dL_tables_631 (by decide) (fun h => absurd rfl h) (fun _ => ?_)
  refine lv_aload_n C.1.1 C.1.2.1 dL_tables_634 rfl (lv_at hl 1 rfl) ?_
  refine fl_iconst C.1 dL_tables_635 ?_
  refine fl_iconst C.1 dL_tables_636 ?_
  refine j_mend hst C (by exact ⟨(Nat.le_of_ble_eq_true rfl), (Nat.le_of_ble_eq_true rfl)⟩) hI hl.1 (rgk 1 rfl) (rgk 0 rfl) tSf63 (Nat.le_of_ble_eq_true rfl) ⟨(Nat.le_of_ble_eq_true rfl), (Nat.le_of_ble_eq_true rfl)⟩ dL_tables_637 (fun H locs hI _ => ?_)
  refine fl_iconst C.1 dL_tables_640 ?_
  refine fl_icmp_ne (tgt := 741) C.1 (rgk 2 rfl) (rgk 2 rfl) dL_tables_641 (by decide) (fun h => absurd rfl h) (fun _ => ?_)
  refine lv_aload_n C.1.1 C.1.2.1 dL_tables_644 rfl (lv_at hl 1 rfl) ?_
  refine fl_iconst C.1 dL_tables_645 ?_
  refine fl_iconst C.1 dL_tables_646 ?_
  refine fl_iconst C.1 dL_tables_647 ?_
  refine j_answer hst C (by exact ⟨(Nat.le_of_ble_eq_true rfl), (Nat.le_of_ble_eq_true rfl)⟩) hI hl.1 (rgk 1 rfl) (rgk 0 rfl) (rgk 0 rfl) tSf64 (Nat.le_of_ble_eq_true rfl) ⟨(Nat.le_of_ble_eq_true rfl), (Nat.le_of_ble_eq_true rfl)⟩ dL_tables_648 (fun H locs hI _ => ?_)
  refine fl_iconst C.1 dL_tables_651 ?_
  refine fl_icmp_ne (tgt := 741) C.1 (rgk 5 rfl) (rgk 5 rfl) dL_tables_652 (by decide) (fun h => absurd rfl h) (fun _ => ?_)
  refine lv_aload_n C.1.1 C.1.2.1 dL_tables_655 rfl (lv_at hl 1 rfl) ?_
  refine fl_iconst C.1 dL_tables_656 ?_
  refine fl_iconst C.1 dL_tables_657 ?_
  refine fl_iconst C.1 dL_tables_658 ?_
  refine j_answer hst C (by exact ⟨(Nat.le_of_ble_eq_true rfl), (Nat.le_of_ble_eq_true rfl)⟩) hI hl.1 (rgk 1 rfl) (rgk 0 rfl) (rgk 1 rfl) tSf65 (Nat.le_of_ble_eq_true rfl) ⟨(Nat.le_of_ble_eq_true rfl), (Nat.le_of_ble_eq_true rfl)⟩ dL_tables_659 (fun H locs hI _ => ?_)
  refine fl_iconst C.1 dL_tables_662 ?_
  refine fl_icmp_ne (tgt := 741) C.1 (rgk 5 rfl) (rgk 5 rfl) dL_tables_663 (by decide) (fun h => absurd rfl h) (fun _ => ?_)
  refine lv_aload_n C.1.1 C.1.2.1 dL_tables_666 rfl (lv_at hl 1 rfl) ?_
  refine fl_iconst C.1 dL_tables_667 ?_
  refine fl_iconst C.1 dL_tables_668 ?_
  refine fl_iconst C.1 dL_tables_669 ?_
  refine j_answer hst C (by exact ⟨(Nat.le_of_ble_eq_true rfl), (Nat.le_of_ble_eq_true rfl)⟩) hI hl.1 (rgk 1 rfl) (rgk 0 rfl) (rgk 2 rfl) tSf66 (Nat.le_of_ble_eq_true rfl) ⟨(Nat.le_of_ble_eq_true rfl), (Nat.le_of_ble_eq_true rfl)⟩ dL_tables_670 (fun H locs hI _ => ?_)
  refine fl_if_ne (tgt := 741) C.1 (rgk 0 rfl) dL_tables_673 (by decide) (fun h => absurd rfl h) (fun _ => ?_)
  refine lv_aload_n C.1.1 C.1.2.1 dL_tables_676 rfl (lv_at hl 1 rfl) ?_
  refine j_clear C (by exact ⟨(Nat.le_of_ble_eq_true rfl), (Nat.le_of_ble_eq_true rfl)⟩) hI hl.1 tSf67 (Nat.le_of_ble_eq_true rfl) ⟨(Nat.le_of_ble_eq_true rfl), (Nat.le_of_ble_eq_true rfl)⟩ dL_tables_677 (fun H locs hI _ => ?_)
  refine fl_if_ne (tgt := 741) C.1 (rgk 0 rfl) dL_tables_680 (by decide) (fun h => absurd rfl h) (fun _ => ?_)
  refine lv_aload_n C.1.1 C.1.2.1 dL_tables_683 rfl (lv_at hl 1 rfl) ?_
  refine fl_iconst C.1 dL_tables_684 ?_
  refine j_rejudge hst C (by exact ⟨(Nat.le_of_ble_eq_true rfl), (Nat.le_of_ble_eq_true rfl)⟩) hI hl.1 (rgk 1 rfl) tSf68 (Nat.le_of_ble_eq_true rfl) ⟨(Nat.le_of_ble_eq_true rfl), (Nat.le_of_ble_eq_true rfl)⟩ dL_tables_685 (fun H locs hI _ => ?_)
  refine fl_iconst C.1 dL_tables_688 ?_
  refine fl_icmp_ne (tgt := 741) C.1 (rgk 4 rfl) (rgk 4 rfl) dL_tables_689 (by decide) (fun h => absurd rfl h) (fun _ => ?_)
  refine lv_aload_n C.1.1 C.1.2.1 dL_tables_692 rfl (lv_at hl 1 rfl) ?_
  refine j_judge C (by exact ⟨(Nat.le_of_ble_eq_true rfl), (Nat.le_of_ble_eq_true rfl)⟩) hI hl.1 tSf69 (Nat.le_of_ble_eq_true rfl) ⟨(Nat.le_of_ble_eq_true rfl), (Nat.le_of_ble_eq_true rfl)⟩ dL_tables_693 (fun H locs hI _ => ?_)
  refine fl_if_ne (tgt := 741) C.1 (rgk 0 rfl) dL_tables_696 (by decide) (fun h => absurd rfl h) (fun _ => ?_)
  refine lv_aload_n C.1.1 C.1.2.1 dL_tables_699 rfl (lv_at hl 1 rfl) ?_
  refine fl_iconst C.1 dL_tables_700 ?_
  refine fl_iconst C.1 dL_tables_701 ?_
  refine fl_iconst C.1 dL_tables_702 ?_
  refine fl_iconst C.1 dL_tables_703 ?_
  refine fl_iconst C.1 dL_tables_704 ?_
  refine k_qentry hst C ⟨(Nat.le_of_ble_eq_true rfl), (Nat.le_of_ble_eq_true rfl)⟩ hI hl.1 (rgk 0 rfl) (rgk 1 rfl) (rgk 0 rfl) (rgk 0 rfl) (rgk 2 rfl) tSf70 (Nat.le_of_ble_eq_true rfl) ⟨(Nat.le_of_ble_eq_true rfl), (Nat.le_of_ble_eq_true rfl)⟩ dL_tables_705 (fun H locs hI _ => ?_)
  refine fl_if_eq (tgt := 741) C.1 (rgk 1 rfl) dL_tables_708 (by decide) (fun h => absurd h (by decide)) (fun _ => ?_)
  refine lv_aload_n C.1.1 C.1.2.1 dL_tables_711 rfl (lv_at hl 1 rfl) ?_
  refine fl_iconst C.1 dL_tables_712 ?_
  refine fl_iconst C.1 dL_tables_713 ?_
  refine fl_iconst C.1 dL_tables_714 ?_
  refine j_board hst C (by exact ⟨(Nat.le_of_ble_eq_true rfl), (Nat.le_of_ble_eq_true rfl)⟩) hI hl.1 (rgk 0 rfl) (rgk 0 rfl) (rgk 1 rfl) tSf71 (Nat.le_of_ble_eq_true rfl) ⟨(Nat.le_of_ble_eq_true rfl), (Nat.le_of_ble_eq_true rfl)⟩ dL_tables_715 (fun H locs hI _ => ?_)
  refine fl_if_ne (tgt := 741) C.1 (rgk 0 rfl) dL_tables_718 (by decide) (fun h => absurd rfl h) (fun _ => ?_)
  refine lv_aload_n C.1.1 C.1.2.1 dL_tables_721 rfl (lv_at hl 1 rfl) ?_
  refine fl_iconst C.1 dL_tables_722 ?_
  refine j_placeAnew hst C (by exact ⟨(Nat.le_of_ble_eq_true rfl), (Nat.le_of_ble_eq_true rfl)⟩) hI hl.1 (rgk 0 rfl) tSf72 (Nat.le_of_ble_eq_true rfl) ⟨(Nat.le_of_ble_eq_true rfl), (Nat.le_of_ble_eq_true rfl)⟩ dL_tables_723 (fun H locs hI _ => ?_)
  refine fl_iconst C.1 dL_tables_726 ?_
  refine fl_icmp_ne (tgt := 741) C.1 (rgk 2 rfl) (rgk 2 rfl) dL_tables_727 (by decide) (fun h => absurd rfl h) (fun _ => ?_)
  exact W.widen (Nat.le_of_ble_eq_true rfl) (Nat.le_of_ble_eq_true rfl) (kk H locs ls hI hl)
set_option maxRecDepth 100000 in
set_option maxHeartbeats 4000000 in
theorem w_tables_3 (hst : l.stackTraces = false) (C : LC p s m meth c D cy B cL_tables 2) (kk : ∀ (H : Heap) (locs : List Loc) (ls : Array Slot), HI D cy B s.heap H locs x tS76 → lv_has ls 2 [(1, iv 6), (0, .ref x)] → W p l e rm_L_tables s m args below meth c H locs 503 43332 Q (F0 m 932 ls [])) : ∀ (H : Heap) (locs : List Loc) (ls : Array Slot), HI D cy B s.heap H locs x tS52 → lv_has ls 2 [(1, iv 8), (0, .ref x)] → W p l e rm_L_tables s m args below meth c H locs 430 30842 Q (F0 m 730 ls []) := by
  intro H locs ls hI hl
  refine lv_aload_n C.1.1 C.1.2.1 dL_tables_730 rfl (lv_at hl 1 rfl) ?_
  refine fl_bipush C.1 dL_tables_731 (by decide) ?_
  refine j_pass hst C (by exact ⟨(Nat.le_of_ble_eq_true rfl), (Nat.le_of_ble_eq_true rfl)⟩) hI hl.1 (rgk 7 rfl) tSf73 (Nat.le_of_ble_eq_true rfl) ⟨(Nat.le_of_ble_eq_true rfl), (Nat.le_of_ble_eq_true rfl)⟩ dL_tables_733 (fun H locs hI _ => ?_)
  refine fl_bipush C.1 dL_tables_736 (by decide) ?_
  refine fl_icmp_eq (tgt := 743) C.1 (rgk 7 rfl) (rgk 7 rfl) dL_tables_738 (by decide) (fun _ => ?_) (fun h => absurd (by decide) h)
  refine lv_aload_n C.1.1 C.1.2.1 dL_tables_743 rfl (lv_at hl 1 rfl) ?_
  refine fl_iconst C.1 dL_tables_744 ?_
  refine fl_iconst C.1 dL_tables_745 ?_
  refine j_enter hst C (by exact ⟨(Nat.le_of_ble_eq_true rfl), (Nat.le_of_ble_eq_true rfl)⟩) hI hl.1 (rgk 0 rfl) (rgk 2 rfl) tSf74 (Nat.le_of_ble_eq_true rfl) ⟨(Nat.le_of_ble_eq_true rfl), (Nat.le_of_ble_eq_true rfl)⟩ dL_tables_746 (fun H locs hI _ => ?_)
  refine fl_bipush C.1 dL_tables_749 (by decide) ?_
  refine fl_icmp_ne (tgt := 913) C.1 (rgk 8 rfl) (rgk 8 rfl) dL_tables_751 (by decide) (fun h => absurd rfl h) (fun _ => ?_)
  refine lv_aload_n C.1.1 C.1.2.1 dL_tables_754 rfl (lv_at hl 1 rfl) ?_
  refine fl_iconst C.1 dL_tables_755 ?_
  refine fl_iconst C.1 dL_tables_756 ?_
  refine j_enter hst C (by exact ⟨(Nat.le_of_ble_eq_true rfl), (Nat.le_of_ble_eq_true rfl)⟩) hI hl.1 (rgk 0 rfl) (rgk 2 rfl) tSf75 (Nat.le_of_ble_eq_true rfl) ⟨(Nat.le_of_ble_eq_true rfl), (Nat.le_of_ble_eq_true rfl)⟩ dL_tables_757 (fun H locs hI _ => ?_)
  refine fl_bipush C.1 dL_tables_760 (by decide) ?_
  refine fl_icmp_ne (tgt := 913) C.1 (rgk 9 rfl) (rgk 9 rfl) dL_tables_762 (by decide) (fun h => absurd rfl h) (fun _ => ?_)
  refine lv_aload_n C.1.1 C.1.2.1 dL_tables_765 rfl (lv_at hl 1 rfl) ?_
  refine fl_iconst C.1 dL_tables_766 ?_
  refine fl_iconst C.1 dL_tables_767 ?_
  refine j_code hst C (by exact ⟨(Nat.le_of_ble_eq_true rfl), (Nat.le_of_ble_eq_true rfl)⟩) hI hl.1 (rgk 1 rfl) (rgk 1 rfl) tSf76 (Nat.le_of_ble_eq_true rfl) ⟨(Nat.le_of_ble_eq_true rfl), (Nat.le_of_ble_eq_true rfl)⟩ dL_tables_768 (fun H locs hI _ => ?_)
  refine fl_iconst C.1 dL_tables_771 ?_
  refine fl_icmp_ne (tgt := 913) C.1 (rgk 1 rfl) (rgk 1 rfl) dL_tables_772 (by decide) (fun h => absurd rfl h) (fun _ => ?_)
  refine lv_aload_n C.1.1 C.1.2.1 dL_tables_775 rfl (lv_at hl 1 rfl) ?_
  refine fl_bipush C.1 dL_tables_776 (by decide) ?_
  refine fl_iconst C.1 dL_tables_778 ?_
  refine j_code hst C (by exact ⟨(Nat.le_of_ble_eq_true rfl), (Nat.le_of_ble_eq_true rfl)⟩) hI hl.1 (rgk 9 rfl) (rgk 0 rfl) tSf77 (Nat.le_of_ble_eq_true rfl) ⟨(Nat.le_of_ble_eq_true rfl), (Nat.le_of_ble_eq_true rfl)⟩ dL_tables_779 (fun H locs hI _ => ?_)
  refine fl_iconst C.1 dL_tables_782 ?_
  refine fl_icmp_ne (tgt := 913) C.1 (rgk 2 rfl) (rgk 2 rfl) dL_tables_783 (by decide) (fun h => absurd rfl h) (fun _ => ?_)
  refine lv_aload_n C.1.1 C.1.2.1 dL_tables_786 rfl (lv_at hl 1 rfl) ?_
  refine fl_iconst C.1 dL_tables_787 ?_
  refine fl_iconst C.1 dL_tables_788 ?_
  refine j_code hst C (by exact ⟨(Nat.le_of_ble_eq_true rfl), (Nat.le_of_ble_eq_true rfl)⟩) hI hl.1 (rgk 1 rfl) (rgk 2 rfl) tSf78 (Nat.le_of_ble_eq_true rfl) ⟨(Nat.le_of_ble_eq_true rfl), (Nat.le_of_ble_eq_true rfl)⟩ dL_tables_789 (fun H locs hI _ => ?_)
  refine fl_iconst C.1 dL_tables_792 ?_
  refine fl_icmp_ne (tgt := 913) C.1 (rgk 3 rfl) (rgk 3 rfl) dL_tables_793 (by decide) (fun h => absurd rfl h) (fun _ => ?_)
  refine lv_aload_n C.1.1 C.1.2.1 dL_tables_796 rfl (lv_at hl 1 rfl) ?_
  refine fl_bipush C.1 dL_tables_797 (by decide) ?_
  refine fl_iconst C.1 dL_tables_799 ?_
  refine j_code hst C (by exact ⟨(Nat.le_of_ble_eq_true rfl), (Nat.le_of_ble_eq_true rfl)⟩) hI hl.1 (rgk 9 rfl) (rgk 0 rfl) tSf79 (Nat.le_of_ble_eq_true rfl) ⟨(Nat.le_of_ble_eq_true rfl), (Nat.le_of_ble_eq_true rfl)⟩ dL_tables_800 (fun H locs hI _ => ?_)
  refine fl_iconst C.1 dL_tables_803 ?_
  refine fl_icmp_ne (tgt := 913) C.1 (rgk 4 rfl) (rgk 4 rfl) dL_tables_804 (by decide) (fun h => absurd rfl h) (fun _ => ?_)
  refine lv_aload_n C.1.1 C.1.2.1 dL_tables_807 rfl (lv_at hl 1 rfl) ?_
  refine fl_iconst C.1 dL_tables_808 ?_
  refine fl_iconst C.1 dL_tables_809 ?_
  refine j_enter hst C (by exact ⟨(Nat.le_of_ble_eq_true rfl), (Nat.le_of_ble_eq_true rfl)⟩) hI hl.1 (rgk 0 rfl) (rgk 2 rfl) tSf80 (Nat.le_of_ble_eq_true rfl) ⟨(Nat.le_of_ble_eq_true rfl), (Nat.le_of_ble_eq_true rfl)⟩ dL_tables_810 (fun H locs hI _ => ?_)
  refine fl_bipush C.1 dL_tables_813 (by decide) ?_
  refine fl_icmp_ne (tgt := 913) C.1 (rgk 10 rfl) (rgk 10 rfl) dL_tables_815 (by decide) (fun h => absurd rfl h) (fun _ => ?_)
  refine lv_aload_n C.1.1 C.1.2.1 dL_tables_818 rfl (lv_at hl 1 rfl) ?_
  refine fl_bipush C.1 dL_tables_819 (by decide) ?_
  refine j_input hst C (by exact ⟨(Nat.le_of_ble_eq_true rfl), (Nat.le_of_ble_eq_true rfl)⟩) hI hl.1 (rgk 9 rfl) tSf81 (Nat.le_of_ble_eq_true rfl) ⟨(Nat.le_of_ble_eq_true rfl), (Nat.le_of_ble_eq_true rfl)⟩ dL_tables_821 (fun H locs hI _ => ?_)
  refine fl_iconst C.1 dL_tables_824 ?_
  refine fl_icmp_ne (tgt := 913) C.1 (rgk 1 rfl) (rgk 1 rfl) dL_tables_825 (by decide) (fun h => absurd rfl h) (fun _ => ?_)
  refine lv_aload_n C.1.1 C.1.2.1 dL_tables_828 rfl (lv_at hl 1 rfl) ?_
  refine fl_iconst C.1 dL_tables_829 ?_
  refine fl_iconst C.1 dL_tables_830 ?_
  refine j_test hst C (by exact ⟨(Nat.le_of_ble_eq_true rfl), (Nat.le_of_ble_eq_true rfl)⟩) hI hl.1 (rgk 2 rfl) (rgk 2 rfl) tSf82 (Nat.le_of_ble_eq_true rfl) ⟨(Nat.le_of_ble_eq_true rfl), (Nat.le_of_ble_eq_true rfl)⟩ dL_tables_831 (fun H locs hI _ => ?_)
  refine fl_if_ne (tgt := 913) C.1 (rgk 0 rfl) dL_tables_834 (by decide) (fun h => absurd rfl h) (fun _ => ?_)
  refine lv_aload_n C.1.1 C.1.2.1 dL_tables_837 rfl (lv_at hl 1 rfl) ?_
  refine fl_bipush C.1 dL_tables_838 (by decide) ?_
  refine j_pass hst C (by exact ⟨(Nat.le_of_ble_eq_true rfl), (Nat.le_of_ble_eq_true rfl)⟩) hI hl.1 (rgk 40 rfl) tSf83 (Nat.le_of_ble_eq_true rfl) ⟨(Nat.le_of_ble_eq_true rfl), (Nat.le_of_ble_eq_true rfl)⟩ dL_tables_840 (fun H locs hI _ => ?_)
  refine fl_bipush C.1 dL_tables_843 (by decide) ?_
  refine fl_icmp_ne (tgt := 913) C.1 (rgk 47 rfl) (rgk 47 rfl) dL_tables_845 (by decide) (fun h => absurd rfl h) (fun _ => ?_)
  refine lv_aload_n C.1.1 C.1.2.1 dL_tables_848 rfl (lv_at hl 1 rfl) ?_
  refine fl_iconst C.1 dL_tables_849 ?_
  refine fl_iconst C.1 dL_tables_850 ?_
  refine j_code hst C (by exact ⟨(Nat.le_of_ble_eq_true rfl), (Nat.le_of_ble_eq_true rfl)⟩) hI hl.1 (rgk 1 rfl) (rgk 2 rfl) tSf84 (Nat.le_of_ble_eq_true rfl) ⟨(Nat.le_of_ble_eq_true rfl), (Nat.le_of_ble_eq_true rfl)⟩ dL_tables_851 (fun H locs hI _ => ?_)
  refine fl_iconst C.1 dL_tables_854 ?_
  refine fl_icmp_ne (tgt := 913) C.1 (rgk 1 rfl) (rgk 1 rfl) dL_tables_855 (by decide) (fun h => absurd rfl h) (fun _ => ?_)
  refine lv_aload_n C.1.1 C.1.2.1 dL_tables_858 rfl (lv_at hl 1 rfl) ?_
  refine fl_bipush C.1 dL_tables_859 (by decide) ?_
  refine fl_iconst C.1 dL_tables_861 ?_
  refine j_code hst C (by exact ⟨(Nat.le_of_ble_eq_true rfl), (Nat.le_of_ble_eq_true rfl)⟩) hI hl.1 (rgk 9 rfl) (rgk 0 rfl) tSf85 (Nat.le_of_ble_eq_true rfl) ⟨(Nat.le_of_ble_eq_true rfl), (Nat.le_of_ble_eq_true rfl)⟩ dL_tables_862 (fun H locs hI _ => ?_)
  refine fl_iconst C.1 dL_tables_865 ?_
  refine fl_icmp_ne (tgt := 913) C.1 (rgk 2 rfl) (rgk 2 rfl) dL_tables_866 (by decide) (fun h => absurd rfl h) (fun _ => ?_)
  refine lv_aload_n C.1.1 C.1.2.1 dL_tables_869 rfl (lv_at hl 1 rfl) ?_
  refine fl_iconst C.1 dL_tables_870 ?_
  refine fl_iconst C.1 dL_tables_871 ?_
  refine j_code hst C (by exact ⟨(Nat.le_of_ble_eq_true rfl), (Nat.le_of_ble_eq_true rfl)⟩) hI hl.1 (rgk 1 rfl) (rgk 1 rfl) tSf86 (Nat.le_of_ble_eq_true rfl) ⟨(Nat.le_of_ble_eq_true rfl), (Nat.le_of_ble_eq_true rfl)⟩ dL_tables_872 (fun H locs hI _ => ?_)
  refine fl_iconst C.1 dL_tables_875 ?_
  refine fl_icmp_ne (tgt := 913) C.1 (rgk 3 rfl) (rgk 3 rfl) dL_tables_876 (by decide) (fun h => absurd rfl h) (fun _ => ?_)
  refine lv_aload_n C.1.1 C.1.2.1 dL_tables_879 rfl (lv_at hl 1 rfl) ?_
  refine fl_bipush C.1 dL_tables_880 (by decide) ?_
  refine fl_iconst C.1 dL_tables_882 ?_
  refine j_code hst C (by exact ⟨(Nat.le_of_ble_eq_true rfl), (Nat.le_of_ble_eq_true rfl)⟩) hI hl.1 (rgk 9 rfl) (rgk 0 rfl) tSf87 (Nat.le_of_ble_eq_true rfl) ⟨(Nat.le_of_ble_eq_true rfl), (Nat.le_of_ble_eq_true rfl)⟩ dL_tables_883 (fun H locs hI _ => ?_)
  refine fl_iconst C.1 dL_tables_886 ?_
  refine fl_icmp_ne (tgt := 913) C.1 (rgk 4 rfl) (rgk 4 rfl) dL_tables_887 (by decide) (fun h => absurd rfl h) (fun _ => ?_)
  refine lv_aload_n C.1.1 C.1.2.1 dL_tables_890 rfl (lv_at hl 1 rfl) ?_
  refine fl_iconst C.1 dL_tables_891 ?_
  refine fl_iconst C.1 dL_tables_892 ?_
  refine j_enter hst C (by exact ⟨(Nat.le_of_ble_eq_true rfl), (Nat.le_of_ble_eq_true rfl)⟩) hI hl.1 (rgk 4 rfl) (rgk 2 rfl) tSf88 (Nat.le_of_ble_eq_true rfl) ⟨(Nat.le_of_ble_eq_true rfl), (Nat.le_of_ble_eq_true rfl)⟩ dL_tables_893 (fun H locs hI _ => ?_)
  refine fl_bipush C.1 dL_tables_896 (by decide) ?_
  refine fl_icmp_ne (tgt := 913) C.1 (rgk 11 rfl) (rgk 11 rfl) dL_tables_898 (by decide) (fun h => absurd rfl h) (fun _ => ?_)
  refine lv_aload_n C.1.1 C.1.2.1 dL_tables_901 rfl (lv_at hl 1 rfl) ?_
  refine fl_bipush C.1 dL_tables_902 (by decide) ?_
  refine fl_iconst C.1 dL_tables_904 ?_
  refine j_enter hst C (by exact ⟨(Nat.le_of_ble_eq_true rfl), (Nat.le_of_ble_eq_true rfl)⟩) hI hl.1 (rgk 7 rfl) (rgk 0 rfl) tSf89 (Nat.le_of_ble_eq_true rfl) ⟨(Nat.le_of_ble_eq_true rfl), (Nat.le_of_ble_eq_true rfl)⟩ dL_tables_905 (fun H locs hI _ => ?_)
  refine fl_bipush C.1 dL_tables_908 (by decide) ?_
  refine fl_icmp_eq (tgt := 915) C.1 (rgk 12 rfl) (rgk 12 rfl) dL_tables_910 (by decide) (fun _ => ?_) (fun h => absurd (by decide) h)
  refine fl_iconst C.1 dL_tables_915 ?_
  refine lv_istore_n (lv' := [(1, iv 0), (0, .ref x)]) C.1.1 C.1.2.1 dL_tables_916 rfl hl (by decide) rfl (fun ls hl => ?_)
  refine lv_iload_n C.1.1 C.1.2.1 dL_tables_917 rfl (lv_at hl 0 rfl) ?_
  refine fl_bipush C.1 dL_tables_918 (by decide) ?_
  refine fl_icmp_ge (tgt := 938) C.1 (rgk 0 rfl) (rgk 8 rfl) dL_tables_920 (by decide) (fun h => absurd h (by decide)) (fun _ => ?_)
  refine lv_aload_n C.1.1 C.1.2.1 dL_tables_923 rfl (lv_at hl 1 rfl) ?_
  refine j_judge C (by exact ⟨(Nat.le_of_ble_eq_true rfl), (Nat.le_of_ble_eq_true rfl)⟩) hI hl.1 tSf90 (Nat.le_of_ble_eq_true rfl) ⟨(Nat.le_of_ble_eq_true rfl), (Nat.le_of_ble_eq_true rfl)⟩ dL_tables_924 (fun H locs hI _ => ?_)
  refine fl_if_ge (tgt := 932) C.1 (rgk 1 rfl) dL_tables_927 (by decide) (fun _ => ?_) (fun h => absurd (by decide) h)
  refine fl_iinc (k := 0) (lv' := [(1, iv (wr (0 + 1))), (0, .ref x)]) C.1 dL_tables_932 hl rfl (by decide) rfl (fun ls hl => ?_)
  rw [show wr (0 + 1) = (1 : Int) from by decide +kernel] at hl
  refine fl_goto (tgt := 917) C.1 dL_tables_935 (by decide) ?_
  refine lv_iload_n C.1.1 C.1.2.1 dL_tables_917 rfl (lv_at hl 0 rfl) ?_
  refine fl_bipush C.1 dL_tables_918 (by decide) ?_
  refine fl_icmp_ge (tgt := 938) C.1 (rgk 1 rfl) (rgk 8 rfl) dL_tables_920 (by decide) (fun h => absurd h (by decide)) (fun _ => ?_)
  refine lv_aload_n C.1.1 C.1.2.1 dL_tables_923 rfl (lv_at hl 1 rfl) ?_
  refine j_judge C (by exact ⟨(Nat.le_of_ble_eq_true rfl), (Nat.le_of_ble_eq_true rfl)⟩) hI hl.1 tSf91 (Nat.le_of_ble_eq_true rfl) ⟨(Nat.le_of_ble_eq_true rfl), (Nat.le_of_ble_eq_true rfl)⟩ dL_tables_924 (fun H locs hI _ => ?_)
  refine fl_if_ge (tgt := 932) C.1 (rgk 2 rfl) dL_tables_927 (by decide) (fun _ => ?_) (fun h => absurd (by decide) h)
  refine fl_iinc (k := 0) (lv' := [(1, iv (wr (1 + 1))), (0, .ref x)]) C.1 dL_tables_932 hl rfl (by decide) rfl (fun ls hl => ?_)
  rw [show wr (1 + 1) = (2 : Int) from by decide +kernel] at hl
  refine fl_goto (tgt := 917) C.1 dL_tables_935 (by decide) ?_
  refine lv_iload_n C.1.1 C.1.2.1 dL_tables_917 rfl (lv_at hl 0 rfl) ?_
  refine fl_bipush C.1 dL_tables_918 (by decide) ?_
  refine fl_icmp_ge (tgt := 938) C.1 (rgk 2 rfl) (rgk 8 rfl) dL_tables_920 (by decide) (fun h => absurd h (by decide)) (fun _ => ?_)
  refine lv_aload_n C.1.1 C.1.2.1 dL_tables_923 rfl (lv_at hl 1 rfl) ?_
  refine j_judge C (by exact ⟨(Nat.le_of_ble_eq_true rfl), (Nat.le_of_ble_eq_true rfl)⟩) hI hl.1 tSf92 (Nat.le_of_ble_eq_true rfl) ⟨(Nat.le_of_ble_eq_true rfl), (Nat.le_of_ble_eq_true rfl)⟩ dL_tables_924 (fun H locs hI _ => ?_)
  refine fl_if_ge (tgt := 932) C.1 (rgk 3 rfl) dL_tables_927 (by decide) (fun _ => ?_) (fun h => absurd (by decide) h)
  refine fl_iinc (k := 0) (lv' := [(1, iv (wr (2 + 1))), (0, .ref x)]) C.1 dL_tables_932 hl rfl (by decide) rfl (fun ls hl => ?_)
  rw [show wr (2 + 1) = (3 : Int) from by decide +kernel] at hl
  refine fl_goto (tgt := 917) C.1 dL_tables_935 (by decide) ?_
  refine lv_iload_n C.1.1 C.1.2.1 dL_tables_917 rfl (lv_at hl 0 rfl) ?_
  refine fl_bipush C.1 dL_tables_918 (by decide) ?_
  refine fl_icmp_ge (tgt := 938) C.1 (rgk 3 rfl) (rgk 8 rfl) dL_tables_920 (by decide) (fun h => absurd h (by decide)) (fun _ => ?_)
  refine lv_aload_n C.1.1 C.1.2.1 dL_tables_923 rfl (lv_at hl 1 rfl) ?_
  refine j_judge C (by exact ⟨(Nat.le_of_ble_eq_true rfl), (Nat.le_of_ble_eq_true rfl)⟩) hI hl.1 tSf93 (Nat.le_of_ble_eq_true rfl) ⟨(Nat.le_of_ble_eq_true rfl), (Nat.le_of_ble_eq_true rfl)⟩ dL_tables_924 (fun H locs hI _ => ?_)
  refine fl_if_ge (tgt := 932) C.1 (rgk 11 rfl) dL_tables_927 (by decide) (fun _ => ?_) (fun h => absurd (by decide) h)
  refine fl_iinc (k := 0) (lv' := [(1, iv (wr (3 + 1))), (0, .ref x)]) C.1 dL_tables_932 hl rfl (by decide) rfl (fun ls hl => ?_)
  rw [show wr (3 + 1) = (4 : Int) from by decide +kernel] at hl
  refine fl_goto (tgt := 917) C.1 dL_tables_935 (by decide) ?_
  refine lv_iload_n C.1.1 C.1.2.1 dL_tables_917 rfl (lv_at hl 0 rfl) ?_
  refine fl_bipush C.1 dL_tables_918 (by decide) ?_
  refine fl_icmp_ge (tgt := 938) C.1 (rgk 4 rfl) (rgk 8 rfl) dL_tables_920 (by decide) (fun h => absurd h (by decide)) (fun _ => ?_)
  refine lv_aload_n C.1.1 C.1.2.1 dL_tables_923 rfl (lv_at hl 1 rfl) ?_
  refine j_judge C (by exact ⟨(Nat.le_of_ble_eq_true rfl), (Nat.le_of_ble_eq_true rfl)⟩) hI hl.1 tSf94 (Nat.le_of_ble_eq_true rfl) ⟨(Nat.le_of_ble_eq_true rfl), (Nat.le_of_ble_eq_true rfl)⟩ dL_tables_924 (fun H locs hI _ => ?_)
  refine fl_if_ge (tgt := 932) C.1 (rgk 12 rfl) dL_tables_927 (by decide) (fun _ => ?_) (fun h => absurd (by decide) h)
  refine fl_iinc (k := 0) (lv' := [(1, iv (wr (4 + 1))), (0, .ref x)]) C.1 dL_tables_932 hl rfl (by decide) rfl (fun ls hl => ?_)
  rw [show wr (4 + 1) = (5 : Int) from by decide +kernel] at hl
  refine fl_goto (tgt := 917) C.1 dL_tables_935 (by decide) ?_
  refine lv_iload_n C.1.1 C.1.2.1 dL_tables_917 rfl (lv_at hl 0 rfl) ?_
  refine fl_bipush C.1 dL_tables_918 (by decide) ?_
  refine fl_icmp_ge (tgt := 938) C.1 (rgk 5 rfl) (rgk 8 rfl) dL_tables_920 (by decide) (fun h => absurd h (by decide)) (fun _ => ?_)
  refine lv_aload_n C.1.1 C.1.2.1 dL_tables_923 rfl (lv_at hl 1 rfl) ?_
  refine j_judge C (by exact ⟨(Nat.le_of_ble_eq_true rfl), (Nat.le_of_ble_eq_true rfl)⟩) hI hl.1 tSf95 (Nat.le_of_ble_eq_true rfl) ⟨(Nat.le_of_ble_eq_true rfl), (Nat.le_of_ble_eq_true rfl)⟩ dL_tables_924 (fun H locs hI _ => ?_)
  refine fl_if_ge (tgt := 932) C.1 (rgk 8 rfl) dL_tables_927 (by decide) (fun _ => ?_) (fun h => absurd (by decide) h)
  refine fl_iinc (k := 0) (lv' := [(1, iv (wr (5 + 1))), (0, .ref x)]) C.1 dL_tables_932 hl rfl (by decide) rfl (fun ls hl => ?_)
  rw [show wr (5 + 1) = (6 : Int) from by decide +kernel] at hl
  refine fl_goto (tgt := 917) C.1 dL_tables_935 (by decide) ?_
  refine lv_iload_n C.1.1 C.1.2.1 dL_tables_917 rfl (lv_at hl 0 rfl) ?_
  refine fl_bipush C.1 dL_tables_918 (by decide) ?_
  refine fl_icmp_ge (tgt := 938) C.1 (rgk 6 rfl) (rgk 8 rfl) dL_tables_920 (by decide) (fun h => absurd h (by decide)) (fun _ => ?_)
  refine lv_aload_n C.1.1 C.1.2.1 dL_tables_923 rfl (lv_at hl 1 rfl) ?_
  refine j_judge C (by exact ⟨(Nat.le_of_ble_eq_true rfl), (Nat.le_of_ble_eq_true rfl)⟩) hI hl.1 tSf96 (Nat.le_of_ble_eq_true rfl) ⟨(Nat.le_of_ble_eq_true rfl), (Nat.le_of_ble_eq_true rfl)⟩ dL_tables_924 (fun H locs hI _ => ?_)
  refine fl_if_ge (tgt := 932) C.1 (rgk 9 rfl) dL_tables_927 (by decide) (fun _ => ?_) (fun h => absurd (by decide) h)
  exact W.widen (Nat.le_of_ble_eq_true rfl) (Nat.le_of_ble_eq_true rfl) (kk H locs ls hI hl)
set_option maxRecDepth 100000 in
set_option maxHeartbeats 4000000 in
theorem w_tables_4 (hst : l.stackTraces = false) (C : LC p s m meth c D cy B cL_tables 2) (hr : meth.sig.returnType = some .boolean) : ∀ (H : Heap) (locs : List Loc) (ls : Array Slot), HI D cy B s.heap H locs x tS76 → lv_has ls 2 [(1, iv 6), (0, .ref x)] → W p l e rm_L_tables s m args below meth c H locs 503 43332 (MQ below (Q1 B) args s 1708 299430 (fun q => B ≤ q)) (F0 m 932 ls []) := by
  intro H locs ls hI hl
  refine fl_iinc (k := 0) (lv' := [(1, iv (wr (6 + 1))), (0, .ref x)]) C.1 dL_tables_932 hl rfl (by decide) rfl (fun ls hl => ?_)
  rw [show wr (6 + 1) = (7 : Int) from by decide +kernel] at hl
  refine fl_goto (tgt := 917) C.1 dL_tables_935 (by decide) ?_
  refine lv_iload_n C.1.1 C.1.2.1 dL_tables_917 rfl (lv_at hl 0 rfl) ?_
  refine fl_bipush C.1 dL_tables_918 (by decide) ?_
  refine fl_icmp_ge (tgt := 938) C.1 (rgk 7 rfl) (rgk 8 rfl) dL_tables_920 (by decide) (fun h => absurd h (by decide)) (fun _ => ?_)
  refine lv_aload_n C.1.1 C.1.2.1 dL_tables_923 rfl (lv_at hl 1 rfl) ?_
  refine j_judge C (by exact ⟨(Nat.le_of_ble_eq_true rfl), (Nat.le_of_ble_eq_true rfl)⟩) hI hl.1 tSf97 (Nat.le_of_ble_eq_true rfl) ⟨(Nat.le_of_ble_eq_true rfl), (Nat.le_of_ble_eq_true rfl)⟩ dL_tables_924 (fun H locs hI _ => ?_)
  refine fl_if_ge (tgt := 932) C.1 (rgk 10 rfl) dL_tables_927 (by decide) (fun _ => ?_) (fun h => absurd (by decide) h)
  refine fl_iinc (k := 0) (lv' := [(1, iv (wr (7 + 1))), (0, .ref x)]) C.1 dL_tables_932 hl rfl (by decide) rfl (fun ls hl => ?_)
  rw [show wr (7 + 1) = (8 : Int) from by decide +kernel] at hl
  refine fl_goto (tgt := 917) C.1 dL_tables_935 (by decide) ?_
  refine lv_iload_n C.1.1 C.1.2.1 dL_tables_917 rfl (lv_at hl 0 rfl) ?_
  refine fl_bipush C.1 dL_tables_918 (by decide) ?_
  refine fl_icmp_ge (tgt := 938) C.1 (rgk 8 rfl) (rgk 8 rfl) dL_tables_920 (by decide) (fun _ => ?_) (fun h => absurd (by decide) h)
  refine lv_aload_n C.1.1 C.1.2.1 dL_tables_938 rfl (lv_at hl 1 rfl) ?_
  refine j_judge C (by exact ⟨(Nat.le_of_ble_eq_true rfl), (Nat.le_of_ble_eq_true rfl)⟩) hI hl.1 tSf98 (Nat.le_of_ble_eq_true rfl) ⟨(Nat.le_of_ble_eq_true rfl), (Nat.le_of_ble_eq_true rfl)⟩ dL_tables_939 (fun H locs hI _ => ?_)
  refine fl_iconst C.1 dL_tables_942 ?_
  refine fl_icmp_ne (tgt := 1108) C.1 (rgk (-1) rfl) (rgk (-1) rfl) dL_tables_943 (by decide) (fun h => absurd rfl h) (fun _ => ?_)
  refine lv_aload_n C.1.1 C.1.2.1 dL_tables_946 rfl (lv_at hl 1 rfl) ?_
  refine fl_bipush C.1 dL_tables_947 (by decide) ?_
  refine fl_iconst C.1 dL_tables_949 ?_
  refine fl_iconst C.1 dL_tables_950 ?_
  refine fl_iconst C.1 dL_tables_951 ?_
  refine fl_iconst C.1 dL_tables_952 ?_
  refine k_qentry hst C ⟨(Nat.le_of_ble_eq_true rfl), (Nat.le_of_ble_eq_true rfl)⟩ hI hl.1 (rgk 8 rfl) (rgk 5 rfl) (rgk 0 rfl) (rgk 0 rfl) (rgk 1 rfl) tSf99 (Nat.le_of_ble_eq_true rfl) ⟨(Nat.le_of_ble_eq_true rfl), (Nat.le_of_ble_eq_true rfl)⟩ dL_tables_953 (fun H locs hI _ => ?_)
  refine fl_if_eq (tgt := 1108) C.1 (rgk 1 rfl) dL_tables_956 (by decide) (fun h => absurd h (by decide)) (fun _ => ?_)
  refine lv_aload_n C.1.1 C.1.2.1 dL_tables_959 rfl (lv_at hl 1 rfl) ?_
  refine fl_bipush C.1 dL_tables_960 (by decide) ?_
  refine fl_iconst C.1 dL_tables_962 ?_
  refine fl_iconst C.1 dL_tables_963 ?_
  refine fl_bipush C.1 dL_tables_964 (by decide) ?_
  refine fl_iconst C.1 dL_tables_966 ?_
  refine k_qentry hst C ⟨(Nat.le_of_ble_eq_true rfl), (Nat.le_of_ble_eq_true rfl)⟩ hI hl.1 (rgk 10 rfl) (rgk 0 rfl) (rgk (-1) rfl) (rgk 25 rfl) (rgk 1 rfl) tSf100 (Nat.le_of_ble_eq_true rfl) ⟨(Nat.le_of_ble_eq_true rfl), (Nat.le_of_ble_eq_true rfl)⟩ dL_tables_967 (fun H locs hI _ => ?_)
  refine fl_if_eq (tgt := 1108) C.1 (rgk 1 rfl) dL_tables_970 (by decide) (fun h => absurd h (by decide)) (fun _ => ?_)
  refine lv_aload_n C.1.1 C.1.2.1 dL_tables_973 rfl (lv_at hl 1 rfl) ?_
  refine fl_bipush C.1 dL_tables_974 (by decide) ?_
  refine fl_iconst C.1 dL_tables_976 ?_
  refine fl_iconst C.1 dL_tables_977 ?_
  refine fl_bipush C.1 dL_tables_978 (by decide) ?_
  refine fl_iconst C.1 dL_tables_980 ?_
  refine k_qentry hst C ⟨(Nat.le_of_ble_eq_true rfl), (Nat.le_of_ble_eq_true rfl)⟩ hI hl.1 (rgk 11 rfl) (rgk 0 rfl) (rgk (-1) rfl) (rgk 25 rfl) (rgk 1 rfl) tSf101 (Nat.le_of_ble_eq_true rfl) ⟨(Nat.le_of_ble_eq_true rfl), (Nat.le_of_ble_eq_true rfl)⟩ dL_tables_981 (fun H locs hI _ => ?_)
  refine fl_if_eq (tgt := 1108) C.1 (rgk 1 rfl) dL_tables_984 (by decide) (fun h => absurd h (by decide)) (fun _ => ?_)
  refine lv_aload_n C.1.1 C.1.2.1 dL_tables_987 rfl (lv_at hl 1 rfl) ?_
  refine fl_iconst C.1 dL_tables_988 ?_
  refine fl_iconst C.1 dL_tables_989 ?_
  refine fl_iconst C.1 dL_tables_990 ?_
  refine fl_iconst C.1 dL_tables_991 ?_
  refine fl_bipush C.1 dL_tables_992 (by decide) ?_
  refine fl_bipush C.1 dL_tables_994 (by decide) ?_
  refine k_qboard hst C ⟨(Nat.le_of_ble_eq_true rfl), (Nat.le_of_ble_eq_true rfl)⟩ hI hl.1 (rgk 4 rfl) (rgk 0 rfl) (rgk 0 rfl) (rgk 2 rfl) (rgk 47 rfl) (rgk 47 rfl) tSf102 (Nat.le_of_ble_eq_true rfl) ⟨(Nat.le_of_ble_eq_true rfl), (Nat.le_of_ble_eq_true rfl)⟩ dL_tables_996 (fun H locs hI _ => ?_)
  refine fl_if_eq (tgt := 1108) C.1 (rgk 1 rfl) dL_tables_999 (by decide) (fun h => absurd h (by decide)) (fun _ => ?_)
  refine lv_aload_n C.1.1 C.1.2.1 dL_tables_1002 rfl (lv_at hl 1 rfl) ?_
  refine fl_bipush C.1 dL_tables_1003 (by decide) ?_
  refine fl_iconst C.1 dL_tables_1005 ?_
  refine fl_iconst C.1 dL_tables_1006 ?_
  refine fl_iconst C.1 dL_tables_1007 ?_
  refine fl_bipush C.1 dL_tables_1008 (by decide) ?_
  refine fl_bipush C.1 dL_tables_1010 (by decide) ?_
  refine k_qboard hst C ⟨(Nat.le_of_ble_eq_true rfl), (Nat.le_of_ble_eq_true rfl)⟩ hI hl.1 (rgk 7 rfl) (rgk 0 rfl) (rgk 1 rfl) (rgk 2 rfl) (rgk 47 rfl) (rgk 47 rfl) tSf103 (Nat.le_of_ble_eq_true rfl) ⟨(Nat.le_of_ble_eq_true rfl), (Nat.le_of_ble_eq_true rfl)⟩ dL_tables_1012 (fun H locs hI _ => ?_)
  refine fl_if_eq (tgt := 1108) C.1 (rgk 1 rfl) dL_tables_1015 (by decide) (fun h => absurd h (by decide)) (fun _ => ?_)
  refine lv_aload_n C.1.1 C.1.2.1 dL_tables_1018 rfl (lv_at hl 1 rfl) ?_
  refine fl_iconst C.1 dL_tables_1019 ?_
  refine fl_iconst C.1 dL_tables_1020 ?_
  refine fl_iconst C.1 dL_tables_1021 ?_
  refine fl_iconst C.1 dL_tables_1022 ?_
  refine fl_bipush C.1 dL_tables_1023 (by decide) ?_
  refine fl_bipush C.1 dL_tables_1025 (by decide) ?_
  refine k_qboard hst C ⟨(Nat.le_of_ble_eq_true rfl), (Nat.le_of_ble_eq_true rfl)⟩ hI hl.1 (rgk 0 rfl) (rgk 0 rfl) (rgk 2 rfl) (rgk 1 rfl) (rgk 47 rfl) (rgk 7 rfl) tSf104 (Nat.le_of_ble_eq_true rfl) ⟨(Nat.le_of_ble_eq_true rfl), (Nat.le_of_ble_eq_true rfl)⟩ dL_tables_1027 (fun H locs hI _ => ?_)
  refine fl_if_eq (tgt := 1108) C.1 (rgk 1 rfl) dL_tables_1030 (by decide) (fun h => absurd h (by decide)) (fun _ => ?_)
  refine lv_aload_n C.1.1 C.1.2.1 dL_tables_1033 rfl (lv_at hl 1 rfl) ?_
  refine fl_iconst C.1 dL_tables_1034 ?_
  refine fl_iconst C.1 dL_tables_1035 ?_
  refine fl_iconst C.1 dL_tables_1036 ?_
  refine fl_iconst C.1 dL_tables_1037 ?_
  refine fl_iconst C.1 dL_tables_1038 ?_
  refine fl_iconst C.1 dL_tables_1039 ?_
  refine k_qboard hst C ⟨(Nat.le_of_ble_eq_true rfl), (Nat.le_of_ble_eq_true rfl)⟩ hI hl.1 (rgk 1 rfl) (rgk 0 rfl) (rgk 3 rfl) (rgk 0 rfl) (rgk 0 rfl) (rgk 0 rfl) tSf105 (Nat.le_of_ble_eq_true rfl) ⟨(Nat.le_of_ble_eq_true rfl), (Nat.le_of_ble_eq_true rfl)⟩ dL_tables_1040 (fun H locs hI _ => ?_)
  refine fl_if_eq (tgt := 1108) C.1 (rgk 1 rfl) dL_tables_1043 (by decide) (fun h => absurd h (by decide)) (fun _ => ?_)
  refine lv_aload_n C.1.1 C.1.2.1 dL_tables_1046 rfl (lv_at hl 1 rfl) ?_
  refine fl_iconst C.1 dL_tables_1047 ?_
  refine j_rejudge hst C (by exact ⟨(Nat.le_of_ble_eq_true rfl), (Nat.le_of_ble_eq_true rfl)⟩) hI hl.1 (rgk 2 rfl) tSf106 (Nat.le_of_ble_eq_true rfl) ⟨(Nat.le_of_ble_eq_true rfl), (Nat.le_of_ble_eq_true rfl)⟩ dL_tables_1048 (fun H locs hI _ => ?_)
  refine fl_iconst C.1 dL_tables_1051 ?_
  refine fl_icmp_ne (tgt := 1108) C.1 (rgk 1 rfl) (rgk 1 rfl) dL_tables_1052 (by decide) (fun h => absurd rfl h) (fun _ => ?_)
  refine lv_aload_n C.1.1 C.1.2.1 dL_tables_1055 rfl (lv_at hl 1 rfl) ?_
  refine j_judge C (by exact ⟨(Nat.le_of_ble_eq_true rfl), (Nat.le_of_ble_eq_true rfl)⟩) hI hl.1 tSf107 (Nat.le_of_ble_eq_true rfl) ⟨(Nat.le_of_ble_eq_true rfl), (Nat.le_of_ble_eq_true rfl)⟩ dL_tables_1056 (fun H locs hI _ => ?_)
  refine fl_bipush C.1 dL_tables_1059 (by decide) ?_
  refine fl_icmp_ne (tgt := 1108) C.1 (rgk 7 rfl) (rgk 7 rfl) dL_tables_1061 (by decide) (fun h => absurd rfl h) (fun _ => ?_)
  refine lv_aload_n C.1.1 C.1.2.1 dL_tables_1064 rfl (lv_at hl 1 rfl) ?_
  refine fl_bipush C.1 dL_tables_1065 (by decide) ?_
  refine fl_iconst C.1 dL_tables_1067 ?_
  refine fl_iconst C.1 dL_tables_1068 ?_
  refine fl_iconst C.1 dL_tables_1069 ?_
  refine fl_iconst C.1 dL_tables_1070 ?_
  refine k_qentry hst C ⟨(Nat.le_of_ble_eq_true rfl), (Nat.le_of_ble_eq_true rfl)⟩ hI hl.1 (rgk 7 rfl) (rgk 5 rfl) (rgk 0 rfl) (rgk 0 rfl) (rgk 1 rfl) tSf108 (Nat.le_of_ble_eq_true rfl) ⟨(Nat.le_of_ble_eq_true rfl), (Nat.le_of_ble_eq_true rfl)⟩ dL_tables_1071 (fun H locs hI _ => ?_)
  refine fl_if_eq (tgt := 1108) C.1 (rgk 1 rfl) dL_tables_1074 (by decide) (fun h => absurd h (by decide)) (fun _ => ?_)
  refine lv_aload_n C.1.1 C.1.2.1 dL_tables_1077 rfl (lv_at hl 1 rfl) ?_
  refine fl_bipush C.1 dL_tables_1078 (by decide) ?_
  refine fl_iconst C.1 dL_tables_1080 ?_
  refine fl_iconst C.1 dL_tables_1081 ?_
  refine fl_iconst C.1 dL_tables_1082 ?_
  refine fl_bipush C.1 dL_tables_1083 (by decide) ?_
  refine fl_bipush C.1 dL_tables_1085 (by decide) ?_
  refine k_qboard hst C ⟨(Nat.le_of_ble_eq_true rfl), (Nat.le_of_ble_eq_true rfl)⟩ hI hl.1 (rgk 7 rfl) (rgk 0 rfl) (rgk 2 rfl) (rgk 1 rfl) (rgk 47 rfl) (rgk 47 rfl) tSf109 (Nat.le_of_ble_eq_true rfl) ⟨(Nat.le_of_ble_eq_true rfl), (Nat.le_of_ble_eq_true rfl)⟩ dL_tables_1087 (fun H locs hI _ => ?_)
  refine fl_if_eq (tgt := 1108) C.1 (rgk 1 rfl) dL_tables_1090 (by decide) (fun h => absurd h (by decide)) (fun _ => ?_)
  refine lv_aload_n C.1.1 C.1.2.1 dL_tables_1093 rfl (lv_at hl 1 rfl) ?_
  refine fl_iconst C.1 dL_tables_1094 ?_
  refine fl_iconst C.1 dL_tables_1095 ?_
  refine fl_iconst C.1 dL_tables_1096 ?_
  refine fl_iconst C.1 dL_tables_1097 ?_
  refine fl_bipush C.1 dL_tables_1098 (by decide) ?_
  refine fl_bipush C.1 dL_tables_1100 (by decide) ?_
  refine k_qboard hst C ⟨(Nat.le_of_ble_eq_true rfl), (Nat.le_of_ble_eq_true rfl)⟩ hI hl.1 (rgk 0 rfl) (rgk 0 rfl) (rgk 1 rfl) (rgk 1 rfl) (rgk 47 rfl) (rgk 7 rfl) tSf110 (Nat.le_of_ble_eq_true rfl) ⟨(Nat.le_of_ble_eq_true rfl), (Nat.le_of_ble_eq_true rfl)⟩ dL_tables_1102 (fun H locs hI _ => ?_)
  refine fl_if_ne (tgt := 1110) C.1 (rgk 1 rfl) dL_tables_1105 (by decide) (fun _ => ?_) (fun h => absurd h (by decide))
  refine lv_aload_n C.1.1 C.1.2.1 dL_tables_1110 rfl (lv_at hl 1 rfl) ?_
  refine fl_iconst C.1 dL_tables_1111 ?_
  refine fl_bipush C.1 dL_tables_1112 (by decide) ?_
  refine k_refuses hst C ⟨(Nat.le_of_ble_eq_true rfl), (Nat.le_of_ble_eq_true rfl)⟩ hI hl.1 (rgk 3 rfl) (rgk 13 rfl) tSf111.1 tSf111.2 (Nat.le_of_ble_eq_true rfl) ⟨(Nat.le_of_ble_eq_true rfl), (Nat.le_of_ble_eq_true rfl)⟩ dL_tables_1114 (fun H locs hI _ => ?_)
  exact z_ret C hI hr dL_tables_1117 (Nat.le_of_ble_eq_true rfl) (Nat.le_of_ble_eq_true rfl)
set_option maxRecDepth 100000 in
set_option maxHeartbeats 4000000 in
theorem d_tables (hst : l.stackTraces = false) : Met l yL_tables [.code yL_tables cL_tables 2 (some .boolean)] rm_L_tables (va_Pc [] (HB D cy B)) (Q1 B) 1708 299430 (fun q => B ≤ q) := by
  refine hb_body0 (by decide) rfl ?_
  intro p e s m args below meth c ls C hr hB hl
  refine k_new C (by exact ⟨(Nat.le_of_ble_eq_true rfl), (Nat.le_of_ble_eq_true rfl)⟩) hB va_S.rf hl.1 ⟨(Nat.le_of_ble_eq_true rfl), (Nat.le_of_ble_eq_true rfl)⟩ ⟨(Nat.le_of_ble_eq_true rfl), (Nat.le_of_ble_eq_true rfl)⟩ dL_tables_0 dL_tables_3 dL_tables_4 (fun x H locs hI => ?_)
  refine lv_astore_n (lv' := [(0, .ref x)]) C.1.1 C.1.2.1 dL_tables_7 rfl hl (by decide) rfl (fun ls hl => ?_)
  exact W.widen (Nat.le_of_ble_eq_true rfl) (Nat.le_of_ble_eq_true rfl) ((w_tables_0 hst C (w_tables_1 hst C (w_tables_2 hst C (w_tables_3 hst C (w_tables_4 hst C hr))))) H locs ls hI hl)
end HTAB
