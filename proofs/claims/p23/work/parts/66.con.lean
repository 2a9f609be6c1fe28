section HCON
variable {p : Program} {l : Launch} {e : Env} {R : Room} {s : State} {m : MethodId} {args : Array Value} {below : List Frame} {meth : Method} {c : Code} {H : Heap} {locs : List Loc} {cells slots mc ms : Nat} {Q : State → Prop}
variable {D : va_G} {cy : Nat → ClassId} {B : Nat} {cc : ByteArray} {nL pc : Nat} {ls : Array Slot} {rest st0 As : List Value} {x : Nat} {S S' : Hl} {v : Int}
variable {y : MethodName} {bytes : ByteArray} {maxL idx n : Nat} {ret : Option FieldType} {rm : Room} {hh : List (Nat × Nat × Nat × Nat)}
abbrev rm_L_contest : Room := { frames := 13, cells := 8796, slots := 1616833, locals := 380 }
theorem pm_L_contest : plainM yL_contest 0 := by decide +kernel
set_option maxRecDepth 100000 in
set_option maxHeartbeats 4000000 in
theorem w_contest_0 (hst : l.stackTraces = false) (C : LC p s m meth c D cy B cL_contest 1) (kk : ∀ (H : Heap) (locs : List Loc) (ls : Array Slot), HI D cy B s.heap H locs x oS19 → lv_has ls 1 [(0, .ref x)] → W p l e rm_L_contest s m args below meth c H locs 2281 345131 Q (F0 m 244 ls [])) : ∀ (H : Heap) (locs : List Loc) (ls : Array Slot), HI D cy B s.heap H locs x s0 → lv_has ls 1 [(0, .ref x)] → W p l e rm_L_contest s m args below meth c H locs 23 294 Q (F0 m 8 ls []) := by
  intro H locs ls hI hl
  refine k_call0 C hI hl.1 (fun B2 => d_machine (l := l) (D := D) (cy := cy) (B := B2) hst) aw_811 aw_812 aw_44 aw_813 pm_L_machine rfl rfl ⟨(Nat.le_of_ble_eq_true rfl), (Nat.le_of_ble_eq_true rfl)⟩ (Nat.le_of_ble_eq_true rfl) dL_contest_8 ⟨(Nat.le_of_ble_eq_true rfl), (Nat.le_of_ble_eq_true rfl)⟩ (fun H locs hI => ?_)
  refine fl_if_eq (tgt := 329) C.1 (rgk 1 rfl) dL_contest_11 (by decide) (fun h => absurd h (by decide)) (fun _ => ?_)
  refine lv_aload_n C.1.1 C.1.2.1 dL_contest_14 rfl (lv_at hl 0 rfl) ?_
  refine j_judge C (by exact ⟨(Nat.le_of_ble_eq_true rfl), (Nat.le_of_ble_eq_true rfl)⟩) hI hl.1 oSf1 (Nat.le_of_ble_eq_true rfl) ⟨(Nat.le_of_ble_eq_true rfl), (Nat.le_of_ble_eq_true rfl)⟩ dL_contest_15 (fun H locs hI _ => ?_)
  refine fl_iconst C.1 dL_contest_18 ?_
  refine fl_icmp_ne (tgt := 329) C.1 (rgk (-1) rfl) (rgk (-1) rfl) dL_contest_19 (by decide) (fun h => absurd rfl h) (fun _ => ?_)
  refine lv_aload_n C.1.1 C.1.2.1 dL_contest_22 rfl (lv_at hl 0 rfl) ?_
  refine j_reveal C (by exact ⟨(Nat.le_of_ble_eq_true rfl), (Nat.le_of_ble_eq_true rfl)⟩) hI hl.1 oSf2 (Nat.le_of_ble_eq_true rfl) ⟨(Nat.le_of_ble_eq_true rfl), (Nat.le_of_ble_eq_true rfl)⟩ dL_contest_23 (fun H locs hI _ => ?_)
  refine fl_iconst C.1 dL_contest_26 ?_
  refine fl_icmp_ne (tgt := 329) C.1 (rgk (-1) rfl) (rgk (-1) rfl) dL_contest_27 (by decide) (fun h => absurd rfl h) (fun _ => ?_)
  refine lv_aload_n C.1.1 C.1.2.1 dL_contest_30 rfl (lv_at hl 0 rfl) ?_
  refine fl_sipush C.1 dL_contest_31 (by decide) ?_
  refine fl_iconst C.1 dL_contest_34 ?_
  refine k_qcodes (N := 4) hst C ⟨(Nat.le_of_ble_eq_true rfl), (Nat.le_of_ble_eq_true rfl)⟩ hI hl.1 rfl (Nat.le_of_ble_eq_true rfl) (by decide) oSf3 (Nat.le_of_ble_eq_true rfl) ⟨(Nat.le_of_ble_eq_true rfl), (Nat.le_of_ble_eq_true rfl)⟩ dL_contest_35 (fun H locs hI _ => ?_)
  refine fl_iconst C.1 dL_contest_38 ?_
  refine fl_icmp_ne (tgt := 329) C.1 (rgk 4 rfl) (rgk 4 rfl) dL_contest_39 (by decide) (fun h => absurd rfl h) (fun _ => ?_)
  refine lv_aload_n C.1.1 C.1.2.1 dL_contest_42 rfl (lv_at hl 0 rfl) ?_
  refine fl_iconst C.1 dL_contest_43 ?_
  refine j_input hst C (by exact ⟨(Nat.le_of_ble_eq_true rfl), (Nat.le_of_ble_eq_true rfl)⟩) hI hl.1 (rgk 3 rfl) oSf4 (Nat.le_of_ble_eq_true rfl) ⟨(Nat.le_of_ble_eq_true rfl), (Nat.le_of_ble_eq_true rfl)⟩ dL_contest_44 (fun H locs hI _ => ?_)
  refine fl_iconst C.1 dL_contest_47 ?_
  refine fl_icmp_ne (tgt := 329) C.1 (rgk 1 rfl) (rgk 1 rfl) dL_contest_48 (by decide) (fun h => absurd rfl h) (fun _ => ?_)
  refine lv_aload_n C.1.1 C.1.2.1 dL_contest_51 rfl (lv_at hl 0 rfl) ?_
  refine fl_iconst C.1 dL_contest_52 ?_
  refine j_input hst C (by exact ⟨(Nat.le_of_ble_eq_true rfl), (Nat.le_of_ble_eq_true rfl)⟩) hI hl.1 (rgk 4 rfl) oSf5 (Nat.le_of_ble_eq_true rfl) ⟨(Nat.le_of_ble_eq_true rfl), (Nat.le_of_ble_eq_true rfl)⟩ dL_contest_53 (fun H locs hI _ => ?_)
  refine fl_iconst C.1 dL_contest_56 ?_
  refine fl_icmp_ne (tgt := 329) C.1 (rgk 2 rfl) (rgk 2 rfl) dL_contest_57 (by decide) (fun h => absurd rfl h) (fun _ => ?_)
  refine lv_aload_n C.1.1 C.1.2.1 dL_contest_60 rfl (lv_at hl 0 rfl) ?_
  refine fl_bipush C.1 dL_contest_61 (by decide) ?_
  refine fl_iconst C.1 dL_contest_63 ?_
  refine j_problem hst C (by exact ⟨(Nat.le_of_ble_eq_true rfl), (Nat.le_of_ble_eq_true rfl)⟩) hI hl.1 (rgk 100 rfl) (rgk 0 rfl) oSf6 (Nat.le_of_ble_eq_true rfl) ⟨(Nat.le_of_ble_eq_true rfl), (Nat.le_of_ble_eq_true rfl)⟩ dL_contest_64 (fun H locs hI _ => ?_)
  refine fl_if_ne (tgt := 329) C.1 (rgk 0 rfl) dL_contest_67 (by decide) (fun h => absurd rfl h) (fun _ => ?_)
  refine lv_aload_n C.1.1 C.1.2.1 dL_contest_70 rfl (lv_at hl 0 rfl) ?_
  refine fl_bipush C.1 dL_contest_71 (by decide) ?_
  refine fl_iconst C.1 dL_contest_73 ?_
  refine j_run hst C (by exact ⟨(Nat.le_of_ble_eq_true rfl), (Nat.le_of_ble_eq_true rfl)⟩) hI hl.1 (rgk 9 rfl) (rgk 0 rfl) oSf7 (Nat.le_of_ble_eq_true rfl) ⟨(Nat.le_of_ble_eq_true rfl), (Nat.le_of_ble_eq_true rfl)⟩ dL_contest_74 (fun H locs hI _ => ?_)
  refine fl_if_ne (tgt := 329) C.1 (rgk 0 rfl) dL_contest_77 (by decide) (fun h => absurd rfl h) (fun _ => ?_)
  refine lv_aload_n C.1.1 C.1.2.1 dL_contest_80 rfl (lv_at hl 0 rfl) ?_
  refine fl_iconst C.1 dL_contest_81 ?_
  refine fl_iconst C.1 dL_contest_82 ?_
  refine j_test hst C (by exact ⟨(Nat.le_of_ble_eq_true rfl), (Nat.le_of_ble_eq_true rfl)⟩) hI hl.1 (rgk 0 rfl) (rgk 0 rfl) oSf8 (Nat.le_of_ble_eq_true rfl) ⟨(Nat.le_of_ble_eq_true rfl), (Nat.le_of_ble_eq_true rfl)⟩ dL_contest_83 (fun H locs hI _ => ?_)
  refine fl_if_ne (tgt := 329) C.1 (rgk 0 rfl) dL_contest_86 (by decide) (fun h => absurd rfl h) (fun _ => ?_)
  refine lv_aload_n C.1.1 C.1.2.1 dL_contest_89 rfl (lv_at hl 0 rfl) ?_
  refine fl_iconst C.1 dL_contest_90 ?_
  refine fl_iconst C.1 dL_contest_91 ?_
  refine fl_iconst C.1 dL_contest_92 ?_
  refine j_answer hst C (by exact ⟨(Nat.le_of_ble_eq_true rfl), (Nat.le_of_ble_eq_true rfl)⟩) hI hl.1 (rgk 0 rfl) (rgk 0 rfl) (rgk 0 rfl) oSf9 (Nat.le_of_ble_eq_true rfl) ⟨(Nat.le_of_ble_eq_true rfl), (Nat.le_of_ble_eq_true rfl)⟩ dL_contest_93 (fun H locs hI _ => ?_)
  refine fl_bipush C.1 dL_contest_96 (by decide) ?_
  refine fl_icmp_ne (tgt := 329) C.1 (rgk 7 rfl) (rgk 7 rfl) dL_contest_98 (by decide) (fun h => absurd rfl h) (fun _ => ?_)
  refine lv_aload_n C.1.1 C.1.2.1 dL_contest_101 rfl (lv_at hl 0 rfl) ?_
  refine fl_iconst C.1 dL_contest_102 ?_
  refine fl_iconst C.1 dL_contest_103 ?_
  refine fl_iconst C.1 dL_contest_104 ?_
  refine j_answer hst C (by exact ⟨(Nat.le_of_ble_eq_true rfl), (Nat.le_of_ble_eq_true rfl)⟩) hI hl.1 (rgk 0 rfl) (rgk 0 rfl) (rgk 1 rfl) oSf10 (Nat.le_of_ble_eq_true rfl) ⟨(Nat.le_of_ble_eq_true rfl), (Nat.le_of_ble_eq_true rfl)⟩ dL_contest_105 (fun H locs hI _ => ?_)
  refine fl_if_ne (tgt := 329) C.1 (rgk 0 rfl) dL_contest_108 (by decide) (fun h => absurd rfl h) (fun _ => ?_)
  refine lv_aload_n C.1.1 C.1.2.1 dL_contest_111 rfl (lv_at hl 0 rfl) ?_
  refine fl_iconst C.1 dL_contest_112 ?_
  refine j_input hst C (by exact ⟨(Nat.le_of_ble_eq_true rfl), (Nat.le_of_ble_eq_true rfl)⟩) hI hl.1 (rgk 1 rfl) oSf11 (Nat.le_of_ble_eq_true rfl) ⟨(Nat.le_of_ble_eq_true rfl), (Nat.le_of_ble_eq_true rfl)⟩ dL_contest_113 (fun H locs hI _ => ?_)
  refine fl_iconst C.1 dL_contest_116 ?_
  refine fl_icmp_ne (tgt := 329) C.1 (rgk 1 rfl) (rgk 1 rfl) dL_contest_117 (by decide) (fun h => absurd rfl h) (fun _ => ?_)
  refine lv_aload_n C.1.1 C.1.2.1 dL_contest_120 rfl (lv_at hl 0 rfl) ?_
  refine fl_bipush C.1 dL_contest_121 (by decide) ?_
  refine j_input hst C (by exact ⟨(Nat.le_of_ble_eq_true rfl), (Nat.le_of_ble_eq_true rfl)⟩) hI hl.1 (rgk (-2) rfl) oSf12 (Nat.le_of_ble_eq_true rfl) ⟨(Nat.le_of_ble_eq_true rfl), (Nat.le_of_ble_eq_true rfl)⟩ dL_contest_123 (fun H locs hI _ => ?_)
  refine fl_iconst C.1 dL_contest_126 ?_
  refine fl_icmp_ne (tgt := 329) C.1 (rgk 2 rfl) (rgk 2 rfl) dL_contest_127 (by decide) (fun h => absurd rfl h) (fun _ => ?_)
  refine lv_aload_n C.1.1 C.1.2.1 dL_contest_130 rfl (lv_at hl 0 rfl) ?_
  refine fl_iconst C.1 dL_contest_131 ?_
  refine fl_iconst C.1 dL_contest_132 ?_
  refine j_test hst C (by exact ⟨(Nat.le_of_ble_eq_true rfl), (Nat.le_of_ble_eq_true rfl)⟩) hI hl.1 (rgk 0 rfl) (rgk 1 rfl) oSf13 (Nat.le_of_ble_eq_true rfl) ⟨(Nat.le_of_ble_eq_true rfl), (Nat.le_of_ble_eq_true rfl)⟩ dL_contest_133 (fun H locs hI _ => ?_)
  refine fl_iconst C.1 dL_contest_136 ?_
  refine fl_icmp_ne (tgt := 329) C.1 (rgk 1 rfl) (rgk 1 rfl) dL_contest_137 (by decide) (fun h => absurd rfl h) (fun _ => ?_)
  refine lv_aload_n C.1.1 C.1.2.1 dL_contest_140 rfl (lv_at hl 0 rfl) ?_
  refine fl_iconst C.1 dL_contest_141 ?_
  refine fl_iconst C.1 dL_contest_142 ?_
  refine fl_iconst C.1 dL_contest_143 ?_
  refine j_answer hst C (by exact ⟨(Nat.le_of_ble_eq_true rfl), (Nat.le_of_ble_eq_true rfl)⟩) hI hl.1 (rgk 0 rfl) (rgk 1 rfl) (rgk 0 rfl) oSf14 (Nat.le_of_ble_eq_true rfl) ⟨(Nat.le_of_ble_eq_true rfl), (Nat.le_of_ble_eq_true rfl)⟩ dL_contest_144 (fun H locs hI _ => ?_)
  refine fl_iconst C.1 dL_contest_147 ?_
  refine fl_icmp_ne (tgt := 329) C.1 (rgk (-1) rfl) (rgk (-1) rfl) dL_contest_148 (by decide) (fun h => absurd rfl h) (fun _ => ?_)
  refine lv_aload_n C.1.1 C.1.2.1 dL_contest_151 rfl (lv_at hl 0 rfl) ?_
  refine fl_iconst C.1 dL_contest_152 ?_
  refine j_input hst C (by exact ⟨(Nat.le_of_ble_eq_true rfl), (Nat.le_of_ble_eq_true rfl)⟩) hI hl.1 (rgk 5 rfl) oSf15 (Nat.le_of_ble_eq_true rfl) ⟨(Nat.le_of_ble_eq_true rfl), (Nat.le_of_ble_eq_true rfl)⟩ dL_contest_153 (fun H locs hI _ => ?_)
  refine fl_iconst C.1 dL_contest_156 ?_
  refine fl_icmp_ne (tgt := 329) C.1 (rgk 1 rfl) (rgk 1 rfl) dL_contest_157 (by decide) (fun h => absurd rfl h) (fun _ => ?_)
  refine lv_aload_n C.1.1 C.1.2.1 dL_contest_160 rfl (lv_at hl 0 rfl) ?_
  refine fl_iconst C.1 dL_contest_161 ?_
  refine fl_iconst C.1 dL_contest_162 ?_
  refine fl_iconst C.1 dL_contest_163 ?_
  refine fl_iconst C.1 dL_contest_164 ?_
  refine k_act hst C ⟨(Nat.le_of_ble_eq_true rfl), (Nat.le_of_ble_eq_true rfl)⟩ hI hl.1 (rgk 4 rfl) (rgk 0 rfl) (rgk 0 rfl) (rgk 0 rfl) oSf16 (Nat.le_of_ble_eq_true rfl) ⟨(Nat.le_of_ble_eq_true rfl), (Nat.le_of_ble_eq_true rfl)⟩ dL_contest_165 (fun H locs hI _ => ?_)
  refine fl_ldc (n := (-7000003)) C.1 aw_803 rfl dL_contest_168 ?_
  refine fl_icmp_ne (tgt := 329) C.1 (rgk (-7000003) rfl) (rgk (-7000003) rfl) dL_contest_170 (by decide) (fun h => absurd rfl h) (fun _ => ?_)
  refine lv_aload_n C.1.1 C.1.2.1 dL_contest_173 rfl (lv_at hl 0 rfl) ?_
  refine j_clear C (by exact ⟨(Nat.le_of_ble_eq_true rfl), (Nat.le_of_ble_eq_true rfl)⟩) hI hl.1 oSf17 (Nat.le_of_ble_eq_true rfl) ⟨(Nat.le_of_ble_eq_true rfl), (Nat.le_of_ble_eq_true rfl)⟩ dL_contest_174 (fun H locs hI _ => ?_)
  refine fl_if_ne (tgt := 329) C.1 (rgk 0 rfl) dL_contest_177 (by decide) (fun h => absurd rfl h) (fun _ => ?_)
  refine lv_aload_n C.1.1 C.1.2.1 dL_contest_180 rfl (lv_at hl 0 rfl) ?_
  refine fl_sipush C.1 dL_contest_181 (by decide) ?_
  refine fl_iconst C.1 dL_contest_184 ?_
  refine k_qcodes (N := 4) hst C ⟨(Nat.le_of_ble_eq_true rfl), (Nat.le_of_ble_eq_true rfl)⟩ hI hl.1 rfl (Nat.le_of_ble_eq_true rfl) (by decide) oSf18 (Nat.le_of_ble_eq_true rfl) ⟨(Nat.le_of_ble_eq_true rfl), (Nat.le_of_ble_eq_true rfl)⟩ dL_contest_185 (fun H locs hI _ => ?_)
  refine fl_iconst C.1 dL_contest_188 ?_
  refine fl_icmp_ne (tgt := 329) C.1 (rgk 4 rfl) (rgk 4 rfl) dL_contest_189 (by decide) (fun h => absurd rfl h) (fun _ => ?_)
  refine lv_aload_n C.1.1 C.1.2.1 dL_contest_192 rfl (lv_at hl 0 rfl) ?_
  refine fl_iconst C.1 dL_contest_193 ?_
  refine fl_iconst C.1 dL_contest_194 ?_
  refine j_enter hst C (by exact ⟨(Nat.le_of_ble_eq_true rfl), (Nat.le_of_ble_eq_true rfl)⟩) hI hl.1 (rgk 2 rfl) (rgk 0 rfl) oSf19 (Nat.le_of_ble_eq_true rfl) ⟨(Nat.le_of_ble_eq_true rfl), (Nat.le_of_ble_eq_true rfl)⟩ dL_contest_195 (fun H locs hI _ => ?_)
  refine fl_if_ne (tgt := 329) C.1 (rgk 0 rfl) dL_contest_198 (by decide) (fun h => absurd rfl h) (fun _ => ?_)
  refine lv_aload_n C.1.1 C.1.2.1 dL_contest_201 rfl (lv_at hl 0 rfl) ?_
  refine fl_bipush C.1 dL_contest_202 (by decide) ?_
  refine j_pass hst C (by exact ⟨(Nat.le_of_ble_eq_true rfl), (Nat.le_of_ble_eq_true rfl)⟩) hI hl.1 (rgk 10 rfl) oSf20 (Nat.le_of_ble_eq_true rfl) ⟨(Nat.le_of_ble_eq_true rfl), (Nat.le_of_ble_eq_true rfl)⟩ dL_contest_204 (fun H locs hI _ => ?_)
  refine fl_bipush C.1 dL_contest_207 (by decide) ?_
  refine fl_icmp_ne (tgt := 329) C.1 (rgk 10 rfl) (rgk 10 rfl) dL_contest_209 (by decide) (fun h => absurd rfl h) (fun _ => ?_)
  refine lv_aload_n C.1.1 C.1.2.1 dL_contest_212 rfl (lv_at hl 0 rfl) ?_
  refine fl_sipush C.1 dL_contest_213 (by decide) ?_
  refine fl_iconst C.1 dL_contest_216 ?_
  refine k_qcodes (N := 4) hst C ⟨(Nat.le_of_ble_eq_true rfl), (Nat.le_of_ble_eq_true rfl)⟩ hI hl.1 rfl (Nat.le_of_ble_eq_true rfl) (by decide) oSf21 (Nat.le_of_ble_eq_true rfl) ⟨(Nat.le_of_ble_eq_true rfl), (Nat.le_of_ble_eq_true rfl)⟩ dL_contest_217 (fun H locs hI _ => ?_)
  refine fl_iconst C.1 dL_contest_220 ?_
  refine fl_icmp_ne (tgt := 329) C.1 (rgk 4 rfl) (rgk 4 rfl) dL_contest_221 (by decide) (fun h => absurd rfl h) (fun _ => ?_)
  refine lv_aload_n C.1.1 C.1.2.1 dL_contest_224 rfl (lv_at hl 0 rfl) ?_
  refine fl_iconst C.1 dL_contest_225 ?_
  refine fl_iconst C.1 dL_contest_226 ?_
  refine j_enter hst C (by exact ⟨(Nat.le_of_ble_eq_true rfl), (Nat.le_of_ble_eq_true rfl)⟩) hI hl.1 (rgk 3 rfl) (rgk 0 rfl) oSf22 (Nat.le_of_ble_eq_true rfl) ⟨(Nat.le_of_ble_eq_true rfl), (Nat.le_of_ble_eq_true rfl)⟩ dL_contest_227 (fun H locs hI _ => ?_)
  refine fl_iconst C.1 dL_contest_230 ?_
  refine fl_icmp_ne (tgt := 329) C.1 (rgk 1 rfl) (rgk 1 rfl) dL_contest_231 (by decide) (fun h => absurd rfl h) (fun _ => ?_)
  refine lv_aload_n C.1.1 C.1.2.1 dL_contest_234 rfl (lv_at hl 0 rfl) ?_
  refine fl_iconst C.1 dL_contest_235 ?_
  refine fl_iconst C.1 dL_contest_236 ?_
  refine j_enter hst C (by exact ⟨(Nat.le_of_ble_eq_true rfl), (Nat.le_of_ble_eq_true rfl)⟩) hI hl.1 (rgk 3 rfl) (rgk 0 rfl) oSf23 (Nat.le_of_ble_eq_true rfl) ⟨(Nat.le_of_ble_eq_true rfl), (Nat.le_of_ble_eq_true rfl)⟩ dL_contest_237 (fun H locs hI _ => ?_)
  refine fl_iconst C.1 dL_contest_240 ?_
  refine fl_icmp_ne (tgt := 329) C.1 (rgk 2 rfl) (rgk 2 rfl) dL_contest_241 (by decide) (fun h => absurd rfl h) (fun _ => ?_)
  exact W.widen (Nat.le_of_ble_eq_true rfl) (Nat.le_of_ble_eq_true rfl) (kk H locs ls hI hl)
set_option maxRecDepth 100000 in
set_option maxHeartbeats 4000000 in
theorem w_contest_1 (hst : l.stackTraces = false) (C : LC p s m meth c D cy B cL_contest 1) (kk : ∀ (H : Heap) (locs : List Loc) (ls : Array Slot), HI D cy B s.heap H locs x oS30 → lv_has ls 1 [(0, .ref x)] → W p l e rm_L_contest s m args below meth c H locs 2444 350135 Q (F0 m 505 ls [])) : ∀ (H : Heap) (locs : List Loc) (ls : Array Slot), HI D cy B s.heap H locs x oS19 → lv_has ls 1 [(0, .ref x)] → W p l e rm_L_contest s m args below meth c H locs 2281 345131 Q (F0 m 244 ls []) := by
  intro H locs ls hI hl
  refine lv_aload_n C.1.1 C.1.2.1 dL_contest_244 rfl (lv_at hl 0 rfl) ?_
  refine fl_bipush C.1 dL_contest_245 (by decide) ?_
  refine fl_iconst C.1 dL_contest_247 ?_
  refine k_qcodes (N := 1) hst C ⟨(Nat.le_of_ble_eq_true rfl), (Nat.le_of_ble_eq_true rfl)⟩ hI hl.1 rfl (Nat.le_of_ble_eq_true rfl) (by decide) oSf24 (Nat.le_of_ble_eq_true rfl) ⟨(Nat.le_of_ble_eq_true rfl), (Nat.le_of_ble_eq_true rfl)⟩ dL_contest_248 (fun H locs hI _ => ?_)
  refine fl_iconst C.1 dL_contest_251 ?_
  refine fl_icmp_ne (tgt := 329) C.1 (rgk 1 rfl) (rgk 1 rfl) dL_contest_252 (by decide) (fun h => absurd rfl h) (fun _ => ?_)
  refine lv_aload_n C.1.1 C.1.2.1 dL_contest_255 rfl (lv_at hl 0 rfl) ?_
  refine fl_iconst C.1 dL_contest_256 ?_
  refine fl_iconst C.1 dL_contest_257 ?_
  refine j_enter hst C (by exact ⟨(Nat.le_of_ble_eq_true rfl), (Nat.le_of_ble_eq_true rfl)⟩) hI hl.1 (rgk 4 rfl) (rgk 0 rfl) oSf25 (Nat.le_of_ble_eq_true rfl) ⟨(Nat.le_of_ble_eq_true rfl), (Nat.le_of_ble_eq_true rfl)⟩ dL_contest_258 (fun H locs hI _ => ?_)
  refine fl_iconst C.1 dL_contest_261 ?_
  refine fl_icmp_ne (tgt := 329) C.1 (rgk 3 rfl) (rgk 3 rfl) dL_contest_262 (by decide) (fun h => absurd rfl h) (fun _ => ?_)
  refine lv_aload_n C.1.1 C.1.2.1 dL_contest_265 rfl (lv_at hl 0 rfl) ?_
  refine fl_bipush C.1 dL_contest_266 (by decide) ?_
  refine fl_iconst C.1 dL_contest_268 ?_
  refine k_qcodes (N := 1) hst C ⟨(Nat.le_of_ble_eq_true rfl), (Nat.le_of_ble_eq_true rfl)⟩ hI hl.1 rfl (Nat.le_of_ble_eq_true rfl) (by decide) oSf26 (Nat.le_of_ble_eq_true rfl) ⟨(Nat.le_of_ble_eq_true rfl), (Nat.le_of_ble_eq_true rfl)⟩ dL_contest_269 (fun H locs hI _ => ?_)
  refine fl_iconst C.1 dL_contest_272 ?_
  refine fl_icmp_ne (tgt := 329) C.1 (rgk 1 rfl) (rgk 1 rfl) dL_contest_273 (by decide) (fun h => absurd rfl h) (fun _ => ?_)
  refine lv_aload_n C.1.1 C.1.2.1 dL_contest_276 rfl (lv_at hl 0 rfl) ?_
  refine fl_iconst C.1 dL_contest_277 ?_
  refine fl_iconst C.1 dL_contest_278 ?_
  refine j_enter hst C (by exact ⟨(Nat.le_of_ble_eq_true rfl), (Nat.le_of_ble_eq_true rfl)⟩) hI hl.1 (rgk 4 rfl) (rgk 0 rfl) oSf27 (Nat.le_of_ble_eq_true rfl) ⟨(Nat.le_of_ble_eq_true rfl), (Nat.le_of_ble_eq_true rfl)⟩ dL_contest_279 (fun H locs hI _ => ?_)
  refine fl_iconst C.1 dL_contest_282 ?_
  refine fl_icmp_ne (tgt := 329) C.1 (rgk 4 rfl) (rgk 4 rfl) dL_contest_283 (by decide) (fun h => absurd rfl h) (fun _ => ?_)
  refine lv_aload_n C.1.1 C.1.2.1 dL_contest_286 rfl (lv_at hl 0 rfl) ?_
  refine fl_iconst C.1 dL_contest_287 ?_
  refine fl_iconst C.1 dL_contest_288 ?_
  refine fl_iconst C.1 dL_contest_289 ?_
  refine fl_iconst C.1 dL_contest_290 ?_
  refine fl_iconst C.1 dL_contest_291 ?_
  refine k_qentry hst C ⟨(Nat.le_of_ble_eq_true rfl), (Nat.le_of_ble_eq_true rfl)⟩ hI hl.1 (rgk 0 rfl) (rgk (-1) rfl) (rgk (-1) rfl) (rgk 0 rfl) (rgk (-1) rfl) oSf28 (Nat.le_of_ble_eq_true rfl) ⟨(Nat.le_of_ble_eq_true rfl), (Nat.le_of_ble_eq_true rfl)⟩ dL_contest_292 (fun H locs hI _ => ?_)
  refine fl_if_eq (tgt := 329) C.1 (rgk 1 rfl) dL_contest_295 (by decide) (fun h => absurd h (by decide)) (fun _ => ?_)
  refine lv_aload_n C.1.1 C.1.2.1 dL_contest_298 rfl (lv_at hl 0 rfl) ?_
  refine fl_iconst C.1 dL_contest_299 ?_
  refine fl_iconst C.1 dL_contest_300 ?_
  refine j_entry hst C (by exact ⟨(Nat.le_of_ble_eq_true rfl), (Nat.le_of_ble_eq_true rfl)⟩) hI hl.1 (rgk 1 rfl) (rgk 4 rfl) oSf29 (Nat.le_of_ble_eq_true rfl) ⟨(Nat.le_of_ble_eq_true rfl), (Nat.le_of_ble_eq_true rfl)⟩ dL_contest_301 (fun H locs hI _ => ?_)
  refine fl_iconst C.1 dL_contest_304 ?_
  refine fl_icmp_ne (tgt := 329) C.1 (rgk 3 rfl) (rgk 3 rfl) dL_contest_305 (by decide) (fun h => absurd rfl h) (fun _ => ?_)
  refine lv_aload_n C.1.1 C.1.2.1 dL_contest_308 rfl (lv_at hl 0 rfl) ?_
  refine fl_iconst C.1 dL_contest_309 ?_
  refine fl_iconst C.1 dL_contest_310 ?_
  refine j_entry hst C (by exact ⟨(Nat.le_of_ble_eq_true rfl), (Nat.le_of_ble_eq_true rfl)⟩) hI hl.1 (rgk 1 rfl) (rgk 5 rfl) oSf30 (Nat.le_of_ble_eq_true rfl) ⟨(Nat.le_of_ble_eq_true rfl), (Nat.le_of_ble_eq_true rfl)⟩ dL_contest_311 (fun H locs hI _ => ?_)
  refine fl_if_ne (tgt := 329) C.1 (rgk 0 rfl) dL_contest_314 (by decide) (fun h => absurd rfl h) (fun _ => ?_)
  refine lv_aload_n C.1.1 C.1.2.1 dL_contest_317 rfl (lv_at hl 0 rfl) ?_
  refine fl_iconst C.1 dL_contest_318 ?_
  refine fl_bipush C.1 dL_contest_319 (by decide) ?_
  refine j_entry hst C (by exact ⟨(Nat.le_of_ble_eq_true rfl), (Nat.le_of_ble_eq_true rfl)⟩) hI hl.1 (rgk 1 rfl) (rgk 6 rfl) oSf31 (Nat.le_of_ble_eq_true rfl) ⟨(Nat.le_of_ble_eq_true rfl), (Nat.le_of_ble_eq_true rfl)⟩ dL_contest_321 (fun H locs hI _ => ?_)
  refine fl_bipush C.1 dL_contest_324 (by decide) ?_
  refine fl_icmp_eq (tgt := 331) C.1 (rgk 10 rfl) (rgk 10 rfl) dL_contest_326 (by decide) (fun _ => ?_) (fun h => absurd (by decide) h)
  refine lv_aload_n C.1.1 C.1.2.1 dL_contest_331 rfl (lv_at hl 0 rfl) ?_
  refine j_judge C (by exact ⟨(Nat.le_of_ble_eq_true rfl), (Nat.le_of_ble_eq_true rfl)⟩) hI hl.1 oSf32 (Nat.le_of_ble_eq_true rfl) ⟨(Nat.le_of_ble_eq_true rfl), (Nat.le_of_ble_eq_true rfl)⟩ dL_contest_332 (fun H locs hI _ => ?_)
  refine fl_if_ne (tgt := 651) C.1 (rgk 0 rfl) dL_contest_335 (by decide) (fun h => absurd rfl h) (fun _ => ?_)
  refine lv_aload_n C.1.1 C.1.2.1 dL_contest_338 rfl (lv_at hl 0 rfl) ?_
  refine fl_iconst C.1 dL_contest_339 ?_
  refine fl_iconst C.1 dL_contest_340 ?_
  refine fl_iconst C.1 dL_contest_341 ?_
  refine fl_bipush C.1 dL_contest_342 (by decide) ?_
  refine fl_iconst C.1 dL_contest_344 ?_
  refine k_qentry hst C ⟨(Nat.le_of_ble_eq_true rfl), (Nat.le_of_ble_eq_true rfl)⟩ hI hl.1 (rgk 0 rfl) (rgk 0 rfl) (rgk (-1) rfl) (rgk 50 rfl) (rgk 2 rfl) oSf33 (Nat.le_of_ble_eq_true rfl) ⟨(Nat.le_of_ble_eq_true rfl), (Nat.le_of_ble_eq_true rfl)⟩ dL_contest_345 (fun H locs hI _ => ?_)
  refine fl_if_eq (tgt := 651) C.1 (rgk 1 rfl) dL_contest_348 (by decide) (fun h => absurd h (by decide)) (fun _ => ?_)
  refine lv_aload_n C.1.1 C.1.2.1 dL_contest_351 rfl (lv_at hl 0 rfl) ?_
  refine j_judge C (by exact ⟨(Nat.le_of_ble_eq_true rfl), (Nat.le_of_ble_eq_true rfl)⟩) hI hl.1 oSf34 (Nat.le_of_ble_eq_true rfl) ⟨(Nat.le_of_ble_eq_true rfl), (Nat.le_of_ble_eq_true rfl)⟩ dL_contest_352 (fun H locs hI _ => ?_)
  refine fl_iconst C.1 dL_contest_355 ?_
  refine fl_icmp_ne (tgt := 651) C.1 (rgk 1 rfl) (rgk 1 rfl) dL_contest_356 (by decide) (fun h => absurd rfl h) (fun _ => ?_)
  refine lv_aload_n C.1.1 C.1.2.1 dL_contest_359 rfl (lv_at hl 0 rfl) ?_
  refine fl_iconst C.1 dL_contest_360 ?_
  refine fl_iconst C.1 dL_contest_361 ?_
  refine fl_iconst C.1 dL_contest_362 ?_
  refine fl_iconst C.1 dL_contest_363 ?_
  refine fl_iconst C.1 dL_contest_364 ?_
  refine k_qentry hst C ⟨(Nat.le_of_ble_eq_true rfl), (Nat.le_of_ble_eq_true rfl)⟩ hI hl.1 (rgk 1 rfl) (rgk 1 rfl) (rgk 0 rfl) (rgk 0 rfl) (rgk 2 rfl) oSf35 (Nat.le_of_ble_eq_true rfl) ⟨(Nat.le_of_ble_eq_true rfl), (Nat.le_of_ble_eq_true rfl)⟩ dL_contest_365 (fun H locs hI _ => ?_)
  refine fl_if_eq (tgt := 651) C.1 (rgk 1 rfl) dL_contest_368 (by decide) (fun h => absurd h (by decide)) (fun _ => ?_)
  refine lv_aload_n C.1.1 C.1.2.1 dL_contest_371 rfl (lv_at hl 0 rfl) ?_
  refine j_judge C (by exact ⟨(Nat.le_of_ble_eq_true rfl), (Nat.le_of_ble_eq_true rfl)⟩) hI hl.1 oSf36 (Nat.le_of_ble_eq_true rfl) ⟨(Nat.le_of_ble_eq_true rfl), (Nat.le_of_ble_eq_true rfl)⟩ dL_contest_372 (fun H locs hI _ => ?_)
  refine fl_iconst C.1 dL_contest_375 ?_
  refine fl_icmp_ne (tgt := 651) C.1 (rgk 3 rfl) (rgk 3 rfl) dL_contest_376 (by decide) (fun h => absurd rfl h) (fun _ => ?_)
  refine lv_aload_n C.1.1 C.1.2.1 dL_contest_379 rfl (lv_at hl 0 rfl) ?_
  refine fl_iconst C.1 dL_contest_380 ?_
  refine fl_iconst C.1 dL_contest_381 ?_
  refine fl_iconst C.1 dL_contest_382 ?_
  refine fl_iconst C.1 dL_contest_383 ?_
  refine fl_iconst C.1 dL_contest_384 ?_
  refine k_qentry hst C ⟨(Nat.le_of_ble_eq_true rfl), (Nat.le_of_ble_eq_true rfl)⟩ hI hl.1 (rgk 3 rfl) (rgk 4 rfl) (rgk 0 rfl) (rgk 0 rfl) (rgk 2 rfl) oSf37 (Nat.le_of_ble_eq_true rfl) ⟨(Nat.le_of_ble_eq_true rfl), (Nat.le_of_ble_eq_true rfl)⟩ dL_contest_385 (fun H locs hI _ => ?_)
  refine fl_if_eq (tgt := 651) C.1 (rgk 1 rfl) dL_contest_388 (by decide) (fun h => absurd h (by decide)) (fun _ => ?_)
  refine lv_aload_n C.1.1 C.1.2.1 dL_contest_391 rfl (lv_at hl 0 rfl) ?_
  refine j_judge C (by exact ⟨(Nat.le_of_ble_eq_true rfl), (Nat.le_of_ble_eq_true rfl)⟩) hI hl.1 oSf38 (Nat.le_of_ble_eq_true rfl) ⟨(Nat.le_of_ble_eq_true rfl), (Nat.le_of_ble_eq_true rfl)⟩ dL_contest_392 (fun H locs hI _ => ?_)
  refine fl_iconst C.1 dL_contest_395 ?_
  refine fl_icmp_ne (tgt := 651) C.1 (rgk 2 rfl) (rgk 2 rfl) dL_contest_396 (by decide) (fun h => absurd rfl h) (fun _ => ?_)
  refine lv_aload_n C.1.1 C.1.2.1 dL_contest_399 rfl (lv_at hl 0 rfl) ?_
  refine fl_iconst C.1 dL_contest_400 ?_
  refine fl_iconst C.1 dL_contest_401 ?_
  refine fl_iconst C.1 dL_contest_402 ?_
  refine fl_iconst C.1 dL_contest_403 ?_
  refine fl_iconst C.1 dL_contest_404 ?_
  refine k_qentry hst C ⟨(Nat.le_of_ble_eq_true rfl), (Nat.le_of_ble_eq_true rfl)⟩ hI hl.1 (rgk 2 rfl) (rgk 5 rfl) (rgk 0 rfl) (rgk 0 rfl) (rgk 2 rfl) oSf39 (Nat.le_of_ble_eq_true rfl) ⟨(Nat.le_of_ble_eq_true rfl), (Nat.le_of_ble_eq_true rfl)⟩ dL_contest_405 (fun H locs hI _ => ?_)
  refine fl_if_eq (tgt := 651) C.1 (rgk 1 rfl) dL_contest_408 (by decide) (fun h => absurd h (by decide)) (fun _ => ?_)
  refine lv_aload_n C.1.1 C.1.2.1 dL_contest_411 rfl (lv_at hl 0 rfl) ?_
  refine j_judge C (by exact ⟨(Nat.le_of_ble_eq_true rfl), (Nat.le_of_ble_eq_true rfl)⟩) hI hl.1 oSf40 (Nat.le_of_ble_eq_true rfl) ⟨(Nat.le_of_ble_eq_true rfl), (Nat.le_of_ble_eq_true rfl)⟩ dL_contest_412 (fun H locs hI _ => ?_)
  refine fl_iconst C.1 dL_contest_415 ?_
  refine fl_icmp_ne (tgt := 651) C.1 (rgk 4 rfl) (rgk 4 rfl) dL_contest_416 (by decide) (fun h => absurd rfl h) (fun _ => ?_)
  refine lv_aload_n C.1.1 C.1.2.1 dL_contest_419 rfl (lv_at hl 0 rfl) ?_
  refine fl_iconst C.1 dL_contest_420 ?_
  refine fl_iconst C.1 dL_contest_421 ?_
  refine fl_iconst C.1 dL_contest_422 ?_
  refine fl_iconst C.1 dL_contest_423 ?_
  refine fl_iconst C.1 dL_contest_424 ?_
  refine k_qentry hst C ⟨(Nat.le_of_ble_eq_true rfl), (Nat.le_of_ble_eq_true rfl)⟩ hI hl.1 (rgk 4 rfl) (rgk 2 rfl) (rgk 0 rfl) (rgk 0 rfl) (rgk 2 rfl) oSf41 (Nat.le_of_ble_eq_true rfl) ⟨(Nat.le_of_ble_eq_true rfl), (Nat.le_of_ble_eq_true rfl)⟩ dL_contest_425 (fun H locs hI _ => ?_)
  refine fl_if_eq (tgt := 651) C.1 (rgk 1 rfl) dL_contest_428 (by decide) (fun h => absurd h (by decide)) (fun _ => ?_)
  refine lv_aload_n C.1.1 C.1.2.1 dL_contest_431 rfl (lv_at hl 0 rfl) ?_
  refine j_judge C (by exact ⟨(Nat.le_of_ble_eq_true rfl), (Nat.le_of_ble_eq_true rfl)⟩) hI hl.1 oSf42 (Nat.le_of_ble_eq_true rfl) ⟨(Nat.le_of_ble_eq_true rfl), (Nat.le_of_ble_eq_true rfl)⟩ dL_contest_432 (fun H locs hI _ => ?_)
  refine fl_iconst C.1 dL_contest_435 ?_
  refine fl_icmp_ne (tgt := 651) C.1 (rgk (-1) rfl) (rgk (-1) rfl) dL_contest_436 (by decide) (fun h => absurd rfl h) (fun _ => ?_)
  refine lv_aload_n C.1.1 C.1.2.1 dL_contest_439 rfl (lv_at hl 0 rfl) ?_
  refine fl_iconst C.1 dL_contest_440 ?_
  refine fl_iconst C.1 dL_contest_441 ?_
  refine fl_iconst C.1 dL_contest_442 ?_
  refine fl_iconst C.1 dL_contest_443 ?_
  refine fl_iconst C.1 dL_contest_444 ?_
  refine fl_iconst C.1 dL_contest_445 ?_
  refine k_qboard hst C ⟨(Nat.le_of_ble_eq_true rfl), (Nat.le_of_ble_eq_true rfl)⟩ hI hl.1 (rgk 2 rfl) (rgk 0 rfl) (rgk 0 rfl) (rgk 1 rfl) (rgk 0 rfl) (rgk 0 rfl) oSf43 (Nat.le_of_ble_eq_true rfl) ⟨(Nat.le_of_ble_eq_true rfl), (Nat.le_of_ble_eq_true rfl)⟩ dL_contest_446 (fun H locs hI _ => ?_)
  refine fl_if_eq (tgt := 651) C.1 (rgk 1 rfl) dL_contest_449 (by decide) (fun h => absurd h (by decide)) (fun _ => ?_)
  refine lv_aload_n C.1.1 C.1.2.1 dL_contest_452 rfl (lv_at hl 0 rfl) ?_
  refine fl_iconst C.1 dL_contest_453 ?_
  refine fl_iconst C.1 dL_contest_454 ?_
  refine fl_iconst C.1 dL_contest_455 ?_
  refine fl_iconst C.1 dL_contest_456 ?_
  refine fl_iconst C.1 dL_contest_457 ?_
  refine fl_iconst C.1 dL_contest_458 ?_
  refine k_qboard hst C ⟨(Nat.le_of_ble_eq_true rfl), (Nat.le_of_ble_eq_true rfl)⟩ hI hl.1 (rgk 0 rfl) (rgk 0 rfl) (rgk 1 rfl) (rgk 0 rfl) (rgk 0 rfl) (rgk 0 rfl) oSf44 (Nat.le_of_ble_eq_true rfl) ⟨(Nat.le_of_ble_eq_true rfl), (Nat.le_of_ble_eq_true rfl)⟩ dL_contest_459 (fun H locs hI _ => ?_)
  refine fl_if_eq (tgt := 651) C.1 (rgk 1 rfl) dL_contest_462 (by decide) (fun h => absurd h (by decide)) (fun _ => ?_)
  refine lv_aload_n C.1.1 C.1.2.1 dL_contest_465 rfl (lv_at hl 0 rfl) ?_
  refine fl_iconst C.1 dL_contest_466 ?_
  refine fl_iconst C.1 dL_contest_467 ?_
  refine fl_iconst C.1 dL_contest_468 ?_
  refine fl_iconst C.1 dL_contest_469 ?_
  refine fl_iconst C.1 dL_contest_470 ?_
  refine fl_iconst C.1 dL_contest_471 ?_
  refine k_qboard hst C ⟨(Nat.le_of_ble_eq_true rfl), (Nat.le_of_ble_eq_true rfl)⟩ hI hl.1 (rgk 3 rfl) (rgk 0 rfl) (rgk 3 rfl) (rgk 0 rfl) (rgk 0 rfl) (rgk 0 rfl) oSf45 (Nat.le_of_ble_eq_true rfl) ⟨(Nat.le_of_ble_eq_true rfl), (Nat.le_of_ble_eq_true rfl)⟩ dL_contest_472 (fun H locs hI _ => ?_)
  refine fl_if_eq (tgt := 651) C.1 (rgk 1 rfl) dL_contest_475 (by decide) (fun h => absurd h (by decide)) (fun _ => ?_)
  refine lv_aload_n C.1.1 C.1.2.1 dL_contest_478 rfl (lv_at hl 0 rfl) ?_
  refine fl_bipush C.1 dL_contest_479 (by decide) ?_
  refine fl_iconst C.1 dL_contest_481 ?_
  refine fl_bipush C.1 dL_contest_482 (by decide) ?_
  refine fl_iconst C.1 dL_contest_484 ?_
  refine fl_iconst C.1 dL_contest_485 ?_
  refine fl_iconst C.1 dL_contest_486 ?_
  refine k_qboard hst C ⟨(Nat.le_of_ble_eq_true rfl), (Nat.le_of_ble_eq_true rfl)⟩ hI hl.1 (rgk 7 rfl) (rgk 1 rfl) (rgk 7 rfl) (rgk 0 rfl) (rgk 0 rfl) (rgk 0 rfl) oSf46 (Nat.le_of_ble_eq_true rfl) ⟨(Nat.le_of_ble_eq_true rfl), (Nat.le_of_ble_eq_true rfl)⟩ dL_contest_487 (fun H locs hI _ => ?_)
  refine fl_if_eq (tgt := 651) C.1 (rgk 1 rfl) dL_contest_490 (by decide) (fun h => absurd h (by decide)) (fun _ => ?_)
  refine lv_aload_n C.1.1 C.1.2.1 dL_contest_493 rfl (lv_at hl 0 rfl) ?_
  refine fl_sipush C.1 dL_contest_494 (by decide) ?_
  refine fl_iconst C.1 dL_contest_497 ?_
  refine k_qcodes (N := 4) hst C ⟨(Nat.le_of_ble_eq_true rfl), (Nat.le_of_ble_eq_true rfl)⟩ hI hl.1 rfl (Nat.le_of_ble_eq_true rfl) (by decide) oSf47 (Nat.le_of_ble_eq_true rfl) ⟨(Nat.le_of_ble_eq_true rfl), (Nat.le_of_ble_eq_true rfl)⟩ dL_contest_498 (fun H locs hI _ => ?_)
  refine fl_iconst C.1 dL_contest_501 ?_
  refine fl_icmp_ne (tgt := 651) C.1 (rgk 4 rfl) (rgk 4 rfl) dL_contest_502 (by decide) (fun h => absurd rfl h) (fun _ => ?_)
  exact W.widen (Nat.le_of_ble_eq_true rfl) (Nat.le_of_ble_eq_true rfl) (kk H locs ls hI hl)
set_option maxRecDepth 100000 in
set_option maxHeartbeats 4000000 in
theorem w_contest_2 (hst : l.stackTraces = false) (C : LC p s m meth c D cy B cL_contest 1) (kk : ∀ (H : Heap) (locs : List Loc) (ls : Array Slot), HI D cy B s.heap H locs x oS41 → lv_has ls 1 [(0, .ref x)] → W p l e rm_L_contest s m args below meth c H locs 2520 354611 Q (F0 m 755 ls [])) : ∀ (H : Heap) (locs : List Loc) (ls : Array Slot), HI D cy B s.heap H locs x oS30 → lv_has ls 1 [(0, .ref x)] → W p l e rm_L_contest s m args below meth c H locs 2444 350135 Q (F0 m 505 ls []) := by
  intro H locs ls hI hl
  refine lv_aload_n C.1.1 C.1.2.1 dL_contest_505 rfl (lv_at hl 0 rfl) ?_
  refine fl_iconst C.1 dL_contest_506 ?_
  refine fl_iconst C.1 dL_contest_507 ?_
  refine j_enter hst C (by exact ⟨(Nat.le_of_ble_eq_true rfl), (Nat.le_of_ble_eq_true rfl)⟩) hI hl.1 (rgk 3 rfl) (rgk 0 rfl) oSf48 (Nat.le_of_ble_eq_true rfl) ⟨(Nat.le_of_ble_eq_true rfl), (Nat.le_of_ble_eq_true rfl)⟩ dL_contest_508 (fun H locs hI _ => ?_)
  refine fl_iconst C.1 dL_contest_511 ?_
  refine fl_icmp_ne (tgt := 651) C.1 (rgk 5 rfl) (rgk 5 rfl) dL_contest_512 (by decide) (fun h => absurd rfl h) (fun _ => ?_)
  refine lv_aload_n C.1.1 C.1.2.1 dL_contest_515 rfl (lv_at hl 0 rfl) ?_
  refine fl_iconst C.1 dL_contest_516 ?_
  refine j_placeAnew hst C (by exact ⟨(Nat.le_of_ble_eq_true rfl), (Nat.le_of_ble_eq_true rfl)⟩) hI hl.1 (rgk 3 rfl) oSf49 (Nat.le_of_ble_eq_true rfl) ⟨(Nat.le_of_ble_eq_true rfl), (Nat.le_of_ble_eq_true rfl)⟩ dL_contest_517 (fun H locs hI _ => ?_)
  refine fl_iconst C.1 dL_contest_520 ?_
  refine fl_icmp_ne (tgt := 651) C.1 (rgk 1 rfl) (rgk 1 rfl) dL_contest_521 (by decide) (fun h => absurd rfl h) (fun _ => ?_)
  refine lv_aload_n C.1.1 C.1.2.1 dL_contest_524 rfl (lv_at hl 0 rfl) ?_
  refine fl_iconst C.1 dL_contest_525 ?_
  refine fl_iconst C.1 dL_contest_526 ?_
  refine fl_iconst C.1 dL_contest_527 ?_
  refine j_board hst C (by exact ⟨(Nat.le_of_ble_eq_true rfl), (Nat.le_of_ble_eq_true rfl)⟩) hI hl.1 (rgk 3 rfl) (rgk 0 rfl) (rgk 0 rfl) oSf50 (Nat.le_of_ble_eq_true rfl) ⟨(Nat.le_of_ble_eq_true rfl), (Nat.le_of_ble_eq_true rfl)⟩ dL_contest_528 (fun H locs hI _ => ?_)
  refine fl_iconst C.1 dL_contest_531 ?_
  refine fl_icmp_ne (tgt := 651) C.1 (rgk 3 rfl) (rgk 3 rfl) dL_contest_532 (by decide) (fun h => absurd rfl h) (fun _ => ?_)
  refine lv_aload_n C.1.1 C.1.2.1 dL_contest_535 rfl (lv_at hl 0 rfl) ?_
  refine j_judge C (by exact ⟨(Nat.le_of_ble_eq_true rfl), (Nat.le_of_ble_eq_true rfl)⟩) hI hl.1 oSf51 (Nat.le_of_ble_eq_true rfl) ⟨(Nat.le_of_ble_eq_true rfl), (Nat.le_of_ble_eq_true rfl)⟩ dL_contest_536 (fun H locs hI _ => ?_)
  refine fl_iconst C.1 dL_contest_539 ?_
  refine fl_icmp_ne (tgt := 651) C.1 (rgk 5 rfl) (rgk 5 rfl) dL_contest_540 (by decide) (fun h => absurd rfl h) (fun _ => ?_)
  refine lv_aload_n C.1.1 C.1.2.1 dL_contest_543 rfl (lv_at hl 0 rfl) ?_
  refine fl_iconst C.1 dL_contest_544 ?_
  refine fl_iconst C.1 dL_contest_545 ?_
  refine fl_iconst C.1 dL_contest_546 ?_
  refine fl_iconst C.1 dL_contest_547 ?_
  refine fl_bipush C.1 dL_contest_548 (by decide) ?_
  refine fl_bipush C.1 dL_contest_550 (by decide) ?_
  refine k_qboard hst C ⟨(Nat.le_of_ble_eq_true rfl), (Nat.le_of_ble_eq_true rfl)⟩ hI hl.1 (rgk 3 rfl) (rgk 0 rfl) (rgk 1 rfl) (rgk 1 rfl) (rgk 50 rfl) (rgk 10 rfl) oSf52 (Nat.le_of_ble_eq_true rfl) ⟨(Nat.le_of_ble_eq_true rfl), (Nat.le_of_ble_eq_true rfl)⟩ dL_contest_552 (fun H locs hI _ => ?_)
  refine fl_if_eq (tgt := 651) C.1 (rgk 1 rfl) dL_contest_555 (by decide) (fun h => absurd h (by decide)) (fun _ => ?_)
  refine lv_aload_n C.1.1 C.1.2.1 dL_contest_558 rfl (lv_at hl 0 rfl) ?_
  refine fl_iconst C.1 dL_contest_559 ?_
  refine fl_iconst C.1 dL_contest_560 ?_
  refine fl_iconst C.1 dL_contest_561 ?_
  refine fl_iconst C.1 dL_contest_562 ?_
  refine fl_iconst C.1 dL_contest_563 ?_
  refine fl_iconst C.1 dL_contest_564 ?_
  refine k_qboard hst C ⟨(Nat.le_of_ble_eq_true rfl), (Nat.le_of_ble_eq_true rfl)⟩ hI hl.1 (rgk 0 rfl) (rgk 0 rfl) (rgk 2 rfl) (rgk 0 rfl) (rgk 0 rfl) (rgk 0 rfl) oSf53 (Nat.le_of_ble_eq_true rfl) ⟨(Nat.le_of_ble_eq_true rfl), (Nat.le_of_ble_eq_true rfl)⟩ dL_contest_565 (fun H locs hI _ => ?_)
  refine fl_if_eq (tgt := 651) C.1 (rgk 1 rfl) dL_contest_568 (by decide) (fun h => absurd h (by decide)) (fun _ => ?_)
  refine lv_aload_n C.1.1 C.1.2.1 dL_contest_571 rfl (lv_at hl 0 rfl) ?_
  refine fl_iconst C.1 dL_contest_572 ?_
  refine fl_iconst C.1 dL_contest_573 ?_
  refine fl_iconst C.1 dL_contest_574 ?_
  refine fl_bipush C.1 dL_contest_575 (by decide) ?_
  refine k_act hst C ⟨(Nat.le_of_ble_eq_true rfl), (Nat.le_of_ble_eq_true rfl)⟩ hI hl.1 (rgk 5 rfl) (rgk 0 rfl) (rgk 1 rfl) (rgk 40 rfl) oSf54 (Nat.le_of_ble_eq_true rfl) ⟨(Nat.le_of_ble_eq_true rfl), (Nat.le_of_ble_eq_true rfl)⟩ dL_contest_577 (fun H locs hI _ => ?_)
  refine fl_bipush C.1 dL_contest_580 (by decide) ?_
  refine fl_icmp_ne (tgt := 651) C.1 (rgk 25 rfl) (rgk 25 rfl) dL_contest_582 (by decide) (fun h => absurd rfl h) (fun _ => ?_)
  refine lv_aload_n C.1.1 C.1.2.1 dL_contest_585 rfl (lv_at hl 0 rfl) ?_
  refine fl_iconst C.1 dL_contest_586 ?_
  refine fl_iconst C.1 dL_contest_587 ?_
  refine fl_iconst C.1 dL_contest_588 ?_
  refine fl_bipush C.1 dL_contest_589 (by decide) ?_
  refine fl_iconst C.1 dL_contest_591 ?_
  refine k_qentry hst C ⟨(Nat.le_of_ble_eq_true rfl), (Nat.le_of_ble_eq_true rfl)⟩ hI hl.1 (rgk 5 rfl) (rgk 0 rfl) (rgk (-1) rfl) (rgk 50 rfl) (rgk 2 rfl) oSf55 (Nat.le_of_ble_eq_true rfl) ⟨(Nat.le_of_ble_eq_true rfl), (Nat.le_of_ble_eq_true rfl)⟩ dL_contest_592 (fun H locs hI _ => ?_)
  refine fl_if_eq (tgt := 651) C.1 (rgk 1 rfl) dL_contest_595 (by decide) (fun h => absurd h (by decide)) (fun _ => ?_)
  refine lv_aload_n C.1.1 C.1.2.1 dL_contest_598 rfl (lv_at hl 0 rfl) ?_
  refine fl_iconst C.1 dL_contest_599 ?_
  refine fl_iconst C.1 dL_contest_600 ?_
  refine j_likeness hst C (by exact ⟨(Nat.le_of_ble_eq_true rfl), (Nat.le_of_ble_eq_true rfl)⟩) hI hl.1 (rgk 0 rfl) (rgk 1 rfl) oSf56 (Nat.le_of_ble_eq_true rfl) ⟨(Nat.le_of_ble_eq_true rfl), (Nat.le_of_ble_eq_true rfl)⟩ dL_contest_601 (fun H locs hI _ => ?_)
  refine fl_bipush C.1 dL_contest_604 (by decide) ?_
  refine fl_icmp_ne (tgt := 651) C.1 (rgk 75 rfl) (rgk 75 rfl) dL_contest_606 (by decide) (fun h => absurd rfl h) (fun _ => ?_)
  refine lv_aload_n C.1.1 C.1.2.1 dL_contest_609 rfl (lv_at hl 0 rfl) ?_
  refine fl_iconst C.1 dL_contest_610 ?_
  refine fl_iconst C.1 dL_contest_611 ?_
  refine j_likeness hst C (by exact ⟨(Nat.le_of_ble_eq_true rfl), (Nat.le_of_ble_eq_true rfl)⟩) hI hl.1 (rgk 2 rfl) (rgk 2 rfl) oSf57 (Nat.le_of_ble_eq_true rfl) ⟨(Nat.le_of_ble_eq_true rfl), (Nat.le_of_ble_eq_true rfl)⟩ dL_contest_612 (fun H locs hI _ => ?_)
  refine fl_bipush C.1 dL_contest_615 (by decide) ?_
  refine fl_icmp_ne (tgt := 651) C.1 (rgk 100 rfl) (rgk 100 rfl) dL_contest_617 (by decide) (fun h => absurd rfl h) (fun _ => ?_)
  refine lv_aload_n C.1.1 C.1.2.1 dL_contest_620 rfl (lv_at hl 0 rfl) ?_
  refine fl_iconst C.1 dL_contest_621 ?_
  refine fl_iconst C.1 dL_contest_622 ?_
  refine j_likeness hst C (by exact ⟨(Nat.le_of_ble_eq_true rfl), (Nat.le_of_ble_eq_true rfl)⟩) hI hl.1 (rgk 0 rfl) (rgk 2 rfl) oSf58 (Nat.le_of_ble_eq_true rfl) ⟨(Nat.le_of_ble_eq_true rfl), (Nat.le_of_ble_eq_true rfl)⟩ dL_contest_623 (fun H locs hI _ => ?_)
  refine fl_if_ne (tgt := 651) C.1 (rgk 0 rfl) dL_contest_626 (by decide) (fun h => absurd rfl h) (fun _ => ?_)
  refine lv_aload_n C.1.1 C.1.2.1 dL_contest_629 rfl (lv_at hl 0 rfl) ?_
  refine fl_iconst C.1 dL_contest_630 ?_
  refine fl_iconst C.1 dL_contest_631 ?_
  refine j_likeness hst C (by exact ⟨(Nat.le_of_ble_eq_true rfl), (Nat.le_of_ble_eq_true rfl)⟩) hI hl.1 (rgk 0 rfl) (rgk 5 rfl) oSf59 (Nat.le_of_ble_eq_true rfl) ⟨(Nat.le_of_ble_eq_true rfl), (Nat.le_of_ble_eq_true rfl)⟩ dL_contest_632 (fun H locs hI _ => ?_)
  refine fl_bipush C.1 dL_contest_635 (by decide) ?_
  refine fl_icmp_ne (tgt := 651) C.1 (rgk 100 rfl) (rgk 100 rfl) dL_contest_637 (by decide) (fun h => absurd rfl h) (fun _ => ?_)
  refine lv_aload_n C.1.1 C.1.2.1 dL_contest_640 rfl (lv_at hl 0 rfl) ?_
  refine fl_iconst C.1 dL_contest_641 ?_
  refine fl_iconst C.1 dL_contest_642 ?_
  refine j_likeness hst C (by exact ⟨(Nat.le_of_ble_eq_true rfl), (Nat.le_of_ble_eq_true rfl)⟩) hI hl.1 (rgk 3 rfl) (rgk 0 rfl) oSf60 (Nat.le_of_ble_eq_true rfl) ⟨(Nat.le_of_ble_eq_true rfl), (Nat.le_of_ble_eq_true rfl)⟩ dL_contest_643 (fun H locs hI _ => ?_)
  refine fl_bipush C.1 dL_contest_646 (by decide) ?_
  refine fl_icmp_eq (tgt := 653) C.1 (rgk 25 rfl) (rgk 25 rfl) dL_contest_648 (by decide) (fun _ => ?_) (fun h => absurd (by decide) h)
  refine lv_aload_n C.1.1 C.1.2.1 dL_contest_653 rfl (lv_at hl 0 rfl) ?_
  refine fl_iconst C.1 dL_contest_654 ?_
  refine fl_iconst C.1 dL_contest_655 ?_
  refine j_mend hst C (by exact ⟨(Nat.le_of_ble_eq_true rfl), (Nat.le_of_ble_eq_true rfl)⟩) hI hl.1 (rgk 0 rfl) (rgk 1 rfl) oSf61 (Nat.le_of_ble_eq_true rfl) ⟨(Nat.le_of_ble_eq_true rfl), (Nat.le_of_ble_eq_true rfl)⟩ dL_contest_656 (fun H locs hI _ => ?_)
  refine fl_iconst C.1 dL_contest_659 ?_
  refine fl_icmp_ne (tgt := 786) C.1 (rgk 3 rfl) (rgk 3 rfl) dL_contest_660 (by decide) (fun h => absurd rfl h) (fun _ => ?_)
  refine lv_aload_n C.1.1 C.1.2.1 dL_contest_663 rfl (lv_at hl 0 rfl) ?_
  refine fl_iconst C.1 dL_contest_664 ?_
  refine j_rejudge hst C (by exact ⟨(Nat.le_of_ble_eq_true rfl), (Nat.le_of_ble_eq_true rfl)⟩) hI hl.1 (rgk 0 rfl) oSf62 (Nat.le_of_ble_eq_true rfl) ⟨(Nat.le_of_ble_eq_true rfl), (Nat.le_of_ble_eq_true rfl)⟩ dL_contest_665 (fun H locs hI _ => ?_)
  refine fl_bipush C.1 dL_contest_668 (by decide) ?_
  refine fl_icmp_ne (tgt := 786) C.1 (rgk 6 rfl) (rgk 6 rfl) dL_contest_670 (by decide) (fun h => absurd rfl h) (fun _ => ?_)
  refine lv_aload_n C.1.1 C.1.2.1 dL_contest_673 rfl (lv_at hl 0 rfl) ?_
  refine fl_iconst C.1 dL_contest_674 ?_
  refine j_rejudge hst C (by exact ⟨(Nat.le_of_ble_eq_true rfl), (Nat.le_of_ble_eq_true rfl)⟩) hI hl.1 (rgk 0 rfl) oSf63 (Nat.le_of_ble_eq_true rfl) ⟨(Nat.le_of_ble_eq_true rfl), (Nat.le_of_ble_eq_true rfl)⟩ dL_contest_675 (fun H locs hI _ => ?_)
  refine fl_if_ne (tgt := 786) C.1 (rgk 0 rfl) dL_contest_678 (by decide) (fun h => absurd rfl h) (fun _ => ?_)
  refine lv_aload_n C.1.1 C.1.2.1 dL_contest_681 rfl (lv_at hl 0 rfl) ?_
  refine fl_iconst C.1 dL_contest_682 ?_
  refine fl_iconst C.1 dL_contest_683 ?_
  refine fl_iconst C.1 dL_contest_684 ?_
  refine fl_iconst C.1 dL_contest_685 ?_
  refine fl_iconst C.1 dL_contest_686 ?_
  refine k_qentry hst C ⟨(Nat.le_of_ble_eq_true rfl), (Nat.le_of_ble_eq_true rfl)⟩ hI hl.1 (rgk 0 rfl) (rgk (-1) rfl) (rgk (-1) rfl) (rgk 0 rfl) (rgk (-1) rfl) oSf64 (Nat.le_of_ble_eq_true rfl) ⟨(Nat.le_of_ble_eq_true rfl), (Nat.le_of_ble_eq_true rfl)⟩ dL_contest_687 (fun H locs hI _ => ?_)
  refine fl_if_eq (tgt := 786) C.1 (rgk 1 rfl) dL_contest_690 (by decide) (fun h => absurd h (by decide)) (fun _ => ?_)
  refine lv_aload_n C.1.1 C.1.2.1 dL_contest_693 rfl (lv_at hl 0 rfl) ?_
  refine fl_iconst C.1 dL_contest_694 ?_
  refine fl_iconst C.1 dL_contest_695 ?_
  refine fl_iconst C.1 dL_contest_696 ?_
  refine j_board hst C (by exact ⟨(Nat.le_of_ble_eq_true rfl), (Nat.le_of_ble_eq_true rfl)⟩) hI hl.1 (rgk 2 rfl) (rgk 0 rfl) (rgk 1 rfl) oSf65 (Nat.le_of_ble_eq_true rfl) ⟨(Nat.le_of_ble_eq_true rfl), (Nat.le_of_ble_eq_true rfl)⟩ dL_contest_697 (fun H locs hI _ => ?_)
  refine fl_if_ne (tgt := 786) C.1 (rgk 0 rfl) dL_contest_700 (by decide) (fun h => absurd rfl h) (fun _ => ?_)
  refine lv_aload_n C.1.1 C.1.2.1 dL_contest_703 rfl (lv_at hl 0 rfl) ?_
  refine j_judge C (by exact ⟨(Nat.le_of_ble_eq_true rfl), (Nat.le_of_ble_eq_true rfl)⟩) hI hl.1 oSf66 (Nat.le_of_ble_eq_true rfl) ⟨(Nat.le_of_ble_eq_true rfl), (Nat.le_of_ble_eq_true rfl)⟩ dL_contest_704 (fun H locs hI _ => ?_)
  refine fl_if_ne (tgt := 786) C.1 (rgk 0 rfl) dL_contest_707 (by decide) (fun h => absurd rfl h) (fun _ => ?_)
  refine lv_aload_n C.1.1 C.1.2.1 dL_contest_710 rfl (lv_at hl 0 rfl) ?_
  refine fl_iconst C.1 dL_contest_711 ?_
  refine fl_iconst C.1 dL_contest_712 ?_
  refine fl_iconst C.1 dL_contest_713 ?_
  refine fl_bipush C.1 dL_contest_714 (by decide) ?_
  refine fl_iconst C.1 dL_contest_716 ?_
  refine k_qentry hst C ⟨(Nat.le_of_ble_eq_true rfl), (Nat.le_of_ble_eq_true rfl)⟩ hI hl.1 (rgk 0 rfl) (rgk 0 rfl) (rgk (-1) rfl) (rgk 65 rfl) (rgk 3 rfl) oSf67 (Nat.le_of_ble_eq_true rfl) ⟨(Nat.le_of_ble_eq_true rfl), (Nat.le_of_ble_eq_true rfl)⟩ dL_contest_717 (fun H locs hI _ => ?_)
  refine fl_if_eq (tgt := 786) C.1 (rgk 1 rfl) dL_contest_720 (by decide) (fun h => absurd h (by decide)) (fun _ => ?_)
  refine lv_aload_n C.1.1 C.1.2.1 dL_contest_723 rfl (lv_at hl 0 rfl) ?_
  refine j_judge C (by exact ⟨(Nat.le_of_ble_eq_true rfl), (Nat.le_of_ble_eq_true rfl)⟩) hI hl.1 oSf68 (Nat.le_of_ble_eq_true rfl) ⟨(Nat.le_of_ble_eq_true rfl), (Nat.le_of_ble_eq_true rfl)⟩ dL_contest_724 (fun H locs hI _ => ?_)
  refine fl_iconst C.1 dL_contest_727 ?_
  refine fl_icmp_ne (tgt := 786) C.1 (rgk 3 rfl) (rgk 3 rfl) dL_contest_728 (by decide) (fun h => absurd rfl h) (fun _ => ?_)
  refine lv_aload_n C.1.1 C.1.2.1 dL_contest_731 rfl (lv_at hl 0 rfl) ?_
  refine j_judge C (by exact ⟨(Nat.le_of_ble_eq_true rfl), (Nat.le_of_ble_eq_true rfl)⟩) hI hl.1 oSf69 (Nat.le_of_ble_eq_true rfl) ⟨(Nat.le_of_ble_eq_true rfl), (Nat.le_of_ble_eq_true rfl)⟩ dL_contest_732 (fun H locs hI _ => ?_)
  refine fl_iconst C.1 dL_contest_735 ?_
  refine fl_icmp_ne (tgt := 786) C.1 (rgk 1 rfl) (rgk 1 rfl) dL_contest_736 (by decide) (fun h => absurd rfl h) (fun _ => ?_)
  refine lv_aload_n C.1.1 C.1.2.1 dL_contest_739 rfl (lv_at hl 0 rfl) ?_
  refine j_judge C (by exact ⟨(Nat.le_of_ble_eq_true rfl), (Nat.le_of_ble_eq_true rfl)⟩) hI hl.1 oSf70 (Nat.le_of_ble_eq_true rfl) ⟨(Nat.le_of_ble_eq_true rfl), (Nat.le_of_ble_eq_true rfl)⟩ dL_contest_740 (fun H locs hI _ => ?_)
  refine fl_iconst C.1 dL_contest_743 ?_
  refine fl_icmp_ne (tgt := 786) C.1 (rgk 4 rfl) (rgk 4 rfl) dL_contest_744 (by decide) (fun h => absurd rfl h) (fun _ => ?_)
  refine lv_aload_n C.1.1 C.1.2.1 dL_contest_747 rfl (lv_at hl 0 rfl) ?_
  refine j_judge C (by exact ⟨(Nat.le_of_ble_eq_true rfl), (Nat.le_of_ble_eq_true rfl)⟩) hI hl.1 oSf71 (Nat.le_of_ble_eq_true rfl) ⟨(Nat.le_of_ble_eq_true rfl), (Nat.le_of_ble_eq_true rfl)⟩ dL_contest_748 (fun H locs hI _ => ?_)
  refine fl_iconst C.1 dL_contest_751 ?_
  refine fl_icmp_ne (tgt := 786) C.1 (rgk 2 rfl) (rgk 2 rfl) dL_contest_752 (by decide) (fun h => absurd rfl h) (fun _ => ?_)
  exact W.widen (Nat.le_of_ble_eq_true rfl) (Nat.le_of_ble_eq_true rfl) (kk H locs ls hI hl)
set_option maxRecDepth 100000 in
set_option maxHeartbeats 4000000 in
theorem w_contest_3 (hst : l.stackTraces = false) (C : LC p s m meth c D cy B cL_contest 1) (kk : ∀ (H : Heap) (locs : List Loc) (ls : Array Slot), HI D cy B s.heap H locs x oS59 → lv_has ls 1 [(0, .ref x)] → W p l e rm_L_contest s m args below meth c H locs 2667 371515 Q (F0 m 1030 ls [])) : ∀ (H : Heap) (locs : List Loc) (ls : Array Slot), HI D cy B s.heap H locs x oS41 → lv_has ls 1 [(0, .ref x)] → W p l e rm_L_contest s m args below meth c H locs 2520 354611 Q (F0 m 755 ls []) := by
  intro H locs ls hI hl
  refine lv_aload_n C.1.1 C.1.2.1 dL_contest_755 rfl (lv_at hl 0 rfl) ?_
  refine j_judge C (by exact ⟨(Nat.le_of_ble_eq_true rfl), (Nat.le_of_ble_eq_true rfl)⟩) hI hl.1 oSf72 (Nat.le_of_ble_eq_true rfl) ⟨(Nat.le_of_ble_eq_true rfl), (Nat.le_of_ble_eq_true rfl)⟩ dL_contest_756 (fun H locs hI _ => ?_)
  refine fl_iconst C.1 dL_contest_759 ?_
  refine fl_icmp_ne (tgt := 786) C.1 (rgk 5 rfl) (rgk 5 rfl) dL_contest_760 (by decide) (fun h => absurd rfl h) (fun _ => ?_)
  refine lv_aload_n C.1.1 C.1.2.1 dL_contest_763 rfl (lv_at hl 0 rfl) ?_
  refine j_judge C (by exact ⟨(Nat.le_of_ble_eq_true rfl), (Nat.le_of_ble_eq_true rfl)⟩) hI hl.1 oSf73 (Nat.le_of_ble_eq_true rfl) ⟨(Nat.le_of_ble_eq_true rfl), (Nat.le_of_ble_eq_true rfl)⟩ dL_contest_764 (fun H locs hI _ => ?_)
  refine fl_iconst C.1 dL_contest_767 ?_
  refine fl_icmp_ne (tgt := 786) C.1 (rgk (-1) rfl) (rgk (-1) rfl) dL_contest_768 (by decide) (fun h => absurd rfl h) (fun _ => ?_)
  refine lv_aload_n C.1.1 C.1.2.1 dL_contest_771 rfl (lv_at hl 0 rfl) ?_
  refine fl_iconst C.1 dL_contest_772 ?_
  refine fl_iconst C.1 dL_contest_773 ?_
  refine fl_iconst C.1 dL_contest_774 ?_
  refine fl_iconst C.1 dL_contest_775 ?_
  refine fl_bipush C.1 dL_contest_776 (by decide) ?_
  refine fl_bipush C.1 dL_contest_778 (by decide) ?_
  refine k_qboard hst C ⟨(Nat.le_of_ble_eq_true rfl), (Nat.le_of_ble_eq_true rfl)⟩ hI hl.1 (rgk 3 rfl) (rgk 0 rfl) (rgk 1 rfl) (rgk 1 rfl) (rgk 50 rfl) (rgk 10 rfl) oSf74 (Nat.le_of_ble_eq_true rfl) ⟨(Nat.le_of_ble_eq_true rfl), (Nat.le_of_ble_eq_true rfl)⟩ dL_contest_780 (fun H locs hI _ => ?_)
  refine fl_if_ne (tgt := 788) C.1 (rgk 1 rfl) dL_contest_783 (by decide) (fun _ => ?_) (fun h => absurd h (by decide))
  refine lv_aload_n C.1.1 C.1.2.1 dL_contest_788 rfl (lv_at hl 0 rfl) ?_
  refine fl_bipush C.1 dL_contest_789 (by decide) ?_
  refine fl_iconst C.1 dL_contest_791 ?_
  refine k_qcodes (N := 2) hst C ⟨(Nat.le_of_ble_eq_true rfl), (Nat.le_of_ble_eq_true rfl)⟩ hI hl.1 rfl (Nat.le_of_ble_eq_true rfl) (by decide) oSf75 (Nat.le_of_ble_eq_true rfl) ⟨(Nat.le_of_ble_eq_true rfl), (Nat.le_of_ble_eq_true rfl)⟩ dL_contest_792 (fun H locs hI _ => ?_)
  refine fl_iconst C.1 dL_contest_795 ?_
  refine fl_icmp_ne (tgt := 1122) C.1 (rgk 2 rfl) (rgk 2 rfl) dL_contest_796 (by decide) (fun h => absurd rfl h) (fun _ => ?_)
  refine lv_aload_n C.1.1 C.1.2.1 dL_contest_799 rfl (lv_at hl 0 rfl) ?_
  refine fl_bipush C.1 dL_contest_800 (by decide) ?_
  refine fl_bipush C.1 dL_contest_802 (by decide) ?_
  refine j_code hst C (by exact ⟨(Nat.le_of_ble_eq_true rfl), (Nat.le_of_ble_eq_true rfl)⟩) hI hl.1 (rgk 7 rfl) (rgk (-9) rfl) oSf76 (Nat.le_of_ble_eq_true rfl) ⟨(Nat.le_of_ble_eq_true rfl), (Nat.le_of_ble_eq_true rfl)⟩ dL_contest_804 (fun H locs hI _ => ?_)
  refine fl_iconst C.1 dL_contest_807 ?_
  refine fl_icmp_ne (tgt := 1122) C.1 (rgk 3 rfl) (rgk 3 rfl) dL_contest_808 (by decide) (fun h => absurd rfl h) (fun _ => ?_)
  refine lv_aload_n C.1.1 C.1.2.1 dL_contest_811 rfl (lv_at hl 0 rfl) ?_
  refine fl_sipush C.1 dL_contest_812 (by decide) ?_
  refine fl_iconst C.1 dL_contest_815 ?_
  refine k_qcodes (N := 3) hst C ⟨(Nat.le_of_ble_eq_true rfl), (Nat.le_of_ble_eq_true rfl)⟩ hI hl.1 rfl (Nat.le_of_ble_eq_true rfl) (by decide) oSf77 (Nat.le_of_ble_eq_true rfl) ⟨(Nat.le_of_ble_eq_true rfl), (Nat.le_of_ble_eq_true rfl)⟩ dL_contest_816 (fun H locs hI _ => ?_)
  refine fl_bipush C.1 dL_contest_819 (by decide) ?_
  refine fl_icmp_ne (tgt := 1122) C.1 (rgk 6 rfl) (rgk 6 rfl) dL_contest_821 (by decide) (fun h => absurd rfl h) (fun _ => ?_)
  refine lv_aload_n C.1.1 C.1.2.1 dL_contest_824 rfl (lv_at hl 0 rfl) ?_
  refine fl_iconst C.1 dL_contest_825 ?_
  refine fl_iconst C.1 dL_contest_826 ?_
  refine j_enter hst C (by exact ⟨(Nat.le_of_ble_eq_true rfl), (Nat.le_of_ble_eq_true rfl)⟩) hI hl.1 (rgk 5 rfl) (rgk 0 rfl) oSf78 (Nat.le_of_ble_eq_true rfl) ⟨(Nat.le_of_ble_eq_true rfl), (Nat.le_of_ble_eq_true rfl)⟩ dL_contest_827 (fun H locs hI _ => ?_)
  refine fl_bipush C.1 dL_contest_830 (by decide) ?_
  refine fl_icmp_ne (tgt := 1122) C.1 (rgk 6 rfl) (rgk 6 rfl) dL_contest_832 (by decide) (fun h => absurd rfl h) (fun _ => ?_)
  refine lv_aload_n C.1.1 C.1.2.1 dL_contest_835 rfl (lv_at hl 0 rfl) ?_
  refine j_judge C (by exact ⟨(Nat.le_of_ble_eq_true rfl), (Nat.le_of_ble_eq_true rfl)⟩) hI hl.1 oSf79 (Nat.le_of_ble_eq_true rfl) ⟨(Nat.le_of_ble_eq_true rfl), (Nat.le_of_ble_eq_true rfl)⟩ dL_contest_836 (fun H locs hI _ => ?_)
  refine fl_bipush C.1 dL_contest_839 (by decide) ?_
  refine fl_icmp_ne (tgt := 1122) C.1 (rgk 6 rfl) (rgk 6 rfl) dL_contest_841 (by decide) (fun h => absurd rfl h) (fun _ => ?_)
  refine lv_aload_n C.1.1 C.1.2.1 dL_contest_844 rfl (lv_at hl 0 rfl) ?_
  refine fl_bipush C.1 dL_contest_845 (by decide) ?_
  refine fl_iconst C.1 dL_contest_847 ?_
  refine fl_iconst C.1 dL_contest_848 ?_
  refine fl_bipush C.1 dL_contest_849 (by decide) ?_
  refine fl_iconst C.1 dL_contest_851 ?_
  refine k_qentry hst C ⟨(Nat.le_of_ble_eq_true rfl), (Nat.le_of_ble_eq_true rfl)⟩ hI hl.1 (rgk 6 rfl) (rgk 0 rfl) (rgk (-1) rfl) (rgk 65 rfl) (rgk 3 rfl) oSf80 (Nat.le_of_ble_eq_true rfl) ⟨(Nat.le_of_ble_eq_true rfl), (Nat.le_of_ble_eq_true rfl)⟩ dL_contest_852 (fun H locs hI _ => ?_)
  refine fl_if_eq (tgt := 1122) C.1 (rgk 1 rfl) dL_contest_855 (by decide) (fun h => absurd h (by decide)) (fun _ => ?_)
  refine lv_aload_n C.1.1 C.1.2.1 dL_contest_858 rfl (lv_at hl 0 rfl) ?_
  refine fl_bipush C.1 dL_contest_859 (by decide) ?_
  refine fl_iconst C.1 dL_contest_861 ?_
  refine fl_bipush C.1 dL_contest_862 (by decide) ?_
  refine fl_iconst C.1 dL_contest_864 ?_
  refine k_act hst C ⟨(Nat.le_of_ble_eq_true rfl), (Nat.le_of_ble_eq_true rfl)⟩ hI hl.1 (rgk 16 rfl) (rgk 2 rfl) (rgk 6 rfl) (rgk 0 rfl) oSf81 (Nat.le_of_ble_eq_true rfl) ⟨(Nat.le_of_ble_eq_true rfl), (Nat.le_of_ble_eq_true rfl)⟩ dL_contest_865 (fun H locs hI _ => ?_)
  refine fl_ldc (n := (-7000003)) C.1 aw_803 rfl dL_contest_868 ?_
  refine fl_icmp_ne (tgt := 1122) C.1 (rgk (-7000003) rfl) (rgk (-7000003) rfl) dL_contest_870 (by decide) (fun h => absurd rfl h) (fun _ => ?_)
  refine lv_aload_n C.1.1 C.1.2.1 dL_contest_873 rfl (lv_at hl 0 rfl) ?_
  refine fl_iconst C.1 dL_contest_874 ?_
  refine j_input hst C (by exact ⟨(Nat.le_of_ble_eq_true rfl), (Nat.le_of_ble_eq_true rfl)⟩) hI hl.1 (rgk 1 rfl) oSf82 (Nat.le_of_ble_eq_true rfl) ⟨(Nat.le_of_ble_eq_true rfl), (Nat.le_of_ble_eq_true rfl)⟩ dL_contest_875 (fun H locs hI _ => ?_)
  refine fl_iconst C.1 dL_contest_878 ?_
  refine fl_icmp_ne (tgt := 1122) C.1 (rgk 1 rfl) (rgk 1 rfl) dL_contest_879 (by decide) (fun h => absurd rfl h) (fun _ => ?_)
  refine lv_aload_n C.1.1 C.1.2.1 dL_contest_882 rfl (lv_at hl 0 rfl) ?_
  refine fl_iconst C.1 dL_contest_883 ?_
  refine j_input hst C (by exact ⟨(Nat.le_of_ble_eq_true rfl), (Nat.le_of_ble_eq_true rfl)⟩) hI hl.1 (rgk 1 rfl) oSf83 (Nat.le_of_ble_eq_true rfl) ⟨(Nat.le_of_ble_eq_true rfl), (Nat.le_of_ble_eq_true rfl)⟩ dL_contest_884 (fun H locs hI _ => ?_)
  refine fl_iconst C.1 dL_contest_887 ?_
  refine fl_icmp_ne (tgt := 1122) C.1 (rgk 2 rfl) (rgk 2 rfl) dL_contest_888 (by decide) (fun h => absurd rfl h) (fun _ => ?_)
  refine lv_aload_n C.1.1 C.1.2.1 dL_contest_891 rfl (lv_at hl 0 rfl) ?_
  refine fl_bipush C.1 dL_contest_892 (by decide) ?_
  refine fl_iconst C.1 dL_contest_894 ?_
  refine fl_bipush C.1 dL_contest_895 (by decide) ?_
  refine fl_iconst C.1 dL_contest_897 ?_
  refine k_act hst C ⟨(Nat.le_of_ble_eq_true rfl), (Nat.le_of_ble_eq_true rfl)⟩ hI hl.1 (rgk 16 rfl) (rgk 4 rfl) (rgk 6 rfl) (rgk 0 rfl) oSf84 (Nat.le_of_ble_eq_true rfl) ⟨(Nat.le_of_ble_eq_true rfl), (Nat.le_of_ble_eq_true rfl)⟩ dL_contest_898 (fun H locs hI _ => ?_)
  refine fl_ldc (n := (-7000003)) C.1 aw_803 rfl dL_contest_901 ?_
  refine fl_icmp_ne (tgt := 1122) C.1 (rgk (-7000003) rfl) (rgk (-7000003) rfl) dL_contest_903 (by decide) (fun h => absurd rfl h) (fun _ => ?_)
  refine lv_aload_n C.1.1 C.1.2.1 dL_contest_906 rfl (lv_at hl 0 rfl) ?_
  refine fl_bipush C.1 dL_contest_907 (by decide) ?_
  refine fl_iconst C.1 dL_contest_909 ?_
  refine fl_bipush C.1 dL_contest_910 (by decide) ?_
  refine fl_iconst C.1 dL_contest_912 ?_
  refine k_act hst C ⟨(Nat.le_of_ble_eq_true rfl), (Nat.le_of_ble_eq_true rfl)⟩ hI hl.1 (rgk 16 rfl) (rgk 5 rfl) (rgk 6 rfl) (rgk 0 rfl) oSf85 (Nat.le_of_ble_eq_true rfl) ⟨(Nat.le_of_ble_eq_true rfl), (Nat.le_of_ble_eq_true rfl)⟩ dL_contest_913 (fun H locs hI _ => ?_)
  refine fl_ldc (n := (-7000003)) C.1 aw_803 rfl dL_contest_916 ?_
  refine fl_icmp_ne (tgt := 1122) C.1 (rgk (-7000003) rfl) (rgk (-7000003) rfl) dL_contest_918 (by decide) (fun h => absurd rfl h) (fun _ => ?_)
  refine lv_aload_n C.1.1 C.1.2.1 dL_contest_921 rfl (lv_at hl 0 rfl) ?_
  refine fl_bipush C.1 dL_contest_922 (by decide) ?_
  refine fl_iconst C.1 dL_contest_924 ?_
  refine fl_iconst C.1 dL_contest_925 ?_
  refine fl_iconst C.1 dL_contest_926 ?_
  refine k_act hst C ⟨(Nat.le_of_ble_eq_true rfl), (Nat.le_of_ble_eq_true rfl)⟩ hI hl.1 (rgk 16 rfl) (rgk 2 rfl) (rgk 1 rfl) (rgk 0 rfl) oSf86 (Nat.le_of_ble_eq_true rfl) ⟨(Nat.le_of_ble_eq_true rfl), (Nat.le_of_ble_eq_true rfl)⟩ dL_contest_927 (fun H locs hI _ => ?_)
  refine fl_ldc (n := (-7000003)) C.1 aw_803 rfl dL_contest_930 ?_
  refine fl_icmp_ne (tgt := 1122) C.1 (rgk (-7000003) rfl) (rgk (-7000003) rfl) dL_contest_932 (by decide) (fun h => absurd rfl h) (fun _ => ?_)
  refine lv_aload_n C.1.1 C.1.2.1 dL_contest_935 rfl (lv_at hl 0 rfl) ?_
  refine fl_iconst C.1 dL_contest_936 ?_
  refine fl_bipush C.1 dL_contest_937 (by decide) ?_
  refine j_hack hst C (by exact ⟨(Nat.le_of_ble_eq_true rfl), (Nat.le_of_ble_eq_true rfl)⟩) hI hl.1 (rgk 2 rfl) (rgk 6 rfl) oSf87 (Nat.le_of_ble_eq_true rfl) ⟨(Nat.le_of_ble_eq_true rfl), (Nat.le_of_ble_eq_true rfl)⟩ dL_contest_939 (fun H locs hI _ => ?_)
  refine fl_if_ne (tgt := 1122) C.1 (rgk 0 rfl) dL_contest_942 (by decide) (fun h => absurd rfl h) (fun _ => ?_)
  refine lv_aload_n C.1.1 C.1.2.1 dL_contest_945 rfl (lv_at hl 0 rfl) ?_
  refine fl_iconst C.1 dL_contest_946 ?_
  refine fl_iconst C.1 dL_contest_947 ?_
  refine fl_iconst C.1 dL_contest_948 ?_
  refine j_board hst C (by exact ⟨(Nat.le_of_ble_eq_true rfl), (Nat.le_of_ble_eq_true rfl)⟩) hI hl.1 (rgk 2 rfl) (rgk 0 rfl) (rgk 4 rfl) oSf88 (Nat.le_of_ble_eq_true rfl) ⟨(Nat.le_of_ble_eq_true rfl), (Nat.le_of_ble_eq_true rfl)⟩ dL_contest_949 (fun H locs hI _ => ?_)
  refine fl_iconst C.1 dL_contest_952 ?_
  refine fl_icmp_ne (tgt := 1122) C.1 (rgk (-1) rfl) (rgk (-1) rfl) dL_contest_953 (by decide) (fun h => absurd rfl h) (fun _ => ?_)
  refine lv_aload_n C.1.1 C.1.2.1 dL_contest_956 rfl (lv_at hl 0 rfl) ?_
  refine fl_iconst C.1 dL_contest_957 ?_
  refine fl_iconst C.1 dL_contest_958 ?_
  refine fl_iconst C.1 dL_contest_959 ?_
  refine j_answer hst C (by exact ⟨(Nat.le_of_ble_eq_true rfl), (Nat.le_of_ble_eq_true rfl)⟩) hI hl.1 (rgk 0 rfl) (rgk 1 rfl) (rgk 0 rfl) oSf89 (Nat.le_of_ble_eq_true rfl) ⟨(Nat.le_of_ble_eq_true rfl), (Nat.le_of_ble_eq_true rfl)⟩ dL_contest_960 (fun H locs hI _ => ?_)
  refine fl_iconst C.1 dL_contest_963 ?_
  refine fl_icmp_ne (tgt := 1122) C.1 (rgk (-1) rfl) (rgk (-1) rfl) dL_contest_964 (by decide) (fun h => absurd rfl h) (fun _ => ?_)
  refine lv_aload_n C.1.1 C.1.2.1 dL_contest_967 rfl (lv_at hl 0 rfl) ?_
  refine fl_bipush C.1 dL_contest_968 (by decide) ?_
  refine fl_iconst C.1 dL_contest_970 ?_
  refine fl_iconst C.1 dL_contest_971 ?_
  refine fl_iconst C.1 dL_contest_972 ?_
  refine k_act hst C ⟨(Nat.le_of_ble_eq_true rfl), (Nat.le_of_ble_eq_true rfl)⟩ hI hl.1 (rgk 7 rfl) (rgk 0 rfl) (rgk 2 rfl) (rgk 0 rfl) oSf90 (Nat.le_of_ble_eq_true rfl) ⟨(Nat.le_of_ble_eq_true rfl), (Nat.le_of_ble_eq_true rfl)⟩ dL_contest_973 (fun H locs hI _ => ?_)
  refine fl_ldc (n := (-7000001)) C.1 aw_801 rfl dL_contest_976 ?_
  refine fl_icmp_ne (tgt := 1122) C.1 (rgk (-7000001) rfl) (rgk (-7000001) rfl) dL_contest_978 (by decide) (fun h => absurd rfl h) (fun _ => ?_)
  refine lv_aload_n C.1.1 C.1.2.1 dL_contest_981 rfl (lv_at hl 0 rfl) ?_
  refine fl_iconst C.1 dL_contest_982 ?_
  refine j_input hst C (by exact ⟨(Nat.le_of_ble_eq_true rfl), (Nat.le_of_ble_eq_true rfl)⟩) hI hl.1 (rgk 0 rfl) oSf91 (Nat.le_of_ble_eq_true rfl) ⟨(Nat.le_of_ble_eq_true rfl), (Nat.le_of_ble_eq_true rfl)⟩ dL_contest_983 (fun H locs hI _ => ?_)
  refine fl_iconst C.1 dL_contest_986 ?_
  refine fl_icmp_ne (tgt := 1122) C.1 (rgk 1 rfl) (rgk 1 rfl) dL_contest_987 (by decide) (fun h => absurd rfl h) (fun _ => ?_)
  refine lv_aload_n C.1.1 C.1.2.1 dL_contest_990 rfl (lv_at hl 0 rfl) ?_
  refine fl_iconst C.1 dL_contest_991 ?_
  refine j_input hst C (by exact ⟨(Nat.le_of_ble_eq_true rfl), (Nat.le_of_ble_eq_true rfl)⟩) hI hl.1 (rgk 5 rfl) oSf92 (Nat.le_of_ble_eq_true rfl) ⟨(Nat.le_of_ble_eq_true rfl), (Nat.le_of_ble_eq_true rfl)⟩ dL_contest_992 (fun H locs hI _ => ?_)
  refine fl_iconst C.1 dL_contest_995 ?_
  refine fl_icmp_ne (tgt := 1122) C.1 (rgk 2 rfl) (rgk 2 rfl) dL_contest_996 (by decide) (fun h => absurd rfl h) (fun _ => ?_)
  refine lv_aload_n C.1.1 C.1.2.1 dL_contest_999 rfl (lv_at hl 0 rfl) ?_
  refine fl_iconst C.1 dL_contest_1000 ?_
  refine fl_bipush C.1 dL_contest_1001 (by decide) ?_
  refine j_hack hst C (by exact ⟨(Nat.le_of_ble_eq_true rfl), (Nat.le_of_ble_eq_true rfl)⟩) hI hl.1 (rgk 2 rfl) (rgk 6 rfl) oSf93 (Nat.le_of_ble_eq_true rfl) ⟨(Nat.le_of_ble_eq_true rfl), (Nat.le_of_ble_eq_true rfl)⟩ dL_contest_1003 (fun H locs hI _ => ?_)
  refine fl_if_eq (tgt := 1122) C.1 (rgk 1 rfl) dL_contest_1006 (by decide) (fun h => absurd h (by decide)) (fun _ => ?_)
  refine lv_aload_n C.1.1 C.1.2.1 dL_contest_1009 rfl (lv_at hl 0 rfl) ?_
  refine fl_iconst C.1 dL_contest_1010 ?_
  refine fl_iconst C.1 dL_contest_1011 ?_
  refine fl_iconst C.1 dL_contest_1012 ?_
  refine j_board hst C (by exact ⟨(Nat.le_of_ble_eq_true rfl), (Nat.le_of_ble_eq_true rfl)⟩) hI hl.1 (rgk 2 rfl) (rgk 1 rfl) (rgk 4 rfl) oSf94 (Nat.le_of_ble_eq_true rfl) ⟨(Nat.le_of_ble_eq_true rfl), (Nat.le_of_ble_eq_true rfl)⟩ dL_contest_1013 (fun H locs hI _ => ?_)
  refine fl_if_ne (tgt := 1122) C.1 (rgk 0 rfl) dL_contest_1016 (by decide) (fun h => absurd rfl h) (fun _ => ?_)
  refine lv_aload_n C.1.1 C.1.2.1 dL_contest_1019 rfl (lv_at hl 0 rfl) ?_
  refine fl_iconst C.1 dL_contest_1020 ?_
  refine fl_iconst C.1 dL_contest_1021 ?_
  refine fl_iconst C.1 dL_contest_1022 ?_
  refine j_answer hst C (by exact ⟨(Nat.le_of_ble_eq_true rfl), (Nat.le_of_ble_eq_true rfl)⟩) hI hl.1 (rgk 0 rfl) (rgk 2 rfl) (rgk 0 rfl) oSf95 (Nat.le_of_ble_eq_true rfl) ⟨(Nat.le_of_ble_eq_true rfl), (Nat.le_of_ble_eq_true rfl)⟩ dL_contest_1023 (fun H locs hI _ => ?_)
  refine fl_iconst C.1 dL_contest_1026 ?_
  refine fl_icmp_ne (tgt := 1122) C.1 (rgk 5 rfl) (rgk 5 rfl) dL_contest_1027 (by decide) (fun h => absurd rfl h) (fun _ => ?_)
  exact W.widen (Nat.le_of_ble_eq_true rfl) (Nat.le_of_ble_eq_true rfl) (kk H locs ls hI hl)
set_option maxRecDepth 100000 in
set_option maxHeartbeats 4000000 in
theorem w_contest_4 (hst : l.stackTraces = false) (C : LC p s m meth c D cy B cL_contest 1) (hr : meth.sig.returnType = some .boolean) : ∀ (H : Heap) (locs : List Loc) (ls : Array Slot), HI D cy B s.heap H locs x oS59 → lv_has ls 1 [(0, .ref x)] → W p l e rm_L_contest s m args below meth c H locs 2667 371515 (MQ below (Q1 B) args s 8796 1616833 (fun q => B ≤ q)) (F0 m 1030 ls []) := by
  intro H locs ls hI hl
  refine lv_aload_n C.1.1 C.1.2.1 dL_contest_1030 rfl (lv_at hl 0 rfl) ?_
  refine fl_bipush C.1 dL_contest_1031 (by decide) ?_
  refine fl_iconst C.1 dL_contest_1033 ?_
  refine fl_iconst C.1 dL_contest_1034 ?_
  refine fl_bipush C.1 dL_contest_1035 (by decide) ?_
  refine fl_iconst C.1 dL_contest_1037 ?_
  refine k_qentry hst C ⟨(Nat.le_of_ble_eq_true rfl), (Nat.le_of_ble_eq_true rfl)⟩ hI hl.1 (rgk 6 rfl) (rgk 4 rfl) (rgk 2 rfl) (rgk 65 rfl) (rgk 4 rfl) oSf96 (Nat.le_of_ble_eq_true rfl) ⟨(Nat.le_of_ble_eq_true rfl), (Nat.le_of_ble_eq_true rfl)⟩ dL_contest_1038 (fun H locs hI _ => ?_)
  refine fl_if_eq (tgt := 1122) C.1 (rgk 1 rfl) dL_contest_1041 (by decide) (fun h => absurd h (by decide)) (fun _ => ?_)
  refine lv_aload_n C.1.1 C.1.2.1 dL_contest_1044 rfl (lv_at hl 0 rfl) ?_
  refine fl_iconst C.1 dL_contest_1045 ?_
  refine fl_iconst C.1 dL_contest_1046 ?_
  refine fl_iconst C.1 dL_contest_1047 ?_
  refine fl_bipush C.1 dL_contest_1048 (by decide) ?_
  refine fl_iconst C.1 dL_contest_1050 ?_
  refine k_qentry hst C ⟨(Nat.le_of_ble_eq_true rfl), (Nat.le_of_ble_eq_true rfl)⟩ hI hl.1 (rgk 0 rfl) (rgk 0 rfl) (rgk (-1) rfl) (rgk 65 rfl) (rgk 3 rfl) oSf97 (Nat.le_of_ble_eq_true rfl) ⟨(Nat.le_of_ble_eq_true rfl), (Nat.le_of_ble_eq_true rfl)⟩ dL_contest_1051 (fun H locs hI _ => ?_)
  refine fl_if_eq (tgt := 1122) C.1 (rgk 1 rfl) dL_contest_1054 (by decide) (fun h => absurd h (by decide)) (fun _ => ?_)
  refine lv_aload_n C.1.1 C.1.2.1 dL_contest_1057 rfl (lv_at hl 0 rfl) ?_
  refine fl_iconst C.1 dL_contest_1058 ?_
  refine fl_iconst C.1 dL_contest_1059 ?_
  refine fl_iconst C.1 dL_contest_1060 ?_
  refine fl_iconst C.1 dL_contest_1061 ?_
  refine fl_iconst C.1 dL_contest_1062 ?_
  refine fl_iconst C.1 dL_contest_1063 ?_
  refine k_qboard hst C ⟨(Nat.le_of_ble_eq_true rfl), (Nat.le_of_ble_eq_true rfl)⟩ hI hl.1 (rgk 5 rfl) (rgk 0 rfl) (rgk 5 rfl) (rgk 0 rfl) (rgk 0 rfl) (rgk 0 rfl) oSf98 (Nat.le_of_ble_eq_true rfl) ⟨(Nat.le_of_ble_eq_true rfl), (Nat.le_of_ble_eq_true rfl)⟩ dL_contest_1064 (fun H locs hI _ => ?_)
  refine fl_if_eq (tgt := 1122) C.1 (rgk 1 rfl) dL_contest_1067 (by decide) (fun h => absurd h (by decide)) (fun _ => ?_)
  refine lv_aload_n C.1.1 C.1.2.1 dL_contest_1070 rfl (lv_at hl 0 rfl) ?_
  refine fl_bipush C.1 dL_contest_1071 (by decide) ?_
  refine j_input hst C (by exact ⟨(Nat.le_of_ble_eq_true rfl), (Nat.le_of_ble_eq_true rfl)⟩) hI hl.1 (rgk 7 rfl) oSf99 (Nat.le_of_ble_eq_true rfl) ⟨(Nat.le_of_ble_eq_true rfl), (Nat.le_of_ble_eq_true rfl)⟩ dL_contest_1073 (fun H locs hI _ => ?_)
  refine fl_iconst C.1 dL_contest_1076 ?_
  refine fl_icmp_ne (tgt := 1122) C.1 (rgk 1 rfl) (rgk 1 rfl) dL_contest_1077 (by decide) (fun h => absurd rfl h) (fun _ => ?_)
  refine lv_aload_n C.1.1 C.1.2.1 dL_contest_1080 rfl (lv_at hl 0 rfl) ?_
  refine j_clear C (by exact ⟨(Nat.le_of_ble_eq_true rfl), (Nat.le_of_ble_eq_true rfl)⟩) hI hl.1 oSf100 (Nat.le_of_ble_eq_true rfl) ⟨(Nat.le_of_ble_eq_true rfl), (Nat.le_of_ble_eq_true rfl)⟩ dL_contest_1081 (fun H locs hI _ => ?_)
  refine fl_if_ne (tgt := 1122) C.1 (rgk 0 rfl) dL_contest_1084 (by decide) (fun h => absurd rfl h) (fun _ => ?_)
  refine lv_aload_n C.1.1 C.1.2.1 dL_contest_1087 rfl (lv_at hl 0 rfl) ?_
  refine fl_bipush C.1 dL_contest_1088 (by decide) ?_
  refine fl_iconst C.1 dL_contest_1090 ?_
  refine fl_bipush C.1 dL_contest_1091 (by decide) ?_
  refine fl_iconst C.1 dL_contest_1093 ?_
  refine k_act hst C ⟨(Nat.le_of_ble_eq_true rfl), (Nat.le_of_ble_eq_true rfl)⟩ hI hl.1 (rgk 16 rfl) (rgk 2 rfl) (rgk 6 rfl) (rgk 0 rfl) oSf101 (Nat.le_of_ble_eq_true rfl) ⟨(Nat.le_of_ble_eq_true rfl), (Nat.le_of_ble_eq_true rfl)⟩ dL_contest_1094 (fun H locs hI _ => ?_)
  refine fl_ldc (n := (-7000003)) C.1 aw_803 rfl dL_contest_1097 ?_
  refine fl_icmp_ne (tgt := 1122) C.1 (rgk (-7000003) rfl) (rgk (-7000003) rfl) dL_contest_1099 (by decide) (fun h => absurd rfl h) (fun _ => ?_)
  refine lv_aload_n C.1.1 C.1.2.1 dL_contest_1102 rfl (lv_at hl 0 rfl) ?_
  refine fl_iconst C.1 dL_contest_1103 ?_
  refine j_rejudge hst C (by exact ⟨(Nat.le_of_ble_eq_true rfl), (Nat.le_of_ble_eq_true rfl)⟩) hI hl.1 (rgk 0 rfl) oSf102 (Nat.le_of_ble_eq_true rfl) ⟨(Nat.le_of_ble_eq_true rfl), (Nat.le_of_ble_eq_true rfl)⟩ dL_contest_1104 (fun H locs hI _ => ?_)
  refine fl_bipush C.1 dL_contest_1107 (by decide) ?_
  refine fl_icmp_ne (tgt := 1122) C.1 (rgk 6 rfl) (rgk 6 rfl) dL_contest_1109 (by decide) (fun h => absurd rfl h) (fun _ => ?_)
  refine lv_aload_n C.1.1 C.1.2.1 dL_contest_1112 rfl (lv_at hl 0 rfl) ?_
  refine fl_iconst C.1 dL_contest_1113 ?_
  refine fl_bipush C.1 dL_contest_1114 (by decide) ?_
  refine k_refuses hst C ⟨(Nat.le_of_ble_eq_true rfl), (Nat.le_of_ble_eq_true rfl)⟩ hI hl.1 (rgk 1 rfl) (rgk 7 rfl) oSf103.1 oSf103.2 (Nat.le_of_ble_eq_true rfl) ⟨(Nat.le_of_ble_eq_true rfl), (Nat.le_of_ble_eq_true rfl)⟩ dL_contest_1116 (fun H locs hI _ => ?_)
  refine fl_if_ne (tgt := 1124) C.1 (rgk 1 rfl) dL_contest_1119 (by decide) (fun _ => ?_) (fun h => absurd h (by decide))
  refine lv_aload_n C.1.1 C.1.2.1 dL_contest_1124 rfl (lv_at hl 0 rfl) ?_
  refine k_call C hI hl.1 (d_boards (l := l) (D := D) (cy := cy) (B := B) hst) aw_827 aw_828 aw_44 aw_829 rfl pm_L_boards rfl rfl ⟨(Nat.le_of_ble_eq_true rfl), (Nat.le_of_ble_eq_true rfl)⟩ rfl (Nat.le_of_ble_eq_true rfl) dL_contest_1125 ⟨(Nat.le_of_ble_eq_true rfl), (Nat.le_of_ble_eq_true rfl)⟩ (fun H locs hI _ => ?_)
  refine fl_if_eq (tgt := 1147) C.1 (rgk 1 rfl) dL_contest_1128 (by decide) (fun h => absurd h (by decide)) (fun _ => ?_)
  refine k_call0 C hI hl.1 (fun B2 => d_tables (l := l) (D := D) (cy := cy) (B := B2) hst) aw_830 aw_831 aw_44 aw_832 pm_L_tables rfl rfl ⟨(Nat.le_of_ble_eq_true rfl), (Nat.le_of_ble_eq_true rfl)⟩ (Nat.le_of_ble_eq_true rfl) dL_contest_1131 ⟨(Nat.le_of_ble_eq_true rfl), (Nat.le_of_ble_eq_true rfl)⟩ (fun H locs hI => ?_)
  refine fl_if_eq (tgt := 1147) C.1 (rgk 1 rfl) dL_contest_1134 (by decide) (fun h => absurd h (by decide)) (fun _ => ?_)
  refine k_call0 C hI hl.1 (fun B2 => d_most (l := l) (D := D) (cy := cy) (B := B2) hst) aw_834 aw_835 aw_44 aw_836 pm_L_most rfl rfl ⟨(Nat.le_of_ble_eq_true rfl), (Nat.le_of_ble_eq_true rfl)⟩ (Nat.le_of_ble_eq_true rfl) dL_contest_1137 ⟨(Nat.le_of_ble_eq_true rfl), (Nat.le_of_ble_eq_true rfl)⟩ (fun H locs hI => ?_)
  refine fl_if_eq (tgt := 1147) C.1 (rgk 1 rfl) dL_contest_1140 (by decide) (fun h => absurd h (by decide)) (fun _ => ?_)
  refine fl_iconst C.1 dL_contest_1143 ?_
  refine fl_goto (tgt := 1148) C.1 dL_contest_1144 (by decide) ?_
  exact z_ret C hI hr dL_contest_1148 (Nat.le_of_ble_eq_true rfl) (Nat.le_of_ble_eq_true rfl)
set_option maxRecDepth 100000 in
set_option maxHeartbeats 4000000 in
theorem d_contest (hst : l.stackTraces = false) : Met l yL_contest [.code yL_contest cL_contest 1 (some .boolean)] rm_L_contest (va_Pc [] (HB D cy B)) (Q1 B) 8796 1616833 (fun q => B ≤ q) := by
  refine hb_body0 (by decide) rfl ?_
  intro p e s m args below meth c ls C hr hB hl
  refine k_new C (by exact ⟨(Nat.le_of_ble_eq_true rfl), (Nat.le_of_ble_eq_true rfl)⟩) hB va_S.rf hl.1 ⟨(Nat.le_of_ble_eq_true rfl), (Nat.le_of_ble_eq_true rfl)⟩ ⟨(Nat.le_of_ble_eq_true rfl), (Nat.le_of_ble_eq_true rfl)⟩ dL_contest_0 dL_contest_3 dL_contest_4 (fun x H locs hI => ?_)
  refine lv_astore_n (lv' := [(0, .ref x)]) C.1.1 C.1.2.1 dL_contest_7 rfl hl (by decide) rfl (fun ls hl => ?_)
  exact W.widen (Nat.le_of_ble_eq_true rfl) (Nat.le_of_ble_eq_true rfl) ((w_contest_0 hst C (w_contest_1 hst C (w_contest_2 hst C (w_contest_3 hst C (w_contest_4 hst C hr))))) H locs ls hI hl)
end HCON
