section HMAC
variable {p : Program} {l : Launch} {e : Env} {R : Room} {s : State} {m : MethodId} {args : Array Value} {below : List Frame} {meth : Method} {c : Code} {H : Heap} {locs : List Loc} {cells slots mc ms : Nat} {Q : State → Prop}
variable {D : va_G} {cy : Nat → ClassId} {B : Nat} {cc : ByteArray} {nL pc : Nat} {ls : Array Slot} {rest st0 As : List Value} {x : Nat} {S S' : Hl} {v : Int}
variable {y : MethodName} {bytes : ByteArray} {maxL idx n : Nat} {ret : Option FieldType} {rm : Room} {hh : List (Nat × Nat × Nat × Nat)}
abbrev rm_L_machine : Room := { frames := 12, cells := 2117, slots := 329964, locals := 350 }
theorem pm_L_machine : plainM yL_machine 0 := by decide +kernel
set_option maxRecDepth 100000 in
set_option maxHeartbeats 4000000 in
theorem w_machine_0 (hst : l.stackTraces = false) (C : LC p s m meth c D cy B cL_machine 3) (kk : ∀ (H : Heap) (locs : List Loc) (ls : Array Slot), HI D cy B s.heap H locs x mS14 → lv_has ls 3 [(0, .ref x)] → W p l e rm_L_machine s m args below meth c H locs 262 1728 Q (F0 m 307 ls [])) : ∀ (H : Heap) (locs : List Loc) (ls : Array Slot), HI D cy B s.heap H locs x s0 → lv_has ls 3 [(0, .ref x)] → W p l e rm_L_machine s m args below meth c H locs 23 294 Q (F0 m 8 ls []) := by
  intro H locs ls hI hl
  refine lv_aload_n C.1.1 C.1.2.1 dL_machine_8 rfl (lv_at hl 0 rfl) ?_
  refine fl_iconst C.1 dL_machine_9 ?_
  refine fl_iconst C.1 dL_machine_10 ?_
  refine fl_iconst C.1 dL_machine_11 ?_
  refine fl_iconst C.1 dL_machine_12 ?_
  refine fl_iconst C.1 dL_machine_13 ?_
  refine fl_iconst C.1 dL_machine_14 ?_
  refine k_qruns hst C ⟨(Nat.le_of_ble_eq_true rfl), (Nat.le_of_ble_eq_true rfl)⟩ hI hl.1 (rgk 1 rfl) (rgk 0 rfl) (rgk 0 rfl) (rgk 0 rfl) (rgk 0 rfl) (rgk 0 rfl) mSf1 (Nat.le_of_ble_eq_true rfl) ⟨(Nat.le_of_ble_eq_true rfl), (Nat.le_of_ble_eq_true rfl)⟩ dL_machine_15 (fun H locs hI _ => ?_)
  refine fl_if_eq (tgt := 114) C.1 (rgk 1 rfl) dL_machine_18 (by decide) (fun h => absurd h (by decide)) (fun _ => ?_)
  refine lv_aload_n C.1.1 C.1.2.1 dL_machine_21 rfl (lv_at hl 0 rfl) ?_
  refine fl_sipush C.1 dL_machine_22 (by decide) ?_
  refine fl_iconst C.1 dL_machine_25 ?_
  refine k_qcodes (N := 4) hst C ⟨(Nat.le_of_ble_eq_true rfl), (Nat.le_of_ble_eq_true rfl)⟩ hI hl.1 rfl (Nat.le_of_ble_eq_true rfl) (by decide) mSf2 (Nat.le_of_ble_eq_true rfl) ⟨(Nat.le_of_ble_eq_true rfl), (Nat.le_of_ble_eq_true rfl)⟩ dL_machine_26 (fun H locs hI _ => ?_)
  refine fl_iconst C.1 dL_machine_29 ?_
  refine fl_icmp_ne (tgt := 114) C.1 (rgk 4 rfl) (rgk 4 rfl) dL_machine_30 (by decide) (fun h => absurd rfl h) (fun _ => ?_)
  refine lv_aload_n C.1.1 C.1.2.1 dL_machine_33 rfl (lv_at hl 0 rfl) ?_
  refine fl_iconst C.1 dL_machine_34 ?_
  refine j_input hst C (by exact ⟨(Nat.le_of_ble_eq_true rfl), (Nat.le_of_ble_eq_true rfl)⟩) hI hl.1 (rgk 3 rfl) mSf3 (Nat.le_of_ble_eq_true rfl) ⟨(Nat.le_of_ble_eq_true rfl), (Nat.le_of_ble_eq_true rfl)⟩ dL_machine_35 (fun H locs hI _ => ?_)
  refine fl_iconst C.1 dL_machine_38 ?_
  refine fl_icmp_ne (tgt := 114) C.1 (rgk 1 rfl) (rgk 1 rfl) dL_machine_39 (by decide) (fun h => absurd rfl h) (fun _ => ?_)
  refine lv_aload_n C.1.1 C.1.2.1 dL_machine_42 rfl (lv_at hl 0 rfl) ?_
  refine fl_bipush C.1 dL_machine_43 (by decide) ?_
  refine fl_iconst C.1 dL_machine_45 ?_
  refine fl_iconst C.1 dL_machine_46 ?_
  refine fl_iconst C.1 dL_machine_47 ?_
  refine fl_iconst C.1 dL_machine_48 ?_
  refine fl_iconst C.1 dL_machine_49 ?_
  refine k_qruns hst C ⟨(Nat.le_of_ble_eq_true rfl), (Nat.le_of_ble_eq_true rfl)⟩ hI hl.1 (rgk 9 rfl) (rgk 4 rfl) (rgk 2 rfl) (rgk 0 rfl) (rgk 0 rfl) (rgk 0 rfl) mSf4 (Nat.le_of_ble_eq_true rfl) ⟨(Nat.le_of_ble_eq_true rfl), (Nat.le_of_ble_eq_true rfl)⟩ dL_machine_50 (fun H locs hI _ => ?_)
  refine fl_if_eq (tgt := 114) C.1 (rgk 1 rfl) dL_machine_53 (by decide) (fun h => absurd h (by decide)) (fun _ => ?_)
  refine lv_aload_n C.1.1 C.1.2.1 dL_machine_56 rfl (lv_at hl 0 rfl) ?_
  refine fl_iconst C.1 dL_machine_57 ?_
  refine j_input hst C (by exact ⟨(Nat.le_of_ble_eq_true rfl), (Nat.le_of_ble_eq_true rfl)⟩) hI hl.1 (rgk 4 rfl) mSf5 (Nat.le_of_ble_eq_true rfl) ⟨(Nat.le_of_ble_eq_true rfl), (Nat.le_of_ble_eq_true rfl)⟩ dL_machine_58 (fun H locs hI _ => ?_)
  refine fl_iconst C.1 dL_machine_61 ?_
  refine fl_icmp_ne (tgt := 114) C.1 (rgk 2 rfl) (rgk 2 rfl) dL_machine_62 (by decide) (fun h => absurd rfl h) (fun _ => ?_)
  refine lv_aload_n C.1.1 C.1.2.1 dL_machine_65 rfl (lv_at hl 0 rfl) ?_
  refine fl_iconst C.1 dL_machine_66 ?_
  refine fl_iconst C.1 dL_machine_67 ?_
  refine fl_iconst C.1 dL_machine_68 ?_
  refine fl_iconst C.1 dL_machine_69 ?_
  refine fl_bipush C.1 dL_machine_70 (by decide) ?_
  refine fl_iconst C.1 dL_machine_72 ?_
  refine k_qruns hst C ⟨(Nat.le_of_ble_eq_true rfl), (Nat.le_of_ble_eq_true rfl)⟩ hI hl.1 (rgk 4 rfl) (rgk 0 rfl) (rgk 4 rfl) (rgk 1 rfl) (rgk 7 rfl) (rgk 0 rfl) mSf6 (Nat.le_of_ble_eq_true rfl) ⟨(Nat.le_of_ble_eq_true rfl), (Nat.le_of_ble_eq_true rfl)⟩ dL_machine_73 (fun H locs hI _ => ?_)
  refine fl_if_eq (tgt := 114) C.1 (rgk 1 rfl) dL_machine_76 (by decide) (fun h => absurd h (by decide)) (fun _ => ?_)
  refine lv_aload_n C.1.1 C.1.2.1 dL_machine_79 rfl (lv_at hl 0 rfl) ?_
  refine fl_iconst C.1 dL_machine_80 ?_
  refine fl_iconst C.1 dL_machine_81 ?_
  refine fl_iconst C.1 dL_machine_82 ?_
  refine fl_iconst C.1 dL_machine_83 ?_
  refine fl_iconst C.1 dL_machine_84 ?_
  refine fl_iconst C.1 dL_machine_85 ?_
  refine k_qruns hst C ⟨(Nat.le_of_ble_eq_true rfl), (Nat.le_of_ble_eq_true rfl)⟩ hI hl.1 (rgk 3 rfl) (rgk 2 rfl) (rgk 3 rfl) (rgk 0 rfl) (rgk 0 rfl) (rgk 0 rfl) mSf7 (Nat.le_of_ble_eq_true rfl) ⟨(Nat.le_of_ble_eq_true rfl), (Nat.le_of_ble_eq_true rfl)⟩ dL_machine_86 (fun H locs hI _ => ?_)
  refine fl_if_eq (tgt := 114) C.1 (rgk 1 rfl) dL_machine_89 (by decide) (fun h => absurd h (by decide)) (fun _ => ?_)
  refine lv_aload_n C.1.1 C.1.2.1 dL_machine_92 rfl (lv_at hl 0 rfl) ?_
  refine j_clear C (by exact ⟨(Nat.le_of_ble_eq_true rfl), (Nat.le_of_ble_eq_true rfl)⟩) hI hl.1 mSf8 (Nat.le_of_ble_eq_true rfl) ⟨(Nat.le_of_ble_eq_true rfl), (Nat.le_of_ble_eq_true rfl)⟩ dL_machine_93 (fun H locs hI _ => ?_)
  refine fl_iconst C.1 dL_machine_96 ?_
  refine fl_icmp_ne (tgt := 114) C.1 (rgk 4 rfl) (rgk 4 rfl) dL_machine_97 (by decide) (fun h => absurd rfl h) (fun _ => ?_)
  refine lv_aload_n C.1.1 C.1.2.1 dL_machine_100 rfl (lv_at hl 0 rfl) ?_
  refine fl_bipush C.1 dL_machine_101 (by decide) ?_
  refine fl_iconst C.1 dL_machine_103 ?_
  refine fl_iconst C.1 dL_machine_104 ?_
  refine fl_iconst C.1 dL_machine_105 ?_
  refine fl_iconst C.1 dL_machine_106 ?_
  refine fl_iconst C.1 dL_machine_107 ?_
  refine k_qruns hst C ⟨(Nat.le_of_ble_eq_true rfl), (Nat.le_of_ble_eq_true rfl)⟩ hI hl.1 (rgk 9 rfl) (rgk 0 rfl) (rgk 0 rfl) (rgk 0 rfl) (rgk 0 rfl) (rgk 0 rfl) mSf9 (Nat.le_of_ble_eq_true rfl) ⟨(Nat.le_of_ble_eq_true rfl), (Nat.le_of_ble_eq_true rfl)⟩ dL_machine_108 (fun H locs hI _ => ?_)
  refine fl_if_ne (tgt := 116) C.1 (rgk 1 rfl) dL_machine_111 (by decide) (fun _ => ?_) (fun h => absurd h (by decide))
  refine lv_aload_n C.1.1 C.1.2.1 dL_machine_116 rfl (lv_at hl 0 rfl) ?_
  refine fl_iconst C.1 dL_machine_117 ?_
  refine fl_bipush C.1 dL_machine_118 (by decide) ?_
  refine j_code hst C (by exact ⟨(Nat.le_of_ble_eq_true rfl), (Nat.le_of_ble_eq_true rfl)⟩) hI hl.1 (rgk 1 rfl) (rgk 99 rfl) mSf10 (Nat.le_of_ble_eq_true rfl) ⟨(Nat.le_of_ble_eq_true rfl), (Nat.le_of_ble_eq_true rfl)⟩ dL_machine_120 (fun H locs hI _ => ?_)
  refine fl_iconst C.1 dL_machine_123 ?_
  refine fl_icmp_ne (tgt := 174) C.1 (rgk 1 rfl) (rgk 1 rfl) dL_machine_124 (by decide) (fun h => absurd rfl h) (fun _ => ?_)
  refine lv_aload_n C.1.1 C.1.2.1 dL_machine_127 rfl (lv_at hl 0 rfl) ?_
  refine fl_sipush C.1 dL_machine_128 (by decide) ?_
  refine fl_iconst C.1 dL_machine_131 ?_
  refine k_qcodes (N := 4) hst C ⟨(Nat.le_of_ble_eq_true rfl), (Nat.le_of_ble_eq_true rfl)⟩ hI hl.1 rfl (Nat.le_of_ble_eq_true rfl) (by decide) mSf11 (Nat.le_of_ble_eq_true rfl) ⟨(Nat.le_of_ble_eq_true rfl), (Nat.le_of_ble_eq_true rfl)⟩ dL_machine_132 (fun H locs hI _ => ?_)
  refine fl_iconst C.1 dL_machine_135 ?_
  refine fl_icmp_ne (tgt := 174) C.1 (rgk 5 rfl) (rgk 5 rfl) dL_machine_136 (by decide) (fun h => absurd rfl h) (fun _ => ?_)
  refine lv_aload_n C.1.1 C.1.2.1 dL_machine_139 rfl (lv_at hl 0 rfl) ?_
  refine fl_bipush C.1 dL_machine_140 (by decide) ?_
  refine fl_iconst C.1 dL_machine_142 ?_
  refine fl_iconst C.1 dL_machine_143 ?_
  refine fl_iconst C.1 dL_machine_144 ?_
  refine fl_iconst C.1 dL_machine_145 ?_
  refine fl_iconst C.1 dL_machine_146 ?_
  refine k_qruns hst C ⟨(Nat.le_of_ble_eq_true rfl), (Nat.le_of_ble_eq_true rfl)⟩ hI hl.1 (rgk 9 rfl) (rgk 4 rfl) (rgk 5 rfl) (rgk 0 rfl) (rgk 0 rfl) (rgk 0 rfl) mSf12 (Nat.le_of_ble_eq_true rfl) ⟨(Nat.le_of_ble_eq_true rfl), (Nat.le_of_ble_eq_true rfl)⟩ dL_machine_147 (fun H locs hI _ => ?_)
  refine fl_if_eq (tgt := 174) C.1 (rgk 1 rfl) dL_machine_150 (by decide) (fun h => absurd h (by decide)) (fun _ => ?_)
  refine lv_aload_n C.1.1 C.1.2.1 dL_machine_153 rfl (lv_at hl 0 rfl) ?_
  refine fl_iconst C.1 dL_machine_154 ?_
  refine fl_iconst C.1 dL_machine_155 ?_
  refine fl_iconst C.1 dL_machine_156 ?_
  refine fl_iconst C.1 dL_machine_157 ?_
  refine fl_iconst C.1 dL_machine_158 ?_
  refine fl_iconst C.1 dL_machine_159 ?_
  refine k_qruns hst C ⟨(Nat.le_of_ble_eq_true rfl), (Nat.le_of_ble_eq_true rfl)⟩ hI hl.1 (rgk 4 rfl) (rgk 2 rfl) (rgk 4 rfl) (rgk 0 rfl) (rgk 0 rfl) (rgk 0 rfl) mSf13 (Nat.le_of_ble_eq_true rfl) ⟨(Nat.le_of_ble_eq_true rfl), (Nat.le_of_ble_eq_true rfl)⟩ dL_machine_160 (fun H locs hI _ => ?_)
  refine fl_if_eq (tgt := 174) C.1 (rgk 1 rfl) dL_machine_163 (by decide) (fun h => absurd h (by decide)) (fun _ => ?_)
  refine lv_aload_n C.1.1 C.1.2.1 dL_machine_166 rfl (lv_at hl 0 rfl) ?_
  refine j_clear C (by exact ⟨(Nat.le_of_ble_eq_true rfl), (Nat.le_of_ble_eq_true rfl)⟩) hI hl.1 mSf14 (Nat.le_of_ble_eq_true rfl) ⟨(Nat.le_of_ble_eq_true rfl), (Nat.le_of_ble_eq_true rfl)⟩ dL_machine_167 (fun H locs hI _ => ?_)
  refine fl_iconst C.1 dL_machine_170 ?_
  refine fl_icmp_eq (tgt := 176) C.1 (rgk 5 rfl) (rgk 5 rfl) dL_machine_171 (by decide) (fun _ => ?_) (fun h => absurd (by decide) h)
  refine lv_aload_n C.1.1 C.1.2.1 dL_machine_176 rfl (lv_at hl 0 rfl) ?_
  refine fl_iconst C.1 dL_machine_177 ?_
  refine fl_iconst C.1 dL_machine_178 ?_
  refine j_code hst C (by exact ⟨(Nat.le_of_ble_eq_true rfl), (Nat.le_of_ble_eq_true rfl)⟩) hI hl.1 (rgk 1 rfl) (rgk 5 rfl) mSf15 (Nat.le_of_ble_eq_true rfl) ⟨(Nat.le_of_ble_eq_true rfl), (Nat.le_of_ble_eq_true rfl)⟩ dL_machine_179 (fun H locs hI _ => ?_)
  refine fl_iconst C.1 dL_machine_182 ?_
  refine fl_icmp_ne (tgt := 281) C.1 (rgk 1 rfl) (rgk 1 rfl) dL_machine_183 (by decide) (fun h => absurd rfl h) (fun _ => ?_)
  refine lv_aload_n C.1.1 C.1.2.1 dL_machine_186 rfl (lv_at hl 0 rfl) ?_
  refine fl_sipush C.1 dL_machine_187 (by decide) ?_
  refine fl_iconst C.1 dL_machine_190 ?_
  refine k_qcodes (N := 4) hst C ⟨(Nat.le_of_ble_eq_true rfl), (Nat.le_of_ble_eq_true rfl)⟩ hI hl.1 rfl (Nat.le_of_ble_eq_true rfl) (by decide) mSf16 (Nat.le_of_ble_eq_true rfl) ⟨(Nat.le_of_ble_eq_true rfl), (Nat.le_of_ble_eq_true rfl)⟩ dL_machine_191 (fun H locs hI _ => ?_)
  refine fl_iconst C.1 dL_machine_194 ?_
  refine fl_icmp_ne (tgt := 281) C.1 (rgk 5 rfl) (rgk 5 rfl) dL_machine_195 (by decide) (fun h => absurd rfl h) (fun _ => ?_)
  refine lv_aload_n C.1.1 C.1.2.1 dL_machine_198 rfl (lv_at hl 0 rfl) ?_
  refine fl_bipush C.1 dL_machine_199 (by decide) ?_
  refine fl_iconst C.1 dL_machine_201 ?_
  refine k_qcodes (N := 2) hst C ⟨(Nat.le_of_ble_eq_true rfl), (Nat.le_of_ble_eq_true rfl)⟩ hI hl.1 rfl (Nat.le_of_ble_eq_true rfl) (by decide) mSf17 (Nat.le_of_ble_eq_true rfl) ⟨(Nat.le_of_ble_eq_true rfl), (Nat.le_of_ble_eq_true rfl)⟩ dL_machine_202 (fun H locs hI _ => ?_)
  refine fl_bipush C.1 dL_machine_205 (by decide) ?_
  refine fl_icmp_ne (tgt := 281) C.1 (rgk 7 rfl) (rgk 7 rfl) dL_machine_207 (by decide) (fun h => absurd rfl h) (fun _ => ?_)
  refine lv_aload_n C.1.1 C.1.2.1 dL_machine_210 rfl (lv_at hl 0 rfl) ?_
  refine fl_bipush C.1 dL_machine_211 (by decide) ?_
  refine fl_iconst C.1 dL_machine_213 ?_
  refine fl_bipush C.1 dL_machine_214 (by decide) ?_
  refine fl_iconst C.1 dL_machine_216 ?_
  refine fl_sipush C.1 dL_machine_217 (by decide) ?_
  refine fl_iconst C.1 dL_machine_220 ?_
  refine k_qruns hst C ⟨(Nat.le_of_ble_eq_true rfl), (Nat.le_of_ble_eq_true rfl)⟩ hI hl.1 (rgk 99 rfl) (rgk 0 rfl) (rgk 7 rfl) (rgk 1 rfl) (rgk 625 rfl) (rgk 0 rfl) mSf18 (Nat.le_of_ble_eq_true rfl) ⟨(Nat.le_of_ble_eq_true rfl), (Nat.le_of_ble_eq_true rfl)⟩ dL_machine_221 (fun H locs hI _ => ?_)
  refine fl_if_eq (tgt := 281) C.1 (rgk 1 rfl) dL_machine_224 (by decide) (fun h => absurd h (by decide)) (fun _ => ?_)
  refine lv_aload_n C.1.1 C.1.2.1 dL_machine_227 rfl (lv_at hl 0 rfl) ?_
  refine fl_iconst C.1 dL_machine_228 ?_
  refine fl_iconst C.1 dL_machine_229 ?_
  refine k_qcodes (N := 1) hst C ⟨(Nat.le_of_ble_eq_true rfl), (Nat.le_of_ble_eq_true rfl)⟩ hI hl.1 rfl (Nat.le_of_ble_eq_true rfl) (by decide) mSf19 (Nat.le_of_ble_eq_true rfl) ⟨(Nat.le_of_ble_eq_true rfl), (Nat.le_of_ble_eq_true rfl)⟩ dL_machine_230 (fun H locs hI _ => ?_)
  refine fl_bipush C.1 dL_machine_233 (by decide) ?_
  refine fl_icmp_ne (tgt := 281) C.1 (rgk 8 rfl) (rgk 8 rfl) dL_machine_235 (by decide) (fun h => absurd rfl h) (fun _ => ?_)
  refine lv_aload_n C.1.1 C.1.2.1 dL_machine_238 rfl (lv_at hl 0 rfl) ?_
  refine fl_bipush C.1 dL_machine_239 (by decide) ?_
  refine fl_iconst C.1 dL_machine_241 ?_
  refine fl_bipush C.1 dL_machine_242 (by decide) ?_
  refine fl_iconst C.1 dL_machine_244 ?_
  refine fl_sipush C.1 dL_machine_245 (by decide) ?_
  refine fl_iconst C.1 dL_machine_248 ?_
  refine k_qruns hst C ⟨(Nat.le_of_ble_eq_true rfl), (Nat.le_of_ble_eq_true rfl)⟩ hI hl.1 (rgk 99 rfl) (rgk 4 rfl) (rgk 8 rfl) (rgk 1 rfl) (rgk 625 rfl) (rgk 0 rfl) mSf20 (Nat.le_of_ble_eq_true rfl) ⟨(Nat.le_of_ble_eq_true rfl), (Nat.le_of_ble_eq_true rfl)⟩ dL_machine_249 (fun H locs hI _ => ?_)
  refine fl_if_eq (tgt := 281) C.1 (rgk 1 rfl) dL_machine_252 (by decide) (fun h => absurd h (by decide)) (fun _ => ?_)
  refine lv_aload_n C.1.1 C.1.2.1 dL_machine_255 rfl (lv_at hl 0 rfl) ?_
  refine fl_bipush C.1 dL_machine_256 (by decide) ?_
  refine fl_iconst C.1 dL_machine_258 ?_
  refine fl_bipush C.1 dL_machine_259 (by decide) ?_
  refine fl_iconst C.1 dL_machine_261 ?_
  refine fl_sipush C.1 dL_machine_262 (by decide) ?_
  refine fl_iconst C.1 dL_machine_265 ?_
  refine k_qruns hst C ⟨(Nat.le_of_ble_eq_true rfl), (Nat.le_of_ble_eq_true rfl)⟩ hI hl.1 (rgk 7 rfl) (rgk 2 rfl) (rgk 7 rfl) (rgk 1 rfl) (rgk 625 rfl) (rgk 0 rfl) mSf21 (Nat.le_of_ble_eq_true rfl) ⟨(Nat.le_of_ble_eq_true rfl), (Nat.le_of_ble_eq_true rfl)⟩ dL_machine_266 (fun H locs hI _ => ?_)
  refine fl_if_eq (tgt := 281) C.1 (rgk 1 rfl) dL_machine_269 (by decide) (fun h => absurd h (by decide)) (fun _ => ?_)
  refine lv_aload_n C.1.1 C.1.2.1 dL_machine_272 rfl (lv_at hl 0 rfl) ?_
  refine j_clear C (by exact ⟨(Nat.le_of_ble_eq_true rfl), (Nat.le_of_ble_eq_true rfl)⟩) hI hl.1 mSf22 (Nat.le_of_ble_eq_true rfl) ⟨(Nat.le_of_ble_eq_true rfl), (Nat.le_of_ble_eq_true rfl)⟩ dL_machine_273 (fun H locs hI _ => ?_)
  refine fl_bipush C.1 dL_machine_276 (by decide) ?_
  refine fl_icmp_eq (tgt := 283) C.1 (rgk 8 rfl) (rgk 8 rfl) dL_machine_278 (by decide) (fun _ => ?_) (fun h => absurd (by decide) h)
  refine lv_aload_n C.1.1 C.1.2.1 dL_machine_283 rfl (lv_at hl 0 rfl) ?_
  refine fl_iconst C.1 dL_machine_284 ?_
  refine fl_bipush C.1 dL_machine_285 (by decide) ?_
  refine j_code hst C (by exact ⟨(Nat.le_of_ble_eq_true rfl), (Nat.le_of_ble_eq_true rfl)⟩) hI hl.1 (rgk 1 rfl) (rgk 7 rfl) mSf23 (Nat.le_of_ble_eq_true rfl) ⟨(Nat.le_of_ble_eq_true rfl), (Nat.le_of_ble_eq_true rfl)⟩ dL_machine_287 (fun H locs hI _ => ?_)
  refine fl_iconst C.1 dL_machine_290 ?_
  refine fl_icmp_ne (tgt := 445) C.1 (rgk 1 rfl) (rgk 1 rfl) dL_machine_291 (by decide) (fun h => absurd rfl h) (fun _ => ?_)
  refine lv_aload_n C.1.1 C.1.2.1 dL_machine_294 rfl (lv_at hl 0 rfl) ?_
  refine fl_ldc (n := 5555555) C.1 aw_820 rfl dL_machine_295 ?_
  refine fl_bipush C.1 dL_machine_297 (by decide) ?_
  refine k_qcodes (N := 7) hst C ⟨(Nat.le_of_ble_eq_true rfl), (Nat.le_of_ble_eq_true rfl)⟩ hI hl.1 rfl (Nat.le_of_ble_eq_true rfl) (by decide) mSf24 (Nat.le_of_ble_eq_true rfl) ⟨(Nat.le_of_ble_eq_true rfl), (Nat.le_of_ble_eq_true rfl)⟩ dL_machine_299 (fun H locs hI _ => ?_)
  refine fl_bipush C.1 dL_machine_302 (by decide) ?_
  refine fl_icmp_ne (tgt := 445) C.1 (rgk 8 rfl) (rgk 8 rfl) dL_machine_304 (by decide) (fun h => absurd rfl h) (fun _ => ?_)
  exact W.widen (Nat.le_of_ble_eq_true rfl) (Nat.le_of_ble_eq_true rfl) (kk H locs ls hI hl)
set_option maxRecDepth 100000 in
set_option maxHeartbeats 4000000 in
theorem w_machine_1 (hst : l.stackTraces = false) (C : LC p s m meth c D cy B cL_machine 3) (kk : ∀ (H : Heap) (locs : List Loc) (ls : Array Slot), HI D cy B s.heap H locs x mS29 → lv_has ls 3 [(0, .ref x)] → W p l e rm_L_machine s m args below meth c H locs 379 2430 Q (F0 m 588 ls [])) : ∀ (H : Heap) (locs : List Loc) (ls : Array Slot), HI D cy B s.heap H locs x mS14 → lv_has ls 3 [(0, .ref x)] → W p l e rm_L_machine s m args below meth c H locs 262 1728 Q (F0 m 307 ls []) := by
  intro H locs ls hI hl
  refine lv_aload_n C.1.1 C.1.2.1 dL_machine_307 rfl (lv_at hl 0 rfl) ?_
  refine fl_bipush C.1 dL_machine_308 (by decide) ?_
  refine fl_iconst C.1 dL_machine_310 ?_
  refine fl_bipush C.1 dL_machine_311 (by decide) ?_
  refine fl_iconst C.1 dL_machine_313 ?_
  refine fl_iconst C.1 dL_machine_314 ?_
  refine fl_iconst C.1 dL_machine_315 ?_
  refine k_qruns hst C ⟨(Nat.le_of_ble_eq_true rfl), (Nat.le_of_ble_eq_true rfl)⟩ hI hl.1 (rgk 99 rfl) (rgk 0 rfl) (rgk 8 rfl) (rgk 0 rfl) (rgk 0 rfl) (rgk 0 rfl) mSf25 (Nat.le_of_ble_eq_true rfl) ⟨(Nat.le_of_ble_eq_true rfl), (Nat.le_of_ble_eq_true rfl)⟩ dL_machine_316 (fun H locs hI _ => ?_)
  refine fl_if_eq (tgt := 445) C.1 (rgk 1 rfl) dL_machine_319 (by decide) (fun h => absurd h (by decide)) (fun _ => ?_)
  refine lv_aload_n C.1.1 C.1.2.1 dL_machine_322 rfl (lv_at hl 0 rfl) ?_
  refine fl_iconst C.1 dL_machine_323 ?_
  refine fl_iconst C.1 dL_machine_324 ?_
  refine j_code hst C (by exact ⟨(Nat.le_of_ble_eq_true rfl), (Nat.le_of_ble_eq_true rfl)⟩) hI hl.1 (rgk 5 rfl) (rgk 0 rfl) mSf26 (Nat.le_of_ble_eq_true rfl) ⟨(Nat.le_of_ble_eq_true rfl), (Nat.le_of_ble_eq_true rfl)⟩ dL_machine_325 (fun H locs hI _ => ?_)
  refine fl_bipush C.1 dL_machine_328 (by decide) ?_
  refine fl_icmp_ne (tgt := 445) C.1 (rgk 9 rfl) (rgk 9 rfl) dL_machine_330 (by decide) (fun h => absurd rfl h) (fun _ => ?_)
  refine lv_aload_n C.1.1 C.1.2.1 dL_machine_333 rfl (lv_at hl 0 rfl) ?_
  refine fl_bipush C.1 dL_machine_334 (by decide) ?_
  refine fl_iconst C.1 dL_machine_336 ?_
  refine fl_bipush C.1 dL_machine_337 (by decide) ?_
  refine fl_iconst C.1 dL_machine_339 ?_
  refine fl_iconst C.1 dL_machine_340 ?_
  refine fl_iconst C.1 dL_machine_341 ?_
  refine k_qruns hst C ⟨(Nat.le_of_ble_eq_true rfl), (Nat.le_of_ble_eq_true rfl)⟩ hI hl.1 (rgk 99 rfl) (rgk 3 rfl) (rgk 9 rfl) (rgk 0 rfl) (rgk 0 rfl) (rgk 0 rfl) mSf27 (Nat.le_of_ble_eq_true rfl) ⟨(Nat.le_of_ble_eq_true rfl), (Nat.le_of_ble_eq_true rfl)⟩ dL_machine_342 (fun H locs hI _ => ?_)
  refine fl_if_eq (tgt := 445) C.1 (rgk 1 rfl) dL_machine_345 (by decide) (fun h => absurd h (by decide)) (fun _ => ?_)
  refine lv_aload_n C.1.1 C.1.2.1 dL_machine_348 rfl (lv_at hl 0 rfl) ?_
  refine fl_bipush C.1 dL_machine_349 (by decide) ?_
  refine fl_iconst C.1 dL_machine_351 ?_
  refine fl_bipush C.1 dL_machine_352 (by decide) ?_
  refine fl_iconst C.1 dL_machine_354 ?_
  refine fl_iconst C.1 dL_machine_355 ?_
  refine fl_iconst C.1 dL_machine_356 ?_
  refine k_qruns hst C ⟨(Nat.le_of_ble_eq_true rfl), (Nat.le_of_ble_eq_true rfl)⟩ hI hl.1 (rgk 8 rfl) (rgk 2 rfl) (rgk 8 rfl) (rgk 0 rfl) (rgk 0 rfl) (rgk 0 rfl) mSf28 (Nat.le_of_ble_eq_true rfl) ⟨(Nat.le_of_ble_eq_true rfl), (Nat.le_of_ble_eq_true rfl)⟩ dL_machine_357 (fun H locs hI _ => ?_)
  refine fl_if_eq (tgt := 445) C.1 (rgk 1 rfl) dL_machine_360 (by decide) (fun h => absurd h (by decide)) (fun _ => ?_)
  refine lv_aload_n C.1.1 C.1.2.1 dL_machine_363 rfl (lv_at hl 0 rfl) ?_
  refine j_clear C (by exact ⟨(Nat.le_of_ble_eq_true rfl), (Nat.le_of_ble_eq_true rfl)⟩) hI hl.1 mSf29 (Nat.le_of_ble_eq_true rfl) ⟨(Nat.le_of_ble_eq_true rfl), (Nat.le_of_ble_eq_true rfl)⟩ dL_machine_364 (fun H locs hI _ => ?_)
  refine fl_bipush C.1 dL_machine_367 (by decide) ?_
  refine fl_icmp_ne (tgt := 445) C.1 (rgk 9 rfl) (rgk 9 rfl) dL_machine_369 (by decide) (fun h => absurd rfl h) (fun _ => ?_)
  refine lv_aload_n C.1.1 C.1.2.1 dL_machine_372 rfl (lv_at hl 0 rfl) ?_
  refine fl_iconst C.1 dL_machine_373 ?_
  refine fl_iconst C.1 dL_machine_374 ?_
  refine j_code hst C (by exact ⟨(Nat.le_of_ble_eq_true rfl), (Nat.le_of_ble_eq_true rfl)⟩) hI hl.1 (rgk 1 rfl) (rgk 3 rfl) mSf30 (Nat.le_of_ble_eq_true rfl) ⟨(Nat.le_of_ble_eq_true rfl), (Nat.le_of_ble_eq_true rfl)⟩ dL_machine_375 (fun H locs hI _ => ?_)
  refine fl_iconst C.1 dL_machine_378 ?_
  refine fl_icmp_ne (tgt := 445) C.1 (rgk 1 rfl) (rgk 1 rfl) dL_machine_379 (by decide) (fun h => absurd rfl h) (fun _ => ?_)
  refine lv_aload_n C.1.1 C.1.2.1 dL_machine_382 rfl (lv_at hl 0 rfl) ?_
  refine fl_bipush C.1 dL_machine_383 (by decide) ?_
  refine fl_iconst C.1 dL_machine_385 ?_
  refine j_code hst C (by exact ⟨(Nat.le_of_ble_eq_true rfl), (Nat.le_of_ble_eq_true rfl)⟩) hI hl.1 (rgk 9 rfl) (rgk 0 rfl) mSf31 (Nat.le_of_ble_eq_true rfl) ⟨(Nat.le_of_ble_eq_true rfl), (Nat.le_of_ble_eq_true rfl)⟩ dL_machine_386 (fun H locs hI _ => ?_)
  refine fl_iconst C.1 dL_machine_389 ?_
  refine fl_icmp_ne (tgt := 445) C.1 (rgk 2 rfl) (rgk 2 rfl) dL_machine_390 (by decide) (fun h => absurd rfl h) (fun _ => ?_)
  refine lv_aload_n C.1.1 C.1.2.1 dL_machine_393 rfl (lv_at hl 0 rfl) ?_
  refine fl_bipush C.1 dL_machine_394 (by decide) ?_
  refine fl_iconst C.1 dL_machine_396 ?_
  refine j_code hst C (by exact ⟨(Nat.le_of_ble_eq_true rfl), (Nat.le_of_ble_eq_true rfl)⟩) hI hl.1 (rgk 8 rfl) (rgk 0 rfl) mSf32 (Nat.le_of_ble_eq_true rfl) ⟨(Nat.le_of_ble_eq_true rfl), (Nat.le_of_ble_eq_true rfl)⟩ dL_machine_397 (fun H locs hI _ => ?_)
  refine fl_iconst C.1 dL_machine_400 ?_
  refine fl_icmp_ne (tgt := 445) C.1 (rgk 3 rfl) (rgk 3 rfl) dL_machine_401 (by decide) (fun h => absurd rfl h) (fun _ => ?_)
  refine lv_aload_n C.1.1 C.1.2.1 dL_machine_404 rfl (lv_at hl 0 rfl) ?_
  refine fl_sipush C.1 dL_machine_405 (by decide) ?_
  refine fl_iconst C.1 dL_machine_408 ?_
  refine fl_bipush C.1 dL_machine_409 (by decide) ?_
  refine fl_bipush C.1 dL_machine_411 (by decide) ?_
  refine fl_iconst C.1 dL_machine_413 ?_
  refine fl_iconst C.1 dL_machine_414 ?_
  refine k_qruns hst C ⟨(Nat.le_of_ble_eq_true rfl), (Nat.le_of_ble_eq_true rfl)⟩ hI hl.1 (rgk 500 rfl) (rgk 3 rfl) (rgk 26 rfl) (rgk 8 rfl) (rgk 3 rfl) (rgk 3 rfl) mSf33 (Nat.le_of_ble_eq_true rfl) ⟨(Nat.le_of_ble_eq_true rfl), (Nat.le_of_ble_eq_true rfl)⟩ dL_machine_415 (fun H locs hI _ => ?_)
  refine fl_if_eq (tgt := 445) C.1 (rgk 1 rfl) dL_machine_418 (by decide) (fun h => absurd h (by decide)) (fun _ => ?_)
  refine lv_aload_n C.1.1 C.1.2.1 dL_machine_421 rfl (lv_at hl 0 rfl) ?_
  refine fl_bipush C.1 dL_machine_422 (by decide) ?_
  refine fl_iconst C.1 dL_machine_424 ?_
  refine fl_bipush C.1 dL_machine_425 (by decide) ?_
  refine fl_bipush C.1 dL_machine_427 (by decide) ?_
  refine fl_iconst C.1 dL_machine_429 ?_
  refine fl_iconst C.1 dL_machine_430 ?_
  refine k_qruns hst C ⟨(Nat.le_of_ble_eq_true rfl), (Nat.le_of_ble_eq_true rfl)⟩ hI hl.1 (rgk 25 rfl) (rgk 2 rfl) (rgk 25 rfl) (rgk 8 rfl) (rgk 3 rfl) (rgk 3 rfl) mSf34 (Nat.le_of_ble_eq_true rfl) ⟨(Nat.le_of_ble_eq_true rfl), (Nat.le_of_ble_eq_true rfl)⟩ dL_machine_431 (fun H locs hI _ => ?_)
  refine fl_if_eq (tgt := 445) C.1 (rgk 1 rfl) dL_machine_434 (by decide) (fun h => absurd h (by decide)) (fun _ => ?_)
  refine lv_aload_n C.1.1 C.1.2.1 dL_machine_437 rfl (lv_at hl 0 rfl) ?_
  refine j_clear C (by exact ⟨(Nat.le_of_ble_eq_true rfl), (Nat.le_of_ble_eq_true rfl)⟩) hI hl.1 mSf35 (Nat.le_of_ble_eq_true rfl) ⟨(Nat.le_of_ble_eq_true rfl), (Nat.le_of_ble_eq_true rfl)⟩ dL_machine_438 (fun H locs hI _ => ?_)
  refine fl_iconst C.1 dL_machine_441 ?_
  refine fl_icmp_eq (tgt := 447) C.1 (rgk 3 rfl) (rgk 3 rfl) dL_machine_442 (by decide) (fun _ => ?_) (fun h => absurd (by decide) h)
  refine lv_aload_n C.1.1 C.1.2.1 dL_machine_447 rfl (lv_at hl 0 rfl) ?_
  refine fl_bipush C.1 dL_machine_448 (by decide) ?_
  refine fl_iconst C.1 dL_machine_450 ?_
  refine j_code hst C (by exact ⟨(Nat.le_of_ble_eq_true rfl), (Nat.le_of_ble_eq_true rfl)⟩) hI hl.1 (rgk 8 rfl) (rgk 1 rfl) mSf36 (Nat.le_of_ble_eq_true rfl) ⟨(Nat.le_of_ble_eq_true rfl), (Nat.le_of_ble_eq_true rfl)⟩ dL_machine_451 (fun H locs hI _ => ?_)
  refine fl_iconst C.1 dL_machine_454 ?_
  refine fl_icmp_ne (tgt := 668) C.1 (rgk 1 rfl) (rgk 1 rfl) dL_machine_455 (by decide) (fun h => absurd rfl h) (fun _ => ?_)
  refine lv_aload_n C.1.1 C.1.2.1 dL_machine_458 rfl (lv_at hl 0 rfl) ?_
  refine fl_iconst C.1 dL_machine_459 ?_
  refine fl_iconst C.1 dL_machine_460 ?_
  refine fl_iconst C.1 dL_machine_461 ?_
  refine fl_iconst C.1 dL_machine_462 ?_
  refine fl_iconst C.1 dL_machine_463 ?_
  refine fl_iconst C.1 dL_machine_464 ?_
  refine k_qruns hst C ⟨(Nat.le_of_ble_eq_true rfl), (Nat.le_of_ble_eq_true rfl)⟩ hI hl.1 (rgk 1 rfl) (rgk 0 rfl) (rgk 1 rfl) (rgk 0 rfl) (rgk 0 rfl) (rgk 0 rfl) mSf37 (Nat.le_of_ble_eq_true rfl) ⟨(Nat.le_of_ble_eq_true rfl), (Nat.le_of_ble_eq_true rfl)⟩ dL_machine_465 (fun H locs hI _ => ?_)
  refine fl_if_eq (tgt := 668) C.1 (rgk 1 rfl) dL_machine_468 (by decide) (fun h => absurd h (by decide)) (fun _ => ?_)
  refine lv_aload_n C.1.1 C.1.2.1 dL_machine_471 rfl (lv_at hl 0 rfl) ?_
  refine j_clear C (by exact ⟨(Nat.le_of_ble_eq_true rfl), (Nat.le_of_ble_eq_true rfl)⟩) hI hl.1 mSf38 (Nat.le_of_ble_eq_true rfl) ⟨(Nat.le_of_ble_eq_true rfl), (Nat.le_of_ble_eq_true rfl)⟩ dL_machine_472 (fun H locs hI _ => ?_)
  refine fl_iconst C.1 dL_machine_475 ?_
  refine fl_icmp_ne (tgt := 668) C.1 (rgk 1 rfl) (rgk 1 rfl) dL_machine_476 (by decide) (fun h => absurd rfl h) (fun _ => ?_)
  refine lv_aload_n C.1.1 C.1.2.1 dL_machine_479 rfl (lv_at hl 0 rfl) ?_
  refine fl_bipush C.1 dL_machine_480 (by decide) ?_
  refine fl_iconst C.1 dL_machine_482 ?_
  refine j_code hst C (by exact ⟨(Nat.le_of_ble_eq_true rfl), (Nat.le_of_ble_eq_true rfl)⟩) hI hl.1 (rgk 8 rfl) (rgk 2 rfl) mSf39 (Nat.le_of_ble_eq_true rfl) ⟨(Nat.le_of_ble_eq_true rfl), (Nat.le_of_ble_eq_true rfl)⟩ dL_machine_483 (fun H locs hI _ => ?_)
  refine fl_iconst C.1 dL_machine_486 ?_
  refine fl_icmp_ne (tgt := 668) C.1 (rgk 1 rfl) (rgk 1 rfl) dL_machine_487 (by decide) (fun h => absurd rfl h) (fun _ => ?_)
  refine lv_aload_n C.1.1 C.1.2.1 dL_machine_490 rfl (lv_at hl 0 rfl) ?_
  refine fl_iconst C.1 dL_machine_491 ?_
  refine fl_iconst C.1 dL_machine_492 ?_
  refine fl_iconst C.1 dL_machine_493 ?_
  refine fl_iconst C.1 dL_machine_494 ?_
  refine fl_iconst C.1 dL_machine_495 ?_
  refine fl_iconst C.1 dL_machine_496 ?_
  refine k_qruns hst C ⟨(Nat.le_of_ble_eq_true rfl), (Nat.le_of_ble_eq_true rfl)⟩ hI hl.1 (rgk 1 rfl) (rgk 4 rfl) (rgk 1 rfl) (rgk 0 rfl) (rgk 0 rfl) (rgk 0 rfl) mSf40 (Nat.le_of_ble_eq_true rfl) ⟨(Nat.le_of_ble_eq_true rfl), (Nat.le_of_ble_eq_true rfl)⟩ dL_machine_497 (fun H locs hI _ => ?_)
  refine fl_if_eq (tgt := 668) C.1 (rgk 1 rfl) dL_machine_500 (by decide) (fun h => absurd h (by decide)) (fun _ => ?_)
  refine lv_aload_n C.1.1 C.1.2.1 dL_machine_503 rfl (lv_at hl 0 rfl) ?_
  refine j_clear C (by exact ⟨(Nat.le_of_ble_eq_true rfl), (Nat.le_of_ble_eq_true rfl)⟩) hI hl.1 mSf41 (Nat.le_of_ble_eq_true rfl) ⟨(Nat.le_of_ble_eq_true rfl), (Nat.le_of_ble_eq_true rfl)⟩ dL_machine_504 (fun H locs hI _ => ?_)
  refine fl_iconst C.1 dL_machine_507 ?_
  refine fl_icmp_ne (tgt := 668) C.1 (rgk 1 rfl) (rgk 1 rfl) dL_machine_508 (by decide) (fun h => absurd rfl h) (fun _ => ?_)
  refine lv_aload_n C.1.1 C.1.2.1 dL_machine_511 rfl (lv_at hl 0 rfl) ?_
  refine fl_bipush C.1 dL_machine_512 (by decide) ?_
  refine fl_iconst C.1 dL_machine_514 ?_
  refine j_code hst C (by exact ⟨(Nat.le_of_ble_eq_true rfl), (Nat.le_of_ble_eq_true rfl)⟩) hI hl.1 (rgk 8 rfl) (rgk (-1) rfl) mSf42 (Nat.le_of_ble_eq_true rfl) ⟨(Nat.le_of_ble_eq_true rfl), (Nat.le_of_ble_eq_true rfl)⟩ dL_machine_515 (fun H locs hI _ => ?_)
  refine fl_iconst C.1 dL_machine_518 ?_
  refine fl_icmp_ne (tgt := 668) C.1 (rgk 1 rfl) (rgk 1 rfl) dL_machine_519 (by decide) (fun h => absurd rfl h) (fun _ => ?_)
  refine lv_aload_n C.1.1 C.1.2.1 dL_machine_522 rfl (lv_at hl 0 rfl) ?_
  refine fl_bipush C.1 dL_machine_523 (by decide) ?_
  refine fl_iconst C.1 dL_machine_525 ?_
  refine fl_iconst C.1 dL_machine_526 ?_
  refine fl_iconst C.1 dL_machine_527 ?_
  refine fl_iconst C.1 dL_machine_528 ?_
  refine fl_iconst C.1 dL_machine_529 ?_
  refine k_qruns hst C ⟨(Nat.le_of_ble_eq_true rfl), (Nat.le_of_ble_eq_true rfl)⟩ hI hl.1 (rgk 9 rfl) (rgk 4 rfl) (rgk 1 rfl) (rgk 0 rfl) (rgk 0 rfl) (rgk 0 rfl) mSf43 (Nat.le_of_ble_eq_true rfl) ⟨(Nat.le_of_ble_eq_true rfl), (Nat.le_of_ble_eq_true rfl)⟩ dL_machine_530 (fun H locs hI _ => ?_)
  refine fl_if_eq (tgt := 668) C.1 (rgk 1 rfl) dL_machine_533 (by decide) (fun h => absurd h (by decide)) (fun _ => ?_)
  refine lv_aload_n C.1.1 C.1.2.1 dL_machine_536 rfl (lv_at hl 0 rfl) ?_
  refine j_clear C (by exact ⟨(Nat.le_of_ble_eq_true rfl), (Nat.le_of_ble_eq_true rfl)⟩) hI hl.1 mSf44 (Nat.le_of_ble_eq_true rfl) ⟨(Nat.le_of_ble_eq_true rfl), (Nat.le_of_ble_eq_true rfl)⟩ dL_machine_537 (fun H locs hI _ => ?_)
  refine fl_iconst C.1 dL_machine_540 ?_
  refine fl_icmp_ne (tgt := 668) C.1 (rgk 1 rfl) (rgk 1 rfl) dL_machine_541 (by decide) (fun h => absurd rfl h) (fun _ => ?_)
  refine lv_aload_n C.1.1 C.1.2.1 dL_machine_544 rfl (lv_at hl 0 rfl) ?_
  refine fl_iconst C.1 dL_machine_545 ?_
  refine fl_iconst C.1 dL_machine_546 ?_
  refine j_code hst C (by exact ⟨(Nat.le_of_ble_eq_true rfl), (Nat.le_of_ble_eq_true rfl)⟩) hI hl.1 (rgk 1 rfl) (rgk 1 rfl) mSf45 (Nat.le_of_ble_eq_true rfl) ⟨(Nat.le_of_ble_eq_true rfl), (Nat.le_of_ble_eq_true rfl)⟩ dL_machine_547 (fun H locs hI _ => ?_)
  refine fl_iconst C.1 dL_machine_550 ?_
  refine fl_icmp_ne (tgt := 668) C.1 (rgk 1 rfl) (rgk 1 rfl) dL_machine_551 (by decide) (fun h => absurd rfl h) (fun _ => ?_)
  refine lv_aload_n C.1.1 C.1.2.1 dL_machine_554 rfl (lv_at hl 0 rfl) ?_
  refine fl_bipush C.1 dL_machine_555 (by decide) ?_
  refine fl_bipush C.1 dL_machine_557 (by decide) ?_
  refine j_code hst C (by exact ⟨(Nat.le_of_ble_eq_true rfl), (Nat.le_of_ble_eq_true rfl)⟩) hI hl.1 (rgk 7 rfl) (rgk (-9) rfl) mSf46 (Nat.le_of_ble_eq_true rfl) ⟨(Nat.le_of_ble_eq_true rfl), (Nat.le_of_ble_eq_true rfl)⟩ dL_machine_559 (fun H locs hI _ => ?_)
  refine fl_iconst C.1 dL_machine_562 ?_
  refine fl_icmp_ne (tgt := 668) C.1 (rgk 2 rfl) (rgk 2 rfl) dL_machine_563 (by decide) (fun h => absurd rfl h) (fun _ => ?_)
  refine lv_aload_n C.1.1 C.1.2.1 dL_machine_566 rfl (lv_at hl 0 rfl) ?_
  refine fl_bipush C.1 dL_machine_567 (by decide) ?_
  refine fl_iconst C.1 dL_machine_569 ?_
  refine fl_iconst C.1 dL_machine_570 ?_
  refine fl_iconst C.1 dL_machine_571 ?_
  refine fl_iconst C.1 dL_machine_572 ?_
  refine fl_iconst C.1 dL_machine_573 ?_
  refine k_qruns hst C ⟨(Nat.le_of_ble_eq_true rfl), (Nat.le_of_ble_eq_true rfl)⟩ hI hl.1 (rgk 9 rfl) (rgk 0 rfl) (rgk 2 rfl) (rgk 0 rfl) (rgk 0 rfl) (rgk 0 rfl) mSf47 (Nat.le_of_ble_eq_true rfl) ⟨(Nat.le_of_ble_eq_true rfl), (Nat.le_of_ble_eq_true rfl)⟩ dL_machine_574 (fun H locs hI _ => ?_)
  refine fl_if_eq (tgt := 668) C.1 (rgk 1 rfl) dL_machine_577 (by decide) (fun h => absurd h (by decide)) (fun _ => ?_)
  refine lv_aload_n C.1.1 C.1.2.1 dL_machine_580 rfl (lv_at hl 0 rfl) ?_
  refine j_clear C (by exact ⟨(Nat.le_of_ble_eq_true rfl), (Nat.le_of_ble_eq_true rfl)⟩) hI hl.1 mSf48 (Nat.le_of_ble_eq_true rfl) ⟨(Nat.le_of_ble_eq_true rfl), (Nat.le_of_ble_eq_true rfl)⟩ dL_machine_581 (fun H locs hI _ => ?_)
  refine fl_iconst C.1 dL_machine_584 ?_
  refine fl_icmp_ne (tgt := 668) C.1 (rgk 2 rfl) (rgk 2 rfl) dL_machine_585 (by decide) (fun h => absurd rfl h) (fun _ => ?_)
  exact W.widen (Nat.le_of_ble_eq_true rfl) (Nat.le_of_ble_eq_true rfl) (kk H locs ls hI hl)
set_option maxRecDepth 100000 in
set_option maxHeartbeats 4000000 in
theorem w_machine_2 (hst : l.stackTraces = false) (C : LC p s m meth c D cy B cL_machine 3) (kk : ∀ (H : Heap) (locs : List Loc) (ls : Array Slot), HI D cy B s.heap H locs x mS46 → lv_has ls 3 [(2, iv 1), (1, iv 4), (0, .ref x)] → W p l e rm_L_machine s m args below meth c H locs 479 3030 Q (F0 m 743 ls [])) : ∀ (H : Heap) (locs : List Loc) (ls : Array Slot), HI D cy B s.heap H locs x mS29 → lv_has ls 3 [(0, .ref x)] → W p l e rm_L_machine s m args below meth c H locs 379 2430 Q (F0 m 588 ls []) := by
  intro H locs ls hI hl
  refine lv_aload_n C.1.1 C.1.2.1 dL_machine_588 rfl (lv_at hl 0 rfl) ?_
  refine fl_iconst C.1 dL_machine_589 ?_
  refine fl_iconst C.1 dL_machine_590 ?_
  refine j_code hst C (by exact ⟨(Nat.le_of_ble_eq_true rfl), (Nat.le_of_ble_eq_true rfl)⟩) hI hl.1 (rgk 1 rfl) (rgk 0 rfl) mSf49 (Nat.le_of_ble_eq_true rfl) ⟨(Nat.le_of_ble_eq_true rfl), (Nat.le_of_ble_eq_true rfl)⟩ dL_machine_591 (fun H locs hI _ => ?_)
  refine fl_iconst C.1 dL_machine_594 ?_
  refine fl_icmp_ne (tgt := 668) C.1 (rgk 1 rfl) (rgk 1 rfl) dL_machine_595 (by decide) (fun h => absurd rfl h) (fun _ => ?_)
  refine lv_aload_n C.1.1 C.1.2.1 dL_machine_598 rfl (lv_at hl 0 rfl) ?_
  refine fl_bipush C.1 dL_machine_599 (by decide) ?_
  refine fl_bipush C.1 dL_machine_601 (by decide) ?_
  refine j_code hst C (by exact ⟨(Nat.le_of_ble_eq_true rfl), (Nat.le_of_ble_eq_true rfl)⟩) hI hl.1 (rgk 7 rfl) (rgk (-9) rfl) mSf50 (Nat.le_of_ble_eq_true rfl) ⟨(Nat.le_of_ble_eq_true rfl), (Nat.le_of_ble_eq_true rfl)⟩ dL_machine_603 (fun H locs hI _ => ?_)
  refine fl_iconst C.1 dL_machine_606 ?_
  refine fl_icmp_ne (tgt := 668) C.1 (rgk 2 rfl) (rgk 2 rfl) dL_machine_607 (by decide) (fun h => absurd rfl h) (fun _ => ?_)
  refine lv_aload_n C.1.1 C.1.2.1 dL_machine_610 rfl (lv_at hl 0 rfl) ?_
  refine fl_bipush C.1 dL_machine_611 (by decide) ?_
  refine fl_iconst C.1 dL_machine_613 ?_
  refine fl_iconst C.1 dL_machine_614 ?_
  refine fl_iconst C.1 dL_machine_615 ?_
  refine fl_iconst C.1 dL_machine_616 ?_
  refine fl_iconst C.1 dL_machine_617 ?_
  refine k_qruns hst C ⟨(Nat.le_of_ble_eq_true rfl), (Nat.le_of_ble_eq_true rfl)⟩ hI hl.1 (rgk 9 rfl) (rgk 4 rfl) (rgk 2 rfl) (rgk 0 rfl) (rgk 0 rfl) (rgk 0 rfl) mSf51 (Nat.le_of_ble_eq_true rfl) ⟨(Nat.le_of_ble_eq_true rfl), (Nat.le_of_ble_eq_true rfl)⟩ dL_machine_618 (fun H locs hI _ => ?_)
  refine fl_if_eq (tgt := 668) C.1 (rgk 1 rfl) dL_machine_621 (by decide) (fun h => absurd h (by decide)) (fun _ => ?_)
  refine lv_aload_n C.1.1 C.1.2.1 dL_machine_624 rfl (lv_at hl 0 rfl) ?_
  refine j_clear C (by exact ⟨(Nat.le_of_ble_eq_true rfl), (Nat.le_of_ble_eq_true rfl)⟩) hI hl.1 mSf52 (Nat.le_of_ble_eq_true rfl) ⟨(Nat.le_of_ble_eq_true rfl), (Nat.le_of_ble_eq_true rfl)⟩ dL_machine_625 (fun H locs hI _ => ?_)
  refine fl_iconst C.1 dL_machine_628 ?_
  refine fl_icmp_ne (tgt := 668) C.1 (rgk 2 rfl) (rgk 2 rfl) dL_machine_629 (by decide) (fun h => absurd rfl h) (fun _ => ?_)
  refine lv_aload_n C.1.1 C.1.2.1 dL_machine_632 rfl (lv_at hl 0 rfl) ?_
  refine fl_bipush C.1 dL_machine_633 (by decide) ?_
  refine fl_iconst C.1 dL_machine_635 ?_
  refine j_code hst C (by exact ⟨(Nat.le_of_ble_eq_true rfl), (Nat.le_of_ble_eq_true rfl)⟩) hI hl.1 (rgk 8 rfl) (rgk 0 rfl) mSf53 (Nat.le_of_ble_eq_true rfl) ⟨(Nat.le_of_ble_eq_true rfl), (Nat.le_of_ble_eq_true rfl)⟩ dL_machine_636 (fun H locs hI _ => ?_)
  refine fl_iconst C.1 dL_machine_639 ?_
  refine fl_icmp_ne (tgt := 668) C.1 (rgk 1 rfl) (rgk 1 rfl) dL_machine_640 (by decide) (fun h => absurd rfl h) (fun _ => ?_)
  refine lv_aload_n C.1.1 C.1.2.1 dL_machine_643 rfl (lv_at hl 0 rfl) ?_
  refine fl_sipush C.1 dL_machine_644 (by decide) ?_
  refine fl_iconst C.1 dL_machine_647 ?_
  refine fl_sipush C.1 dL_machine_648 (by decide) ?_
  refine fl_iconst C.1 dL_machine_651 ?_
  refine fl_iconst C.1 dL_machine_652 ?_
  refine fl_iconst C.1 dL_machine_653 ?_
  refine k_qruns hst C ⟨(Nat.le_of_ble_eq_true rfl), (Nat.le_of_ble_eq_true rfl)⟩ hI hl.1 (rgk 500 rfl) (rgk 2 rfl) (rgk 500 rfl) (rgk 0 rfl) (rgk 0 rfl) (rgk 0 rfl) mSf54 (Nat.le_of_ble_eq_true rfl) ⟨(Nat.le_of_ble_eq_true rfl), (Nat.le_of_ble_eq_true rfl)⟩ dL_machine_654 (fun H locs hI _ => ?_)
  refine fl_if_eq (tgt := 668) C.1 (rgk 1 rfl) dL_machine_657 (by decide) (fun h => absurd h (by decide)) (fun _ => ?_)
  refine lv_aload_n C.1.1 C.1.2.1 dL_machine_660 rfl (lv_at hl 0 rfl) ?_
  refine j_clear C (by exact ⟨(Nat.le_of_ble_eq_true rfl), (Nat.le_of_ble_eq_true rfl)⟩) hI hl.1 mSf55 (Nat.le_of_ble_eq_true rfl) ⟨(Nat.le_of_ble_eq_true rfl), (Nat.le_of_ble_eq_true rfl)⟩ dL_machine_661 (fun H locs hI _ => ?_)
  refine fl_iconst C.1 dL_machine_664 ?_
  refine fl_icmp_eq (tgt := 670) C.1 (rgk 1 rfl) (rgk 1 rfl) dL_machine_665 (by decide) (fun _ => ?_) (fun h => absurd (by decide) h)
  refine fl_iconst C.1 dL_machine_670 ?_
  refine lv_istore_n (lv' := [(1, iv 2), (0, .ref x)]) C.1.1 C.1.2.1 dL_machine_671 rfl hl (by decide) rfl (fun ls hl => ?_)
  refine lv_iload_n C.1.1 C.1.2.1 dL_machine_672 rfl (lv_at hl 0 rfl) ?_
  refine fl_bipush C.1 dL_machine_673 (by decide) ?_
  refine fl_icmp_ge (tgt := 821) C.1 (rgk 2 rfl) (rgk 10 rfl) dL_machine_675 (by decide) (fun h => absurd h (by decide)) (fun _ => ?_)
  refine lv_iload_n C.1.1 C.1.2.1 dL_machine_678 rfl (lv_at hl 0 rfl) ?_
  refine fl_iconst C.1 dL_machine_679 ?_
  refine fl_icmp_eq (tgt := 699) C.1 (rgk 2 rfl) (rgk 2 rfl) dL_machine_680 (by decide) (fun _ => ?_) (fun h => absurd (by decide) h)
  refine fl_iconst C.1 dL_machine_699 ?_
  refine fl_goto (tgt := 704) C.1 dL_machine_700 (by decide) ?_
  refine lv_istore_n (lv' := [(2, iv 1), (1, iv 2), (0, .ref x)]) C.1.1 C.1.2.1 dL_machine_704 rfl hl (by decide) rfl (fun ls hl => ?_)
  refine lv_aload_n C.1.1 C.1.2.1 dL_machine_705 rfl (lv_at hl 2 rfl) ?_
  refine lv_iload_n C.1.1 C.1.2.1 dL_machine_706 rfl (lv_at hl 1 rfl) ?_
  refine fl_iconst C.1 dL_machine_707 ?_
  refine j_code hst C (by exact ⟨(Nat.le_of_ble_eq_true rfl), (Nat.le_of_ble_eq_true rfl)⟩) hI hl.1 (rgk 2 rfl) (rgk 0 rfl) mSf56 (Nat.le_of_ble_eq_true rfl) ⟨(Nat.le_of_ble_eq_true rfl), (Nat.le_of_ble_eq_true rfl)⟩ dL_machine_708 (fun H locs hI _ => ?_)
  refine fl_iconst C.1 dL_machine_711 ?_
  refine fl_icmp_ne (tgt := 813) C.1 (rgk 1 rfl) (rgk 1 rfl) dL_machine_712 (by decide) (fun h => absurd rfl h) (fun _ => ?_)
  refine lv_iload_n C.1.1 C.1.2.1 dL_machine_715 rfl (lv_at hl 1 rfl) ?_
  refine fl_bipush C.1 dL_machine_716 (by decide) ?_
  refine fl_icmp_eq (tgt := 735) C.1 (rgk 2 rfl) (rgk 8 rfl) dL_machine_718 (by decide) (fun h => absurd h (by decide)) (fun _ => ?_)
  refine lv_aload_n C.1.1 C.1.2.1 dL_machine_721 rfl (lv_at hl 2 rfl) ?_
  refine fl_bipush C.1 dL_machine_722 (by decide) ?_
  refine fl_iconst C.1 dL_machine_724 ?_
  refine fl_iconst C.1 dL_machine_725 ?_
  refine fl_iconst C.1 dL_machine_726 ?_
  refine fl_iconst C.1 dL_machine_727 ?_
  refine fl_iconst C.1 dL_machine_728 ?_
  refine k_qruns hst C ⟨(Nat.le_of_ble_eq_true rfl), (Nat.le_of_ble_eq_true rfl)⟩ hI hl.1 (rgk 9 rfl) (rgk 4 rfl) (rgk 1 rfl) (rgk 0 rfl) (rgk 0 rfl) (rgk 0 rfl) mSf57 (Nat.le_of_ble_eq_true rfl) ⟨(Nat.le_of_ble_eq_true rfl), (Nat.le_of_ble_eq_true rfl)⟩ dL_machine_729 (fun H locs hI _ => ?_)
  refine fl_if_eq (tgt := 813) C.1 (rgk 1 rfl) dL_machine_732 (by decide) (fun h => absurd h (by decide)) (fun _ => ?_)
  refine lv_aload_n C.1.1 C.1.2.1 dL_machine_735 rfl (lv_at hl 2 rfl) ?_
  refine j_clear C (by exact ⟨(Nat.le_of_ble_eq_true rfl), (Nat.le_of_ble_eq_true rfl)⟩) hI hl.1 mSf58 (Nat.le_of_ble_eq_true rfl) ⟨(Nat.le_of_ble_eq_true rfl), (Nat.le_of_ble_eq_true rfl)⟩ dL_machine_736 (fun H locs hI _ => ?_)
  refine fl_iconst C.1 dL_machine_739 ?_
  refine fl_icmp_ne (tgt := 813) C.1 (rgk 1 rfl) (rgk 1 rfl) dL_machine_740 (by decide) (fun h => absurd rfl h) (fun _ => ?_)
  refine lv_aload_n C.1.1 C.1.2.1 dL_machine_743 rfl (lv_at hl 2 rfl) ?_
  refine fl_iconst C.1 dL_machine_744 ?_
  refine fl_iconst C.1 dL_machine_745 ?_
  refine j_code hst C (by exact ⟨(Nat.le_of_ble_eq_true rfl), (Nat.le_of_ble_eq_true rfl)⟩) hI hl.1 (rgk 1 rfl) (rgk 2 rfl) mSf59 (Nat.le_of_ble_eq_true rfl) ⟨(Nat.le_of_ble_eq_true rfl), (Nat.le_of_ble_eq_true rfl)⟩ dL_machine_746 (fun H locs hI _ => ?_)
  refine fl_iconst C.1 dL_machine_749 ?_
  refine fl_icmp_ne (tgt := 813) C.1 (rgk 1 rfl) (rgk 1 rfl) dL_machine_750 (by decide) (fun h => absurd rfl h) (fun _ => ?_)
  refine lv_aload_n C.1.1 C.1.2.1 dL_machine_753 rfl (lv_at hl 2 rfl) ?_
  refine lv_iload_n C.1.1 C.1.2.1 dL_machine_754 rfl (lv_at hl 1 rfl) ?_
  refine fl_iconst C.1 dL_machine_755 ?_
  refine j_code hst C (by exact ⟨(Nat.le_of_ble_eq_true rfl), (Nat.le_of_ble_eq_true rfl)⟩) hI hl.1 (rgk 2 rfl) (rgk 2 rfl) mSf60 (Nat.le_of_ble_eq_true rfl) ⟨(Nat.le_of_ble_eq_true rfl), (Nat.le_of_ble_eq_true rfl)⟩ dL_machine_756 (fun H locs hI _ => ?_)
  refine fl_iconst C.1 dL_machine_759 ?_
  refine fl_icmp_ne (tgt := 813) C.1 (rgk 2 rfl) (rgk 2 rfl) dL_machine_760 (by decide) (fun h => absurd rfl h) (fun _ => ?_)
  refine lv_aload_n C.1.1 C.1.2.1 dL_machine_763 rfl (lv_at hl 2 rfl) ?_
  refine fl_bipush C.1 dL_machine_764 (by decide) ?_
  refine lv_iload_n C.1.1 C.1.2.1 dL_machine_766 rfl (lv_at hl 0 rfl) ?_
  refine fl_if_eq (tgt := 774) C.1 (rgk 1 rfl) dL_machine_767 (by decide) (fun h => absurd h (by decide)) (fun _ => ?_)
  refine fl_iconst C.1 dL_machine_770 ?_
  refine fl_goto (tgt := 775) C.1 dL_machine_771 (by decide) ?_
  refine fl_iconst C.1 dL_machine_775 ?_
  refine lv_iload_n C.1.1 C.1.2.1 dL_machine_776 rfl (lv_at hl 1 rfl) ?_
  refine fl_bipush C.1 dL_machine_777 (by decide) ?_
  refine fl_icmp_ne (tgt := 786) C.1 (rgk 2 rfl) (rgk 9 rfl) dL_machine_779 (by decide) (fun _ => ?_) (fun h => absurd h (by decide))
  refine fl_iconst C.1 dL_machine_786 ?_
  refine lv_iload_n C.1.1 C.1.2.1 dL_machine_787 rfl (lv_at hl 1 rfl) ?_
  refine fl_bipush C.1 dL_machine_788 (by decide) ?_
  refine fl_icmp_ne (tgt := 797) C.1 (rgk 2 rfl) (rgk 9 rfl) dL_machine_790 (by decide) (fun _ => ?_) (fun h => absurd h (by decide))
  refine fl_iconst C.1 dL_machine_797 ?_
  refine fl_iconst C.1 dL_machine_798 ?_
  refine k_qruns hst C ⟨(Nat.le_of_ble_eq_true rfl), (Nat.le_of_ble_eq_true rfl)⟩ hI hl.1 (rgk 9 rfl) (rgk 4 rfl) (rgk 2 rfl) (rgk 0 rfl) (rgk 0 rfl) (rgk 0 rfl) mSf61 (Nat.le_of_ble_eq_true rfl) ⟨(Nat.le_of_ble_eq_true rfl), (Nat.le_of_ble_eq_true rfl)⟩ dL_machine_799 (fun H locs hI _ => ?_)
  refine fl_if_eq (tgt := 813) C.1 (rgk 1 rfl) dL_machine_802 (by decide) (fun h => absurd h (by decide)) (fun _ => ?_)
  refine lv_aload_n C.1.1 C.1.2.1 dL_machine_805 rfl (lv_at hl 2 rfl) ?_
  refine j_clear C (by exact ⟨(Nat.le_of_ble_eq_true rfl), (Nat.le_of_ble_eq_true rfl)⟩) hI hl.1 mSf62 (Nat.le_of_ble_eq_true rfl) ⟨(Nat.le_of_ble_eq_true rfl), (Nat.le_of_ble_eq_true rfl)⟩ dL_machine_806 (fun H locs hI _ => ?_)
  refine fl_iconst C.1 dL_machine_809 ?_
  refine fl_icmp_eq (tgt := 815) C.1 (rgk 2 rfl) (rgk 2 rfl) dL_machine_810 (by decide) (fun _ => ?_) (fun h => absurd (by decide) h)
  refine fl_iinc (k := 1) (lv' := [(1, iv (wr (2 + 1))), (2, iv 1), (0, .ref x)]) C.1 dL_machine_815 hl rfl (by decide) rfl (fun ls hl => ?_)
  rw [show wr (2 + 1) = (3 : Int) from by decide +kernel] at hl
  refine fl_goto (tgt := 672) C.1 dL_machine_818 (by decide) ?_
  refine lv_iload_n C.1.1 C.1.2.1 dL_machine_672 rfl (lv_at hl 0 rfl) ?_
  refine fl_bipush C.1 dL_machine_673 (by decide) ?_
  refine fl_icmp_ge (tgt := 821) C.1 (rgk 3 rfl) (rgk 10 rfl) dL_machine_675 (by decide) (fun h => absurd h (by decide)) (fun _ => ?_)
  refine lv_iload_n C.1.1 C.1.2.1 dL_machine_678 rfl (lv_at hl 0 rfl) ?_
  refine fl_iconst C.1 dL_machine_679 ?_
  refine fl_icmp_eq (tgt := 699) C.1 (rgk 3 rfl) (rgk 2 rfl) dL_machine_680 (by decide) (fun h => absurd h (by decide)) (fun _ => ?_)
  refine lv_iload_n C.1.1 C.1.2.1 dL_machine_683 rfl (lv_at hl 0 rfl) ?_
  refine fl_iconst C.1 dL_machine_684 ?_
  refine fl_icmp_eq (tgt := 699) C.1 (rgk 3 rfl) (rgk 3 rfl) dL_machine_685 (by decide) (fun _ => ?_) (fun h => absurd (by decide) h)
  refine fl_iconst C.1 dL_machine_699 ?_
  refine fl_goto (tgt := 704) C.1 dL_machine_700 (by decide) ?_
  refine lv_istore_n (lv' := [(2, iv 1), (1, iv 3), (0, .ref x)]) C.1.1 C.1.2.1 dL_machine_704 rfl hl (by decide) rfl (fun ls hl => ?_)
  refine lv_aload_n C.1.1 C.1.2.1 dL_machine_705 rfl (lv_at hl 2 rfl) ?_
  refine lv_iload_n C.1.1 C.1.2.1 dL_machine_706 rfl (lv_at hl 1 rfl) ?_
  refine fl_iconst C.1 dL_machine_707 ?_
  refine j_code hst C (by exact ⟨(Nat.le_of_ble_eq_true rfl), (Nat.le_of_ble_eq_true rfl)⟩) hI hl.1 (rgk 3 rfl) (rgk 0 rfl) mSf63 (Nat.le_of_ble_eq_true rfl) ⟨(Nat.le_of_ble_eq_true rfl), (Nat.le_of_ble_eq_true rfl)⟩ dL_machine_708 (fun H locs hI _ => ?_)
  refine fl_iconst C.1 dL_machine_711 ?_
  refine fl_icmp_ne (tgt := 813) C.1 (rgk 1 rfl) (rgk 1 rfl) dL_machine_712 (by decide) (fun h => absurd rfl h) (fun _ => ?_)
  refine lv_iload_n C.1.1 C.1.2.1 dL_machine_715 rfl (lv_at hl 1 rfl) ?_
  refine fl_bipush C.1 dL_machine_716 (by decide) ?_
  refine fl_icmp_eq (tgt := 735) C.1 (rgk 3 rfl) (rgk 8 rfl) dL_machine_718 (by decide) (fun h => absurd h (by decide)) (fun _ => ?_)
  refine lv_aload_n C.1.1 C.1.2.1 dL_machine_721 rfl (lv_at hl 2 rfl) ?_
  refine fl_bipush C.1 dL_machine_722 (by decide) ?_
  refine fl_iconst C.1 dL_machine_724 ?_
  refine fl_iconst C.1 dL_machine_725 ?_
  refine fl_iconst C.1 dL_machine_726 ?_
  refine fl_iconst C.1 dL_machine_727 ?_
  refine fl_iconst C.1 dL_machine_728 ?_
  refine k_qruns hst C ⟨(Nat.le_of_ble_eq_true rfl), (Nat.le_of_ble_eq_true rfl)⟩ hI hl.1 (rgk 9 rfl) (rgk 4 rfl) (rgk 1 rfl) (rgk 0 rfl) (rgk 0 rfl) (rgk 0 rfl) mSf64 (Nat.le_of_ble_eq_true rfl) ⟨(Nat.le_of_ble_eq_true rfl), (Nat.le_of_ble_eq_true rfl)⟩ dL_machine_729 (fun H locs hI _ => ?_)
  refine fl_if_eq (tgt := 813) C.1 (rgk 1 rfl) dL_machine_732 (by decide) (fun h => absurd h (by decide)) (fun _ => ?_)
  refine lv_aload_n C.1.1 C.1.2.1 dL_machine_735 rfl (lv_at hl 2 rfl) ?_
  refine j_clear C (by exact ⟨(Nat.le_of_ble_eq_true rfl), (Nat.le_of_ble_eq_true rfl)⟩) hI hl.1 mSf65 (Nat.le_of_ble_eq_true rfl) ⟨(Nat.le_of_ble_eq_true rfl), (Nat.le_of_ble_eq_true rfl)⟩ dL_machine_736 (fun H locs hI _ => ?_)
  refine fl_iconst C.1 dL_machine_739 ?_
  refine fl_icmp_ne (tgt := 813) C.1 (rgk 1 rfl) (rgk 1 rfl) dL_machine_740 (by decide) (fun h => absurd rfl h) (fun _ => ?_)
  refine lv_aload_n C.1.1 C.1.2.1 dL_machine_743 rfl (lv_at hl 2 rfl) ?_
  refine fl_iconst C.1 dL_machine_744 ?_
  refine fl_iconst C.1 dL_machine_745 ?_
  refine j_code hst C (by exact ⟨(Nat.le_of_ble_eq_true rfl), (Nat.le_of_ble_eq_true rfl)⟩) hI hl.1 (rgk 1 rfl) (rgk 2 rfl) mSf66 (Nat.le_of_ble_eq_true rfl) ⟨(Nat.le_of_ble_eq_true rfl), (Nat.le_of_ble_eq_true rfl)⟩ dL_machine_746 (fun H locs hI _ => ?_)
  refine fl_iconst C.1 dL_machine_749 ?_
  refine fl_icmp_ne (tgt := 813) C.1 (rgk 1 rfl) (rgk 1 rfl) dL_machine_750 (by decide) (fun h => absurd rfl h) (fun _ => ?_)
  refine lv_aload_n C.1.1 C.1.2.1 dL_machine_753 rfl (lv_at hl 2 rfl) ?_
  refine lv_iload_n C.1.1 C.1.2.1 dL_machine_754 rfl (lv_at hl 1 rfl) ?_
  refine fl_iconst C.1 dL_machine_755 ?_
  refine j_code hst C (by exact ⟨(Nat.le_of_ble_eq_true rfl), (Nat.le_of_ble_eq_true rfl)⟩) hI hl.1 (rgk 3 rfl) (rgk 2 rfl) mSf67 (Nat.le_of_ble_eq_true rfl) ⟨(Nat.le_of_ble_eq_true rfl), (Nat.le_of_ble_eq_true rfl)⟩ dL_machine_756 (fun H locs hI _ => ?_)
  refine fl_iconst C.1 dL_machine_759 ?_
  refine fl_icmp_ne (tgt := 813) C.1 (rgk 2 rfl) (rgk 2 rfl) dL_machine_760 (by decide) (fun h => absurd rfl h) (fun _ => ?_)
  refine lv_aload_n C.1.1 C.1.2.1 dL_machine_763 rfl (lv_at hl 2 rfl) ?_
  refine fl_bipush C.1 dL_machine_764 (by decide) ?_
  refine lv_iload_n C.1.1 C.1.2.1 dL_machine_766 rfl (lv_at hl 0 rfl) ?_
  refine fl_if_eq (tgt := 774) C.1 (rgk 1 rfl) dL_machine_767 (by decide) (fun h => absurd h (by decide)) (fun _ => ?_)
  refine fl_iconst C.1 dL_machine_770 ?_
  refine fl_goto (tgt := 775) C.1 dL_machine_771 (by decide) ?_
  refine fl_iconst C.1 dL_machine_775 ?_
  refine lv_iload_n C.1.1 C.1.2.1 dL_machine_776 rfl (lv_at hl 1 rfl) ?_
  refine fl_bipush C.1 dL_machine_777 (by decide) ?_
  refine fl_icmp_ne (tgt := 786) C.1 (rgk 3 rfl) (rgk 9 rfl) dL_machine_779 (by decide) (fun _ => ?_) (fun h => absurd h (by decide))
  refine fl_iconst C.1 dL_machine_786 ?_
  refine lv_iload_n C.1.1 C.1.2.1 dL_machine_787 rfl (lv_at hl 1 rfl) ?_
  refine fl_bipush C.1 dL_machine_788 (by decide) ?_
  refine fl_icmp_ne (tgt := 797) C.1 (rgk 3 rfl) (rgk 9 rfl) dL_machine_790 (by decide) (fun _ => ?_) (fun h => absurd h (by decide))
  refine fl_iconst C.1 dL_machine_797 ?_
  refine fl_iconst C.1 dL_machine_798 ?_
  refine k_qruns hst C ⟨(Nat.le_of_ble_eq_true rfl), (Nat.le_of_ble_eq_true rfl)⟩ hI hl.1 (rgk 9 rfl) (rgk 4 rfl) (rgk 2 rfl) (rgk 0 rfl) (rgk 0 rfl) (rgk 0 rfl) mSf68 (Nat.le_of_ble_eq_true rfl) ⟨(Nat.le_of_ble_eq_true rfl), (Nat.le_of_ble_eq_true rfl)⟩ dL_machine_799 (fun H locs hI _ => ?_)
  refine fl_if_eq (tgt := 813) C.1 (rgk 1 rfl) dL_machine_802 (by decide) (fun h => absurd h (by decide)) (fun _ => ?_)
  refine lv_aload_n C.1.1 C.1.2.1 dL_machine_805 rfl (lv_at hl 2 rfl) ?_
  refine j_clear C (by exact ⟨(Nat.le_of_ble_eq_true rfl), (Nat.le_of_ble_eq_true rfl)⟩) hI hl.1 mSf69 (Nat.le_of_ble_eq_true rfl) ⟨(Nat.le_of_ble_eq_true rfl), (Nat.le_of_ble_eq_true rfl)⟩ dL_machine_806 (fun H locs hI _ => ?_)
  refine fl_iconst C.1 dL_machine_809 ?_
  refine fl_icmp_eq (tgt := 815) C.1 (rgk 2 rfl) (rgk 2 rfl) dL_machine_810 (by decide) (fun _ => ?_) (fun h => absurd (by decide) h)
  refine fl_iinc (k := 1) (lv' := [(1, iv (wr (3 + 1))), (2, iv 1), (0, .ref x)]) C.1 dL_machine_815 hl rfl (by decide) rfl (fun ls hl => ?_)
  rw [show wr (3 + 1) = (4 : Int) from by decide +kernel] at hl
  refine fl_goto (tgt := 672) C.1 dL_machine_818 (by decide) ?_
  refine lv_iload_n C.1.1 C.1.2.1 dL_machine_672 rfl (lv_at hl 0 rfl) ?_
  refine fl_bipush C.1 dL_machine_673 (by decide) ?_
  refine fl_icmp_ge (tgt := 821) C.1 (rgk 4 rfl) (rgk 10 rfl) dL_machine_675 (by decide) (fun h => absurd h (by decide)) (fun _ => ?_)
  refine lv_iload_n C.1.1 C.1.2.1 dL_machine_678 rfl (lv_at hl 0 rfl) ?_
  refine fl_iconst C.1 dL_machine_679 ?_
  refine fl_icmp_eq (tgt := 699) C.1 (rgk 4 rfl) (rgk 2 rfl) dL_machine_680 (by decide) (fun h => absurd h (by decide)) (fun _ => ?_)
  refine lv_iload_n C.1.1 C.1.2.1 dL_machine_683 rfl (lv_at hl 0 rfl) ?_
  refine fl_iconst C.1 dL_machine_684 ?_
  refine fl_icmp_eq (tgt := 699) C.1 (rgk 4 rfl) (rgk 3 rfl) dL_machine_685 (by decide) (fun h => absurd h (by decide)) (fun _ => ?_)
  refine lv_iload_n C.1.1 C.1.2.1 dL_machine_688 rfl (lv_at hl 0 rfl) ?_
  refine fl_iconst C.1 dL_machine_689 ?_
  refine fl_icmp_eq (tgt := 699) C.1 (rgk 4 rfl) (rgk 4 rfl) dL_machine_690 (by decide) (fun _ => ?_) (fun h => absurd (by decide) h)
  refine fl_iconst C.1 dL_machine_699 ?_
  refine fl_goto (tgt := 704) C.1 dL_machine_700 (by decide) ?_
  refine lv_istore_n (lv' := [(2, iv 1), (1, iv 4), (0, .ref x)]) C.1.1 C.1.2.1 dL_machine_704 rfl hl (by decide) rfl (fun ls hl => ?_)
  refine lv_aload_n C.1.1 C.1.2.1 dL_machine_705 rfl (lv_at hl 2 rfl) ?_
  refine lv_iload_n C.1.1 C.1.2.1 dL_machine_706 rfl (lv_at hl 1 rfl) ?_
  refine fl_iconst C.1 dL_machine_707 ?_
  refine j_code hst C (by exact ⟨(Nat.le_of_ble_eq_true rfl), (Nat.le_of_ble_eq_true rfl)⟩) hI hl.1 (rgk 4 rfl) (rgk 0 rfl) mSf70 (Nat.le_of_ble_eq_true rfl) ⟨(Nat.le_of_ble_eq_true rfl), (Nat.le_of_ble_eq_true rfl)⟩ dL_machine_708 (fun H locs hI _ => ?_)
  refine fl_iconst C.1 dL_machine_711 ?_
  refine fl_icmp_ne (tgt := 813) C.1 (rgk 1 rfl) (rgk 1 rfl) dL_machine_712 (by decide) (fun h => absurd rfl h) (fun _ => ?_)
  refine lv_iload_n C.1.1 C.1.2.1 dL_machine_715 rfl (lv_at hl 1 rfl) ?_
  refine fl_bipush C.1 dL_machine_716 (by decide) ?_
  refine fl_icmp_eq (tgt := 735) C.1 (rgk 4 rfl) (rgk 8 rfl) dL_machine_718 (by decide) (fun h => absurd h (by decide)) (fun _ => ?_)
  refine lv_aload_n C.1.1 C.1.2.1 dL_machine_721 rfl (lv_at hl 2 rfl) ?_
  refine fl_bipush C.1 dL_machine_722 (by decide) ?_
  refine fl_iconst C.1 dL_machine_724 ?_
  refine fl_iconst C.1 dL_machine_725 ?_
  refine fl_iconst C.1 dL_machine_726 ?_
  refine fl_iconst C.1 dL_machine_727 ?_
  refine fl_iconst C.1 dL_machine_728 ?_
  refine k_qruns hst C ⟨(Nat.le_of_ble_eq_true rfl), (Nat.le_of_ble_eq_true rfl)⟩ hI hl.1 (rgk 9 rfl) (rgk 4 rfl) (rgk 1 rfl) (rgk 0 rfl) (rgk 0 rfl) (rgk 0 rfl) mSf71 (Nat.le_of_ble_eq_true rfl) ⟨(Nat.le_of_ble_eq_true rfl), (Nat.le_of_ble_eq_true rfl)⟩ dL_machine_729 (fun H locs hI _ => ?_)
  refine fl_if_eq (tgt := 813) C.1 (rgk 1 rfl) dL_machine_732 (by decide) (fun h => absurd h (by decide)) (fun _ => ?_)
  refine lv_aload_n C.1.1 C.1.2.1 dL_machine_735 rfl (lv_at hl 2 rfl) ?_
  refine j_clear C (by exact ⟨(Nat.le_of_ble_eq_true rfl), (Nat.le_of_ble_eq_true rfl)⟩) hI hl.1 mSf72 (Nat.le_of_ble_eq_true rfl) ⟨(Nat.le_of_ble_eq_true rfl), (Nat.le_of_ble_eq_true rfl)⟩ dL_machine_736 (fun H locs hI _ => ?_)
  refine fl_iconst C.1 dL_machine_739 ?_
  refine fl_icmp_ne (tgt := 813) C.1 (rgk 1 rfl) (rgk 1 rfl) dL_machine_740 (by decide) (fun h => absurd rfl h) (fun _ => ?_)
  exact W.widen (Nat.le_of_ble_eq_true rfl) (Nat.le_of_ble_eq_true rfl) (kk H locs ls hI hl)
set_option maxRecDepth 100000 in
set_option maxHeartbeats 4000000 in
theorem w_machine_3 (hst : l.stackTraces = false) (C : LC p s m meth c D cy B cL_machine 3) (kk : ∀ (H : Heap) (locs : List Loc) (ls : Array Slot), HI D cy B s.heap H locs x mS63 → lv_has ls 3 [(2, iv 0), (1, iv 7), (0, .ref x)] → W p l e rm_L_machine s m args below meth c H locs 582 3648 Q (F0 m 805 ls [])) : ∀ (H : Heap) (locs : List Loc) (ls : Array Slot), HI D cy B s.heap H locs x mS46 → lv_has ls 3 [(2, iv 1), (1, iv 4), (0, .ref x)] → W p l e rm_L_machine s m args below meth c H locs 479 3030 Q (F0 m 743 ls []) := by
  intro H locs ls hI hl
  refine lv_aload_n C.1.1 C.1.2.1 dL_machine_743 rfl (lv_at hl 2 rfl) ?_
  refine fl_iconst C.1 dL_machine_744 ?_
  refine fl_iconst C.1 dL_machine_745 ?_
  refine j_code hst C (by exact ⟨(Nat.le_of_ble_eq_true rfl), (Nat.le_of_ble_eq_true rfl)⟩) hI hl.1 (rgk 1 rfl) (rgk 2 rfl) mSf73 (Nat.le_of_ble_eq_true rfl) ⟨(Nat.le_of_ble_eq_true rfl), (Nat.le_of_ble_eq_true rfl)⟩ dL_machine_746 (fun H locs hI _ => ?_)
  refine fl_iconst C.1 dL_machine_749 ?_
  refine fl_icmp_ne (tgt := 813) C.1 (rgk 1 rfl) (rgk 1 rfl) dL_machine_750 (by decide) (fun h => absurd rfl h) (fun _ => ?_)
  refine lv_aload_n C.1.1 C.1.2.1 dL_machine_753 rfl (lv_at hl 2 rfl) ?_
  refine lv_iload_n C.1.1 C.1.2.1 dL_machine_754 rfl (lv_at hl 1 rfl) ?_
  refine fl_iconst C.1 dL_machine_755 ?_
  refine j_code hst C (by exact ⟨(Nat.le_of_ble_eq_true rfl), (Nat.le_of_ble_eq_true rfl)⟩) hI hl.1 (rgk 4 rfl) (rgk 2 rfl) mSf74 (Nat.le_of_ble_eq_true rfl) ⟨(Nat.le_of_ble_eq_true rfl), (Nat.le_of_ble_eq_true rfl)⟩ dL_machine_756 (fun H locs hI _ => ?_)
  refine fl_iconst C.1 dL_machine_759 ?_
  refine fl_icmp_ne (tgt := 813) C.1 (rgk 2 rfl) (rgk 2 rfl) dL_machine_760 (by decide) (fun h => absurd rfl h) (fun _ => ?_)
  refine lv_aload_n C.1.1 C.1.2.1 dL_machine_763 rfl (lv_at hl 2 rfl) ?_
  refine fl_bipush C.1 dL_machine_764 (by decide) ?_
  refine lv_iload_n C.1.1 C.1.2.1 dL_machine_766 rfl (lv_at hl 0 rfl) ?_
  refine fl_if_eq (tgt := 774) C.1 (rgk 1 rfl) dL_machine_767 (by decide) (fun h => absurd h (by decide)) (fun _ => ?_)
  refine fl_iconst C.1 dL_machine_770 ?_
  refine fl_goto (tgt := 775) C.1 dL_machine_771 (by decide) ?_
  refine fl_iconst C.1 dL_machine_775 ?_
  refine lv_iload_n C.1.1 C.1.2.1 dL_machine_776 rfl (lv_at hl 1 rfl) ?_
  refine fl_bipush C.1 dL_machine_777 (by decide) ?_
  refine fl_icmp_ne (tgt := 786) C.1 (rgk 4 rfl) (rgk 9 rfl) dL_machine_779 (by decide) (fun _ => ?_) (fun h => absurd h (by decide))
  refine fl_iconst C.1 dL_machine_786 ?_
  refine lv_iload_n C.1.1 C.1.2.1 dL_machine_787 rfl (lv_at hl 1 rfl) ?_
  refine fl_bipush C.1 dL_machine_788 (by decide) ?_
  refine fl_icmp_ne (tgt := 797) C.1 (rgk 4 rfl) (rgk 9 rfl) dL_machine_790 (by decide) (fun _ => ?_) (fun h => absurd h (by decide))
  refine fl_iconst C.1 dL_machine_797 ?_
  refine fl_iconst C.1 dL_machine_798 ?_
  refine k_qruns hst C ⟨(Nat.le_of_ble_eq_true rfl), (Nat.le_of_ble_eq_true rfl)⟩ hI hl.1 (rgk 9 rfl) (rgk 4 rfl) (rgk 2 rfl) (rgk 0 rfl) (rgk 0 rfl) (rgk 0 rfl) mSf75 (Nat.le_of_ble_eq_true rfl) ⟨(Nat.le_of_ble_eq_true rfl), (Nat.le_of_ble_eq_true rfl)⟩ dL_machine_799 (fun H locs hI _ => ?_)
  refine fl_if_eq (tgt := 813) C.1 (rgk 1 rfl) dL_machine_802 (by decide) (fun h => absurd h (by decide)) (fun _ => ?_)
  refine lv_aload_n C.1.1 C.1.2.1 dL_machine_805 rfl (lv_at hl 2 rfl) ?_
  refine j_clear C (by exact ⟨(Nat.le_of_ble_eq_true rfl), (Nat.le_of_ble_eq_true rfl)⟩) hI hl.1 mSf76 (Nat.le_of_ble_eq_true rfl) ⟨(Nat.le_of_ble_eq_true rfl), (Nat.le_of_ble_eq_true rfl)⟩ dL_machine_806 (fun H locs hI _ => ?_)
  refine fl_iconst C.1 dL_machine_809 ?_
  refine fl_icmp_eq (tgt := 815) C.1 (rgk 2 rfl) (rgk 2 rfl) dL_machine_810 (by decide) (fun _ => ?_) (fun h => absurd (by decide) h)
  refine fl_iinc (k := 1) (lv' := [(1, iv (wr (4 + 1))), (2, iv 1), (0, .ref x)]) C.1 dL_machine_815 hl rfl (by decide) rfl (fun ls hl => ?_)
  rw [show wr (4 + 1) = (5 : Int) from by decide +kernel] at hl
  refine fl_goto (tgt := 672) C.1 dL_machine_818 (by decide) ?_
  refine lv_iload_n C.1.1 C.1.2.1 dL_machine_672 rfl (lv_at hl 0 rfl) ?_
  refine fl_bipush C.1 dL_machine_673 (by decide) ?_
  refine fl_icmp_ge (tgt := 821) C.1 (rgk 5 rfl) (rgk 10 rfl) dL_machine_675 (by decide) (fun h => absurd h (by decide)) (fun _ => ?_)
  refine lv_iload_n C.1.1 C.1.2.1 dL_machine_678 rfl (lv_at hl 0 rfl) ?_
  refine fl_iconst C.1 dL_machine_679 ?_
  refine fl_icmp_eq (tgt := 699) C.1 (rgk 5 rfl) (rgk 2 rfl) dL_machine_680 (by decide) (fun h => absurd h (by decide)) (fun _ => ?_)
  refine lv_iload_n C.1.1 C.1.2.1 dL_machine_683 rfl (lv_at hl 0 rfl) ?_
  refine fl_iconst C.1 dL_machine_684 ?_
  refine fl_icmp_eq (tgt := 699) C.1 (rgk 5 rfl) (rgk 3 rfl) dL_machine_685 (by decide) (fun h => absurd h (by decide)) (fun _ => ?_)
  refine lv_iload_n C.1.1 C.1.2.1 dL_machine_688 rfl (lv_at hl 0 rfl) ?_
  refine fl_iconst C.1 dL_machine_689 ?_
  refine fl_icmp_eq (tgt := 699) C.1 (rgk 5 rfl) (rgk 4 rfl) dL_machine_690 (by decide) (fun h => absurd h (by decide)) (fun _ => ?_)
  refine lv_iload_n C.1.1 C.1.2.1 dL_machine_693 rfl (lv_at hl 0 rfl) ?_
  refine fl_bipush C.1 dL_machine_694 (by decide) ?_
  refine fl_icmp_ne (tgt := 703) C.1 (rgk 5 rfl) (rgk 6 rfl) dL_machine_696 (by decide) (fun _ => ?_) (fun h => absurd h (by decide))
  refine fl_iconst C.1 dL_machine_703 ?_
  refine lv_istore_n (lv' := [(2, iv 0), (1, iv 5), (0, .ref x)]) C.1.1 C.1.2.1 dL_machine_704 rfl hl (by decide) rfl (fun ls hl => ?_)
  refine lv_aload_n C.1.1 C.1.2.1 dL_machine_705 rfl (lv_at hl 2 rfl) ?_
  refine lv_iload_n C.1.1 C.1.2.1 dL_machine_706 rfl (lv_at hl 1 rfl) ?_
  refine fl_iconst C.1 dL_machine_707 ?_
  refine j_code hst C (by exact ⟨(Nat.le_of_ble_eq_true rfl), (Nat.le_of_ble_eq_true rfl)⟩) hI hl.1 (rgk 5 rfl) (rgk 0 rfl) mSf77 (Nat.le_of_ble_eq_true rfl) ⟨(Nat.le_of_ble_eq_true rfl), (Nat.le_of_ble_eq_true rfl)⟩ dL_machine_708 (fun H locs hI _ => ?_)
  refine fl_iconst C.1 dL_machine_711 ?_
  refine fl_icmp_ne (tgt := 813) C.1 (rgk 1 rfl) (rgk 1 rfl) dL_machine_712 (by decide) (fun h => absurd rfl h) (fun _ => ?_)
  refine lv_iload_n C.1.1 C.1.2.1 dL_machine_715 rfl (lv_at hl 1 rfl) ?_
  refine fl_bipush C.1 dL_machine_716 (by decide) ?_
  refine fl_icmp_eq (tgt := 735) C.1 (rgk 5 rfl) (rgk 8 rfl) dL_machine_718 (by decide) (fun h => absurd h (by decide)) (fun _ => ?_)
  refine lv_aload_n C.1.1 C.1.2.1 dL_machine_721 rfl (lv_at hl 2 rfl) ?_
  refine fl_bipush C.1 dL_machine_722 (by decide) ?_
  refine fl_iconst C.1 dL_machine_724 ?_
  refine fl_iconst C.1 dL_machine_725 ?_
  refine fl_iconst C.1 dL_machine_726 ?_
  refine fl_iconst C.1 dL_machine_727 ?_
  refine fl_iconst C.1 dL_machine_728 ?_
  refine k_qruns hst C ⟨(Nat.le_of_ble_eq_true rfl), (Nat.le_of_ble_eq_true rfl)⟩ hI hl.1 (rgk 9 rfl) (rgk 4 rfl) (rgk 1 rfl) (rgk 0 rfl) (rgk 0 rfl) (rgk 0 rfl) mSf78 (Nat.le_of_ble_eq_true rfl) ⟨(Nat.le_of_ble_eq_true rfl), (Nat.le_of_ble_eq_true rfl)⟩ dL_machine_729 (fun H locs hI _ => ?_)
  refine fl_if_eq (tgt := 813) C.1 (rgk 1 rfl) dL_machine_732 (by decide) (fun h => absurd h (by decide)) (fun _ => ?_)
  refine lv_aload_n C.1.1 C.1.2.1 dL_machine_735 rfl (lv_at hl 2 rfl) ?_
  refine j_clear C (by exact ⟨(Nat.le_of_ble_eq_true rfl), (Nat.le_of_ble_eq_true rfl)⟩) hI hl.1 mSf79 (Nat.le_of_ble_eq_true rfl) ⟨(Nat.le_of_ble_eq_true rfl), (Nat.le_of_ble_eq_true rfl)⟩ dL_machine_736 (fun H locs hI _ => ?_)
  refine fl_iconst C.1 dL_machine_739 ?_
  refine fl_icmp_ne (tgt := 813) C.1 (rgk 1 rfl) (rgk 1 rfl) dL_machine_740 (by decide) (fun h => absurd rfl h) (fun _ => ?_)
  refine lv_aload_n C.1.1 C.1.2.1 dL_machine_743 rfl (lv_at hl 2 rfl) ?_
  refine fl_iconst C.1 dL_machine_744 ?_
  refine fl_iconst C.1 dL_machine_745 ?_
  refine j_code hst C (by exact ⟨(Nat.le_of_ble_eq_true rfl), (Nat.le_of_ble_eq_true rfl)⟩) hI hl.1 (rgk 1 rfl) (rgk 2 rfl) mSf80 (Nat.le_of_ble_eq_true rfl) ⟨(Nat.le_of_ble_eq_true rfl), (Nat.le_of_ble_eq_true rfl)⟩ dL_machine_746 (fun H locs hI _ => ?_)
  refine fl_iconst C.1 dL_machine_749 ?_
  refine fl_icmp_ne (tgt := 813) C.1 (rgk 1 rfl) (rgk 1 rfl) dL_machine_750 (by decide) (fun h => absurd rfl h) (fun _ => ?_)
  refine lv_aload_n C.1.1 C.1.2.1 dL_machine_753 rfl (lv_at hl 2 rfl) ?_
  refine lv_iload_n C.1.1 C.1.2.1 dL_machine_754 rfl (lv_at hl 1 rfl) ?_
  refine fl_iconst C.1 dL_machine_755 ?_
  refine j_code hst C (by exact ⟨(Nat.le_of_ble_eq_true rfl), (Nat.le_of_ble_eq_true rfl)⟩) hI hl.1 (rgk 5 rfl) (rgk 2 rfl) mSf81 (Nat.le_of_ble_eq_true rfl) ⟨(Nat.le_of_ble_eq_true rfl), (Nat.le_of_ble_eq_true rfl)⟩ dL_machine_756 (fun H locs hI _ => ?_)
  refine fl_iconst C.1 dL_machine_759 ?_
  refine fl_icmp_ne (tgt := 813) C.1 (rgk 2 rfl) (rgk 2 rfl) dL_machine_760 (by decide) (fun h => absurd rfl h) (fun _ => ?_)
  refine lv_aload_n C.1.1 C.1.2.1 dL_machine_763 rfl (lv_at hl 2 rfl) ?_
  refine fl_bipush C.1 dL_machine_764 (by decide) ?_
  refine lv_iload_n C.1.1 C.1.2.1 dL_machine_766 rfl (lv_at hl 0 rfl) ?_
  refine fl_if_eq (tgt := 774) C.1 (rgk 0 rfl) dL_machine_767 (by decide) (fun _ => ?_) (fun h => absurd (by decide) h)
  refine fl_iconst C.1 dL_machine_774 ?_
  refine fl_iconst C.1 dL_machine_775 ?_
  refine lv_iload_n C.1.1 C.1.2.1 dL_machine_776 rfl (lv_at hl 1 rfl) ?_
  refine fl_bipush C.1 dL_machine_777 (by decide) ?_
  refine fl_icmp_ne (tgt := 786) C.1 (rgk 5 rfl) (rgk 9 rfl) dL_machine_779 (by decide) (fun _ => ?_) (fun h => absurd h (by decide))
  refine fl_iconst C.1 dL_machine_786 ?_
  refine lv_iload_n C.1.1 C.1.2.1 dL_machine_787 rfl (lv_at hl 1 rfl) ?_
  refine fl_bipush C.1 dL_machine_788 (by decide) ?_
  refine fl_icmp_ne (tgt := 797) C.1 (rgk 5 rfl) (rgk 9 rfl) dL_machine_790 (by decide) (fun _ => ?_) (fun h => absurd h (by decide))
  refine fl_iconst C.1 dL_machine_797 ?_
  refine fl_iconst C.1 dL_machine_798 ?_
  refine k_qruns hst C ⟨(Nat.le_of_ble_eq_true rfl), (Nat.le_of_ble_eq_true rfl)⟩ hI hl.1 (rgk 9 rfl) (rgk 0 rfl) (rgk 2 rfl) (rgk 0 rfl) (rgk 0 rfl) (rgk 0 rfl) mSf82 (Nat.le_of_ble_eq_true rfl) ⟨(Nat.le_of_ble_eq_true rfl), (Nat.le_of_ble_eq_true rfl)⟩ dL_machine_799 (fun H locs hI _ => ?_)
  refine fl_if_eq (tgt := 813) C.1 (rgk 1 rfl) dL_machine_802 (by decide) (fun h => absurd h (by decide)) (fun _ => ?_)
  refine lv_aload_n C.1.1 C.1.2.1 dL_machine_805 rfl (lv_at hl 2 rfl) ?_
  refine j_clear C (by exact ⟨(Nat.le_of_ble_eq_true rfl), (Nat.le_of_ble_eq_true rfl)⟩) hI hl.1 mSf83 (Nat.le_of_ble_eq_true rfl) ⟨(Nat.le_of_ble_eq_true rfl), (Nat.le_of_ble_eq_true rfl)⟩ dL_machine_806 (fun H locs hI _ => ?_)
  refine fl_iconst C.1 dL_machine_809 ?_
  refine fl_icmp_eq (tgt := 815) C.1 (rgk 2 rfl) (rgk 2 rfl) dL_machine_810 (by decide) (fun _ => ?_) (fun h => absurd (by decide) h)
  refine fl_iinc (k := 1) (lv' := [(1, iv (wr (5 + 1))), (2, iv 0), (0, .ref x)]) C.1 dL_machine_815 hl rfl (by decide) rfl (fun ls hl => ?_)
  rw [show wr (5 + 1) = (6 : Int) from by decide +kernel] at hl
  refine fl_goto (tgt := 672) C.1 dL_machine_818 (by decide) ?_
  refine lv_iload_n C.1.1 C.1.2.1 dL_machine_672 rfl (lv_at hl 0 rfl) ?_
  refine fl_bipush C.1 dL_machine_673 (by decide) ?_
  refine fl_icmp_ge (tgt := 821) C.1 (rgk 6 rfl) (rgk 10 rfl) dL_machine_675 (by decide) (fun h => absurd h (by decide)) (fun _ => ?_)
  refine lv_iload_n C.1.1 C.1.2.1 dL_machine_678 rfl (lv_at hl 0 rfl) ?_
  refine fl_iconst C.1 dL_machine_679 ?_
  refine fl_icmp_eq (tgt := 699) C.1 (rgk 6 rfl) (rgk 2 rfl) dL_machine_680 (by decide) (fun h => absurd h (by decide)) (fun _ => ?_)
  refine lv_iload_n C.1.1 C.1.2.1 dL_machine_683 rfl (lv_at hl 0 rfl) ?_
  refine fl_iconst C.1 dL_machine_684 ?_
  refine fl_icmp_eq (tgt := 699) C.1 (rgk 6 rfl) (rgk 3 rfl) dL_machine_685 (by decide) (fun h => absurd h (by decide)) (fun _ => ?_)
  refine lv_iload_n C.1.1 C.1.2.1 dL_machine_688 rfl (lv_at hl 0 rfl) ?_
  refine fl_iconst C.1 dL_machine_689 ?_
  refine fl_icmp_eq (tgt := 699) C.1 (rgk 6 rfl) (rgk 4 rfl) dL_machine_690 (by decide) (fun h => absurd h (by decide)) (fun _ => ?_)
  refine lv_iload_n C.1.1 C.1.2.1 dL_machine_693 rfl (lv_at hl 0 rfl) ?_
  refine fl_bipush C.1 dL_machine_694 (by decide) ?_
  refine fl_icmp_ne (tgt := 703) C.1 (rgk 6 rfl) (rgk 6 rfl) dL_machine_696 (by decide) (fun h => absurd rfl h) (fun _ => ?_)
  refine fl_iconst C.1 dL_machine_699 ?_
  refine fl_goto (tgt := 704) C.1 dL_machine_700 (by decide) ?_
  refine lv_istore_n (lv' := [(2, iv 1), (1, iv 6), (0, .ref x)]) C.1.1 C.1.2.1 dL_machine_704 rfl hl (by decide) rfl (fun ls hl => ?_)
  refine lv_aload_n C.1.1 C.1.2.1 dL_machine_705 rfl (lv_at hl 2 rfl) ?_
  refine lv_iload_n C.1.1 C.1.2.1 dL_machine_706 rfl (lv_at hl 1 rfl) ?_
  refine fl_iconst C.1 dL_machine_707 ?_
  refine j_code hst C (by exact ⟨(Nat.le_of_ble_eq_true rfl), (Nat.le_of_ble_eq_true rfl)⟩) hI hl.1 (rgk 6 rfl) (rgk 0 rfl) mSf84 (Nat.le_of_ble_eq_true rfl) ⟨(Nat.le_of_ble_eq_true rfl), (Nat.le_of_ble_eq_true rfl)⟩ dL_machine_708 (fun H locs hI _ => ?_)
  refine fl_iconst C.1 dL_machine_711 ?_
  refine fl_icmp_ne (tgt := 813) C.1 (rgk 1 rfl) (rgk 1 rfl) dL_machine_712 (by decide) (fun h => absurd rfl h) (fun _ => ?_)
  refine lv_iload_n C.1.1 C.1.2.1 dL_machine_715 rfl (lv_at hl 1 rfl) ?_
  refine fl_bipush C.1 dL_machine_716 (by decide) ?_
  refine fl_icmp_eq (tgt := 735) C.1 (rgk 6 rfl) (rgk 8 rfl) dL_machine_718 (by decide) (fun h => absurd h (by decide)) (fun _ => ?_)
  refine lv_aload_n C.1.1 C.1.2.1 dL_machine_721 rfl (lv_at hl 2 rfl) ?_
  refine fl_bipush C.1 dL_machine_722 (by decide) ?_
  refine fl_iconst C.1 dL_machine_724 ?_
  refine fl_iconst C.1 dL_machine_725 ?_
  refine fl_iconst C.1 dL_machine_726 ?_
  refine fl_iconst C.1 dL_machine_727 ?_
  refine fl_iconst C.1 dL_machine_728 ?_
  refine k_qruns hst C ⟨(Nat.le_of_ble_eq_true rfl), (Nat.le_of_ble_eq_true rfl)⟩ hI hl.1 (rgk 9 rfl) (rgk 4 rfl) (rgk 1 rfl) (rgk 0 rfl) (rgk 0 rfl) (rgk 0 rfl) mSf85 (Nat.le_of_ble_eq_true rfl) ⟨(Nat.le_of_ble_eq_true rfl), (Nat.le_of_ble_eq_true rfl)⟩ dL_machine_729 (fun H locs hI _ => ?_)
  refine fl_if_eq (tgt := 813) C.1 (rgk 1 rfl) dL_machine_732 (by decide) (fun h => absurd h (by decide)) (fun _ => ?_)
  refine lv_aload_n C.1.1 C.1.2.1 dL_machine_735 rfl (lv_at hl 2 rfl) ?_
  refine j_clear C (by exact ⟨(Nat.le_of_ble_eq_true rfl), (Nat.le_of_ble_eq_true rfl)⟩) hI hl.1 mSf86 (Nat.le_of_ble_eq_true rfl) ⟨(Nat.le_of_ble_eq_true rfl), (Nat.le_of_ble_eq_true rfl)⟩ dL_machine_736 (fun H locs hI _ => ?_)
  refine fl_iconst C.1 dL_machine_739 ?_
  refine fl_icmp_ne (tgt := 813) C.1 (rgk 1 rfl) (rgk 1 rfl) dL_machine_740 (by decide) (fun h => absurd rfl h) (fun _ => ?_)
  refine lv_aload_n C.1.1 C.1.2.1 dL_machine_743 rfl (lv_at hl 2 rfl) ?_
  refine fl_iconst C.1 dL_machine_744 ?_
  refine fl_iconst C.1 dL_machine_745 ?_
  refine j_code hst C (by exact ⟨(Nat.le_of_ble_eq_true rfl), (Nat.le_of_ble_eq_true rfl)⟩) hI hl.1 (rgk 1 rfl) (rgk 2 rfl) mSf87 (Nat.le_of_ble_eq_true rfl) ⟨(Nat.le_of_ble_eq_true rfl), (Nat.le_of_ble_eq_true rfl)⟩ dL_machine_746 (fun H locs hI _ => ?_)
  refine fl_iconst C.1 dL_machine_749 ?_
  refine fl_icmp_ne (tgt := 813) C.1 (rgk 1 rfl) (rgk 1 rfl) dL_machine_750 (by decide) (fun h => absurd rfl h) (fun _ => ?_)
  refine lv_aload_n C.1.1 C.1.2.1 dL_machine_753 rfl (lv_at hl 2 rfl) ?_
  refine lv_iload_n C.1.1 C.1.2.1 dL_machine_754 rfl (lv_at hl 1 rfl) ?_
  refine fl_iconst C.1 dL_machine_755 ?_
  refine j_code hst C (by exact ⟨(Nat.le_of_ble_eq_true rfl), (Nat.le_of_ble_eq_true rfl)⟩) hI hl.1 (rgk 6 rfl) (rgk 2 rfl) mSf88 (Nat.le_of_ble_eq_true rfl) ⟨(Nat.le_of_ble_eq_true rfl), (Nat.le_of_ble_eq_true rfl)⟩ dL_machine_756 (fun H locs hI _ => ?_)
  refine fl_iconst C.1 dL_machine_759 ?_
  refine fl_icmp_ne (tgt := 813) C.1 (rgk 2 rfl) (rgk 2 rfl) dL_machine_760 (by decide) (fun h => absurd rfl h) (fun _ => ?_)
  refine lv_aload_n C.1.1 C.1.2.1 dL_machine_763 rfl (lv_at hl 2 rfl) ?_
  refine fl_bipush C.1 dL_machine_764 (by decide) ?_
  refine lv_iload_n C.1.1 C.1.2.1 dL_machine_766 rfl (lv_at hl 0 rfl) ?_
  refine fl_if_eq (tgt := 774) C.1 (rgk 1 rfl) dL_machine_767 (by decide) (fun h => absurd h (by decide)) (fun _ => ?_)
  refine fl_iconst C.1 dL_machine_770 ?_
  refine fl_goto (tgt := 775) C.1 dL_machine_771 (by decide) ?_
  refine fl_iconst C.1 dL_machine_775 ?_
  refine lv_iload_n C.1.1 C.1.2.1 dL_machine_776 rfl (lv_at hl 1 rfl) ?_
  refine fl_bipush C.1 dL_machine_777 (by decide) ?_
  refine fl_icmp_ne (tgt := 786) C.1 (rgk 6 rfl) (rgk 9 rfl) dL_machine_779 (by decide) (fun _ => ?_) (fun h => absurd h (by decide))
  refine fl_iconst C.1 dL_machine_786 ?_
  refine lv_iload_n C.1.1 C.1.2.1 dL_machine_787 rfl (lv_at hl 1 rfl) ?_
  refine fl_bipush C.1 dL_machine_788 (by decide) ?_
  refine fl_icmp_ne (tgt := 797) C.1 (rgk 6 rfl) (rgk 9 rfl) dL_machine_790 (by decide) (fun _ => ?_) (fun h => absurd h (by decide))
  refine fl_iconst C.1 dL_machine_797 ?_
  refine fl_iconst C.1 dL_machine_798 ?_
  refine k_qruns hst C ⟨(Nat.le_of_ble_eq_true rfl), (Nat.le_of_ble_eq_true rfl)⟩ hI hl.1 (rgk 9 rfl) (rgk 4 rfl) (rgk 2 rfl) (rgk 0 rfl) (rgk 0 rfl) (rgk 0 rfl) mSf89 (Nat.le_of_ble_eq_true rfl) ⟨(Nat.le_of_ble_eq_true rfl), (Nat.le_of_ble_eq_true rfl)⟩ dL_machine_799 (fun H locs hI _ => ?_)
  refine fl_if_eq (tgt := 813) C.1 (rgk 1 rfl) dL_machine_802 (by decide) (fun h => absurd h (by decide)) (fun _ => ?_)
  refine lv_aload_n C.1.1 C.1.2.1 dL_machine_805 rfl (lv_at hl 2 rfl) ?_
  refine j_clear C (by exact ⟨(Nat.le_of_ble_eq_true rfl), (Nat.le_of_ble_eq_true rfl)⟩) hI hl.1 mSf90 (Nat.le_of_ble_eq_true rfl) ⟨(Nat.le_of_ble_eq_true rfl), (Nat.le_of_ble_eq_true rfl)⟩ dL_machine_806 (fun H locs hI _ => ?_)
  refine fl_iconst C.1 dL_machine_809 ?_
  refine fl_icmp_eq (tgt := 815) C.1 (rgk 2 rfl) (rgk 2 rfl) dL_machine_810 (by decide) (fun _ => ?_) (fun h => absurd (by decide) h)
  refine fl_iinc (k := 1) (lv' := [(1, iv (wr (6 + 1))), (2, iv 1), (0, .ref x)]) C.1 dL_machine_815 hl rfl (by decide) rfl (fun ls hl => ?_)
  rw [show wr (6 + 1) = (7 : Int) from by decide +kernel] at hl
  refine fl_goto (tgt := 672) C.1 dL_machine_818 (by decide) ?_
  refine lv_iload_n C.1.1 C.1.2.1 dL_machine_672 rfl (lv_at hl 0 rfl) ?_
  refine fl_bipush C.1 dL_machine_673 (by decide) ?_
  refine fl_icmp_ge (tgt := 821) C.1 (rgk 7 rfl) (rgk 10 rfl) dL_machine_675 (by decide) (fun h => absurd h (by decide)) (fun _ => ?_)
  refine lv_iload_n C.1.1 C.1.2.1 dL_machine_678 rfl (lv_at hl 0 rfl) ?_
  refine fl_iconst C.1 dL_machine_679 ?_
  refine fl_icmp_eq (tgt := 699) C.1 (rgk 7 rfl) (rgk 2 rfl) dL_machine_680 (by decide) (fun h => absurd h (by decide)) (fun _ => ?_)
  refine lv_iload_n C.1.1 C.1.2.1 dL_machine_683 rfl (lv_at hl 0 rfl) ?_
  refine fl_iconst C.1 dL_machine_684 ?_
  refine fl_icmp_eq (tgt := 699) C.1 (rgk 7 rfl) (rgk 3 rfl) dL_machine_685 (by decide) (fun h => absurd h (by decide)) (fun _ => ?_)
  refine lv_iload_n C.1.1 C.1.2.1 dL_machine_688 rfl (lv_at hl 0 rfl) ?_
  refine fl_iconst C.1 dL_machine_689 ?_
  refine fl_icmp_eq (tgt := 699) C.1 (rgk 7 rfl) (rgk 4 rfl) dL_machine_690 (by decide) (fun h => absurd h (by decide)) (fun _ => ?_)
  refine lv_iload_n C.1.1 C.1.2.1 dL_machine_693 rfl (lv_at hl 0 rfl) ?_
  refine fl_bipush C.1 dL_machine_694 (by decide) ?_
  refine fl_icmp_ne (tgt := 703) C.1 (rgk 7 rfl) (rgk 6 rfl) dL_machine_696 (by decide) (fun _ => ?_) (fun h => absurd h (by decide))
  refine fl_iconst C.1 dL_machine_703 ?_
  refine lv_istore_n (lv' := [(2, iv 0), (1, iv 7), (0, .ref x)]) C.1.1 C.1.2.1 dL_machine_704 rfl hl (by decide) rfl (fun ls hl => ?_)
  refine lv_aload_n C.1.1 C.1.2.1 dL_machine_705 rfl (lv_at hl 2 rfl) ?_
  refine lv_iload_n C.1.1 C.1.2.1 dL_machine_706 rfl (lv_at hl 1 rfl) ?_
  refine fl_iconst C.1 dL_machine_707 ?_
  refine j_code hst C (by exact ⟨(Nat.le_of_ble_eq_true rfl), (Nat.le_of_ble_eq_true rfl)⟩) hI hl.1 (rgk 7 rfl) (rgk 0 rfl) mSf91 (Nat.le_of_ble_eq_true rfl) ⟨(Nat.le_of_ble_eq_true rfl), (Nat.le_of_ble_eq_true rfl)⟩ dL_machine_708 (fun H locs hI _ => ?_)
  refine fl_iconst C.1 dL_machine_711 ?_
  refine fl_icmp_ne (tgt := 813) C.1 (rgk 1 rfl) (rgk 1 rfl) dL_machine_712 (by decide) (fun h => absurd rfl h) (fun _ => ?_)
  refine lv_iload_n C.1.1 C.1.2.1 dL_machine_715 rfl (lv_at hl 1 rfl) ?_
  refine fl_bipush C.1 dL_machine_716 (by decide) ?_
  refine fl_icmp_eq (tgt := 735) C.1 (rgk 7 rfl) (rgk 8 rfl) dL_machine_718 (by decide) (fun h => absurd h (by decide)) (fun _ => ?_)
  refine lv_aload_n C.1.1 C.1.2.1 dL_machine_721 rfl (lv_at hl 2 rfl) ?_
  refine fl_bipush C.1 dL_machine_722 (by decide) ?_
  refine fl_iconst C.1 dL_machine_724 ?_
  refine fl_iconst C.1 dL_machine_725 ?_
  refine fl_iconst C.1 dL_machine_726 ?_
  refine fl_iconst C.1 dL_machine_727 ?_
  refine fl_iconst C.1 dL_machine_728 ?_
  refine k_qruns hst C ⟨(Nat.le_of_ble_eq_true rfl), (Nat.le_of_ble_eq_true rfl)⟩ hI hl.1 (rgk 9 rfl) (rgk 4 rfl) (rgk 1 rfl) (rgk 0 rfl) (rgk 0 rfl) (rgk 0 rfl) mSf92 (Nat.le_of_ble_eq_true rfl) ⟨(Nat.le_of_ble_eq_true rfl), (Nat.le_of_ble_eq_true rfl)⟩ dL_machine_729 (fun H locs hI _ => ?_)
  refine fl_if_eq (tgt := 813) C.1 (rgk 1 rfl) dL_machine_732 (by decide) (fun h => absurd h (by decide)) (fun _ => ?_)
  refine lv_aload_n C.1.1 C.1.2.1 dL_machine_735 rfl (lv_at hl 2 rfl) ?_
  refine j_clear C (by exact ⟨(Nat.le_of_ble_eq_true rfl), (Nat.le_of_ble_eq_true rfl)⟩) hI hl.1 mSf93 (Nat.le_of_ble_eq_true rfl) ⟨(Nat.le_of_ble_eq_true rfl), (Nat.le_of_ble_eq_true rfl)⟩ dL_machine_736 (fun H locs hI _ => ?_)
  refine fl_iconst C.1 dL_machine_739 ?_
  refine fl_icmp_ne (tgt := 813) C.1 (rgk 1 rfl) (rgk 1 rfl) dL_machine_740 (by decide) (fun h => absurd rfl h) (fun _ => ?_)
  refine lv_aload_n C.1.1 C.1.2.1 dL_machine_743 rfl (lv_at hl 2 rfl) ?_
  refine fl_iconst C.1 dL_machine_744 ?_
  refine fl_iconst C.1 dL_machine_745 ?_
  refine j_code hst C (by exact ⟨(Nat.le_of_ble_eq_true rfl), (Nat.le_of_ble_eq_true rfl)⟩) hI hl.1 (rgk 1 rfl) (rgk 2 rfl) mSf94 (Nat.le_of_ble_eq_true rfl) ⟨(Nat.le_of_ble_eq_true rfl), (Nat.le_of_ble_eq_true rfl)⟩ dL_machine_746 (fun H locs hI _ => ?_)
  refine fl_iconst C.1 dL_machine_749 ?_
  refine fl_icmp_ne (tgt := 813) C.1 (rgk 1 rfl) (rgk 1 rfl) dL_machine_750 (by decide) (fun h => absurd rfl h) (fun _ => ?_)
  refine lv_aload_n C.1.1 C.1.2.1 dL_machine_753 rfl (lv_at hl 2 rfl) ?_
  refine lv_iload_n C.1.1 C.1.2.1 dL_machine_754 rfl (lv_at hl 1 rfl) ?_
  refine fl_iconst C.1 dL_machine_755 ?_
  refine j_code hst C (by exact ⟨(Nat.le_of_ble_eq_true rfl), (Nat.le_of_ble_eq_true rfl)⟩) hI hl.1 (rgk 7 rfl) (rgk 2 rfl) mSf95 (Nat.le_of_ble_eq_true rfl) ⟨(Nat.le_of_ble_eq_true rfl), (Nat.le_of_ble_eq_true rfl)⟩ dL_machine_756 (fun H locs hI _ => ?_)
  refine fl_iconst C.1 dL_machine_759 ?_
  refine fl_icmp_ne (tgt := 813) C.1 (rgk 2 rfl) (rgk 2 rfl) dL_machine_760 (by decide) (fun h => absurd rfl h) (fun _ => ?_)
  refine lv_aload_n C.1.1 C.1.2.1 dL_machine_763 rfl (lv_at hl 2 rfl) ?_
  refine fl_bipush C.1 dL_machine_764 (by decide) ?_
  refine lv_iload_n C.1.1 C.1.2.1 dL_machine_766 rfl (lv_at hl 0 rfl) ?_
  refine fl_if_eq (tgt := 774) C.1 (rgk 0 rfl) dL_machine_767 (by decide) (fun _ => ?_) (fun h => absurd (by decide) h)
  refine fl_iconst C.1 dL_machine_774 ?_
  refine fl_iconst C.1 dL_machine_775 ?_
  refine lv_iload_n C.1.1 C.1.2.1 dL_machine_776 rfl (lv_at hl 1 rfl) ?_
  refine fl_bipush C.1 dL_machine_777 (by decide) ?_
  refine fl_icmp_ne (tgt := 786) C.1 (rgk 7 rfl) (rgk 9 rfl) dL_machine_779 (by decide) (fun _ => ?_) (fun h => absurd h (by decide))
  refine fl_iconst C.1 dL_machine_786 ?_
  refine lv_iload_n C.1.1 C.1.2.1 dL_machine_787 rfl (lv_at hl 1 rfl) ?_
  refine fl_bipush C.1 dL_machine_788 (by decide) ?_
  refine fl_icmp_ne (tgt := 797) C.1 (rgk 7 rfl) (rgk 9 rfl) dL_machine_790 (by decide) (fun _ => ?_) (fun h => absurd h (by decide))
  refine fl_iconst C.1 dL_machine_797 ?_
  refine fl_iconst C.1 dL_machine_798 ?_
  refine k_qruns hst C ⟨(Nat.le_of_ble_eq_true rfl), (Nat.le_of_ble_eq_true rfl)⟩ hI hl.1 (rgk 9 rfl) (rgk 0 rfl) (rgk 2 rfl) (rgk 0 rfl) (rgk 0 rfl) (rgk 0 rfl) mSf96 (Nat.le_of_ble_eq_true rfl) ⟨(Nat.le_of_ble_eq_true rfl), (Nat.le_of_ble_eq_true rfl)⟩ dL_machine_799 (fun H locs hI _ => ?_)
  refine fl_if_eq (tgt := 813) C.1 (rgk 1 rfl) dL_machine_802 (by decide) (fun h => absurd h (by decide)) (fun _ => ?_)
  exact W.widen (Nat.le_of_ble_eq_true rfl) (Nat.le_of_ble_eq_true rfl) (kk H locs ls hI hl)
set_option maxRecDepth 100000 in
set_option maxHeartbeats 4000000 in
theorem w_machine_4 (hst : l.stackTraces = false) (C : LC p s m meth c D cy B cL_machine 3) (kk : ∀ (H : Heap) (locs : List Loc) (ls : Array Slot), HI D cy B s.heap H locs x mS83 → lv_has ls 3 [(1, iv 2), (2, iv 0), (0, .ref x)] → W p l e rm_L_machine s m args below meth c H locs 712 14463 Q (F0 m 915 ls [])) : ∀ (H : Heap) (locs : List Loc) (ls : Array Slot), HI D cy B s.heap H locs x mS63 → lv_has ls 3 [(2, iv 0), (1, iv 7), (0, .ref x)] → W p l e rm_L_machine s m args below meth c H locs 582 3648 Q (F0 m 805 ls []) := by
  intro H locs ls hI hl
  refine lv_aload_n C.1.1 C.1.2.1 dL_machine_805 rfl (lv_at hl 2 rfl) ?_
  refine j_clear C (by exact ⟨(Nat.le_of_ble_eq_true rfl), (Nat.le_of_ble_eq_true rfl)⟩) hI hl.1 mSf97 (Nat.le_of_ble_eq_true rfl) ⟨(Nat.le_of_ble_eq_true rfl), (Nat.le_of_ble_eq_true rfl)⟩ dL_machine_806 (fun H locs hI _ => ?_)
  refine fl_iconst C.1 dL_machine_809 ?_
  refine fl_icmp_eq (tgt := 815) C.1 (rgk 2 rfl) (rgk 2 rfl) dL_machine_810 (by decide) (fun _ => ?_) (fun h => absurd (by decide) h)
  refine fl_iinc (k := 1) (lv' := [(1, iv (wr (7 + 1))), (2, iv 0), (0, .ref x)]) C.1 dL_machine_815 hl rfl (by decide) rfl (fun ls hl => ?_)
  rw [show wr (7 + 1) = (8 : Int) from by decide +kernel] at hl
  refine fl_goto (tgt := 672) C.1 dL_machine_818 (by decide) ?_
  refine lv_iload_n C.1.1 C.1.2.1 dL_machine_672 rfl (lv_at hl 0 rfl) ?_
  refine fl_bipush C.1 dL_machine_673 (by decide) ?_
  refine fl_icmp_ge (tgt := 821) C.1 (rgk 8 rfl) (rgk 10 rfl) dL_machine_675 (by decide) (fun h => absurd h (by decide)) (fun _ => ?_)
  refine lv_iload_n C.1.1 C.1.2.1 dL_machine_678 rfl (lv_at hl 0 rfl) ?_
  refine fl_iconst C.1 dL_machine_679 ?_
  refine fl_icmp_eq (tgt := 699) C.1 (rgk 8 rfl) (rgk 2 rfl) dL_machine_680 (by decide) (fun h => absurd h (by decide)) (fun _ => ?_)
  refine lv_iload_n C.1.1 C.1.2.1 dL_machine_683 rfl (lv_at hl 0 rfl) ?_
  refine fl_iconst C.1 dL_machine_684 ?_
  refine fl_icmp_eq (tgt := 699) C.1 (rgk 8 rfl) (rgk 3 rfl) dL_machine_685 (by decide) (fun h => absurd h (by decide)) (fun _ => ?_)
  refine lv_iload_n C.1.1 C.1.2.1 dL_machine_688 rfl (lv_at hl 0 rfl) ?_
  refine fl_iconst C.1 dL_machine_689 ?_
  refine fl_icmp_eq (tgt := 699) C.1 (rgk 8 rfl) (rgk 4 rfl) dL_machine_690 (by decide) (fun h => absurd h (by decide)) (fun _ => ?_)
  refine lv_iload_n C.1.1 C.1.2.1 dL_machine_693 rfl (lv_at hl 0 rfl) ?_
  refine fl_bipush C.1 dL_machine_694 (by decide) ?_
  refine fl_icmp_ne (tgt := 703) C.1 (rgk 8 rfl) (rgk 6 rfl) dL_machine_696 (by decide) (fun _ => ?_) (fun h => absurd h (by decide))
  refine fl_iconst C.1 dL_machine_703 ?_
  refine lv_istore_n (lv' := [(2, iv 0), (1, iv 8), (0, .ref x)]) C.1.1 C.1.2.1 dL_machine_704 rfl hl (by decide) rfl (fun ls hl => ?_)
  refine lv_aload_n C.1.1 C.1.2.1 dL_machine_705 rfl (lv_at hl 2 rfl) ?_
  refine lv_iload_n C.1.1 C.1.2.1 dL_machine_706 rfl (lv_at hl 1 rfl) ?_
  refine fl_iconst C.1 dL_machine_707 ?_
  refine j_code hst C (by exact ⟨(Nat.le_of_ble_eq_true rfl), (Nat.le_of_ble_eq_true rfl)⟩) hI hl.1 (rgk 8 rfl) (rgk 0 rfl) mSf98 (Nat.le_of_ble_eq_true rfl) ⟨(Nat.le_of_ble_eq_true rfl), (Nat.le_of_ble_eq_true rfl)⟩ dL_machine_708 (fun H locs hI _ => ?_)
  refine fl_iconst C.1 dL_machine_711 ?_
  refine fl_icmp_ne (tgt := 813) C.1 (rgk 1 rfl) (rgk 1 rfl) dL_machine_712 (by decide) (fun h => absurd rfl h) (fun _ => ?_)
  refine lv_iload_n C.1.1 C.1.2.1 dL_machine_715 rfl (lv_at hl 1 rfl) ?_
  refine fl_bipush C.1 dL_machine_716 (by decide) ?_
  refine fl_icmp_eq (tgt := 735) C.1 (rgk 8 rfl) (rgk 8 rfl) dL_machine_718 (by decide) (fun _ => ?_) (fun h => absurd (by decide) h)
  refine lv_aload_n C.1.1 C.1.2.1 dL_machine_735 rfl (lv_at hl 2 rfl) ?_
  refine j_clear C (by exact ⟨(Nat.le_of_ble_eq_true rfl), (Nat.le_of_ble_eq_true rfl)⟩) hI hl.1 mSf99 (Nat.le_of_ble_eq_true rfl) ⟨(Nat.le_of_ble_eq_true rfl), (Nat.le_of_ble_eq_true rfl)⟩ dL_machine_736 (fun H locs hI _ => ?_)
  refine fl_iconst C.1 dL_machine_739 ?_
  refine fl_icmp_ne (tgt := 813) C.1 (rgk 1 rfl) (rgk 1 rfl) dL_machine_740 (by decide) (fun h => absurd rfl h) (fun _ => ?_)
  refine lv_aload_n C.1.1 C.1.2.1 dL_machine_743 rfl (lv_at hl 2 rfl) ?_
  refine fl_iconst C.1 dL_machine_744 ?_
  refine fl_iconst C.1 dL_machine_745 ?_
  refine j_code hst C (by exact ⟨(Nat.le_of_ble_eq_true rfl), (Nat.le_of_ble_eq_true rfl)⟩) hI hl.1 (rgk 1 rfl) (rgk 2 rfl) mSf100 (Nat.le_of_ble_eq_true rfl) ⟨(Nat.le_of_ble_eq_true rfl), (Nat.le_of_ble_eq_true rfl)⟩ dL_machine_746 (fun H locs hI _ => ?_)
  refine fl_iconst C.1 dL_machine_749 ?_
  refine fl_icmp_ne (tgt := 813) C.1 (rgk 1 rfl) (rgk 1 rfl) dL_machine_750 (by decide) (fun h => absurd rfl h) (fun _ => ?_)
  refine lv_aload_n C.1.1 C.1.2.1 dL_machine_753 rfl (lv_at hl 2 rfl) ?_
  refine lv_iload_n C.1.1 C.1.2.1 dL_machine_754 rfl (lv_at hl 1 rfl) ?_
  refine fl_iconst C.1 dL_machine_755 ?_
  refine j_code hst C (by exact ⟨(Nat.le_of_ble_eq_true rfl), (Nat.le_of_ble_eq_true rfl)⟩) hI hl.1 (rgk 8 rfl) (rgk 2 rfl) mSf101 (Nat.le_of_ble_eq_true rfl) ⟨(Nat.le_of_ble_eq_true rfl), (Nat.le_of_ble_eq_true rfl)⟩ dL_machine_756 (fun H locs hI _ => ?_)
  refine fl_iconst C.1 dL_machine_759 ?_
  refine fl_icmp_ne (tgt := 813) C.1 (rgk 2 rfl) (rgk 2 rfl) dL_machine_760 (by decide) (fun h => absurd rfl h) (fun _ => ?_)
  refine lv_aload_n C.1.1 C.1.2.1 dL_machine_763 rfl (lv_at hl 2 rfl) ?_
  refine fl_bipush C.1 dL_machine_764 (by decide) ?_
  refine lv_iload_n C.1.1 C.1.2.1 dL_machine_766 rfl (lv_at hl 0 rfl) ?_
  refine fl_if_eq (tgt := 774) C.1 (rgk 0 rfl) dL_machine_767 (by decide) (fun _ => ?_) (fun h => absurd (by decide) h)
  refine fl_iconst C.1 dL_machine_774 ?_
  refine fl_iconst C.1 dL_machine_775 ?_
  refine lv_iload_n C.1.1 C.1.2.1 dL_machine_776 rfl (lv_at hl 1 rfl) ?_
  refine fl_bipush C.1 dL_machine_777 (by decide) ?_
  refine fl_icmp_ne (tgt := 786) C.1 (rgk 8 rfl) (rgk 9 rfl) dL_machine_779 (by decide) (fun _ => ?_) (fun h => absurd h (by decide))
  refine fl_iconst C.1 dL_machine_786 ?_
  refine lv_iload_n C.1.1 C.1.2.1 dL_machine_787 rfl (lv_at hl 1 rfl) ?_
  refine fl_bipush C.1 dL_machine_788 (by decide) ?_
  refine fl_icmp_ne (tgt := 797) C.1 (rgk 8 rfl) (rgk 9 rfl) dL_machine_790 (by decide) (fun _ => ?_) (fun h => absurd h (by decide))
  refine fl_iconst C.1 dL_machine_797 ?_
  refine fl_iconst C.1 dL_machine_798 ?_
  refine k_qruns hst C ⟨(Nat.le_of_ble_eq_true rfl), (Nat.le_of_ble_eq_true rfl)⟩ hI hl.1 (rgk 9 rfl) (rgk 0 rfl) (rgk 2 rfl) (rgk 0 rfl) (rgk 0 rfl) (rgk 0 rfl) mSf102 (Nat.le_of_ble_eq_true rfl) ⟨(Nat.le_of_ble_eq_true rfl), (Nat.le_of_ble_eq_true rfl)⟩ dL_machine_799 (fun H locs hI _ => ?_)
  refine fl_if_eq (tgt := 813) C.1 (rgk 1 rfl) dL_machine_802 (by decide) (fun h => absurd h (by decide)) (fun _ => ?_)
  refine lv_aload_n C.1.1 C.1.2.1 dL_machine_805 rfl (lv_at hl 2 rfl) ?_
  refine j_clear C (by exact ⟨(Nat.le_of_ble_eq_true rfl), (Nat.le_of_ble_eq_true rfl)⟩) hI hl.1 mSf103 (Nat.le_of_ble_eq_true rfl) ⟨(Nat.le_of_ble_eq_true rfl), (Nat.le_of_ble_eq_true rfl)⟩ dL_machine_806 (fun H locs hI _ => ?_)
  refine fl_iconst C.1 dL_machine_809 ?_
  refine fl_icmp_eq (tgt := 815) C.1 (rgk 2 rfl) (rgk 2 rfl) dL_machine_810 (by decide) (fun _ => ?_) (fun h => absurd (by decide) h)
  refine fl_iinc (k := 1) (lv' := [(1, iv (wr (8 + 1))), (2, iv 0), (0, .ref x)]) C.1 dL_machine_815 hl rfl (by decide) rfl (fun ls hl => ?_)
  rw [show wr (8 + 1) = (9 : Int) from by decide +kernel] at hl
  refine fl_goto (tgt := 672) C.1 dL_machine_818 (by decide) ?_
  refine lv_iload_n C.1.1 C.1.2.1 dL_machine_672 rfl (lv_at hl 0 rfl) ?_
  refine fl_bipush C.1 dL_machine_673 (by decide) ?_
  refine fl_icmp_ge (tgt := 821) C.1 (rgk 9 rfl) (rgk 10 rfl) dL_machine_675 (by decide) (fun h => absurd h (by decide)) (fun _ => ?_)
  refine lv_iload_n C.1.1 C.1.2.1 dL_machine_678 rfl (lv_at hl 0 rfl) ?_
  refine fl_iconst C.1 dL_machine_679 ?_
  refine fl_icmp_eq (tgt := 699) C.1 (rgk 9 rfl) (rgk 2 rfl) dL_machine_680 (by decide) (fun h => absurd h (by decide)) (fun _ => ?_)
  refine lv_iload_n C.1.1 C.1.2.1 dL_machine_683 rfl (lv_at hl 0 rfl) ?_
  refine fl_iconst C.1 dL_machine_684 ?_
  refine fl_icmp_eq (tgt := 699) C.1 (rgk 9 rfl) (rgk 3 rfl) dL_machine_685 (by decide) (fun h => absurd h (by decide)) (fun _ => ?_)
  refine lv_iload_n C.1.1 C.1.2.1 dL_machine_688 rfl (lv_at hl 0 rfl) ?_
  refine fl_iconst C.1 dL_machine_689 ?_
  refine fl_icmp_eq (tgt := 699) C.1 (rgk 9 rfl) (rgk 4 rfl) dL_machine_690 (by decide) (fun h => absurd h (by decide)) (fun _ => ?_)
  refine lv_iload_n C.1.1 C.1.2.1 dL_machine_693 rfl (lv_at hl 0 rfl) ?_
  refine fl_bipush C.1 dL_machine_694 (by decide) ?_
  refine fl_icmp_ne (tgt := 703) C.1 (rgk 9 rfl) (rgk 6 rfl) dL_machine_696 (by decide) (fun _ => ?_) (fun h => absurd h (by decide))
  refine fl_iconst C.1 dL_machine_703 ?_
  refine lv_istore_n (lv' := [(2, iv 0), (1, iv 9), (0, .ref x)]) C.1.1 C.1.2.1 dL_machine_704 rfl hl (by decide) rfl (fun ls hl => ?_)
  refine lv_aload_n C.1.1 C.1.2.1 dL_machine_705 rfl (lv_at hl 2 rfl) ?_
  refine lv_iload_n C.1.1 C.1.2.1 dL_machine_706 rfl (lv_at hl 1 rfl) ?_
  refine fl_iconst C.1 dL_machine_707 ?_
  refine j_code hst C (by exact ⟨(Nat.le_of_ble_eq_true rfl), (Nat.le_of_ble_eq_true rfl)⟩) hI hl.1 (rgk 9 rfl) (rgk 0 rfl) mSf104 (Nat.le_of_ble_eq_true rfl) ⟨(Nat.le_of_ble_eq_true rfl), (Nat.le_of_ble_eq_true rfl)⟩ dL_machine_708 (fun H locs hI _ => ?_)
  refine fl_iconst C.1 dL_machine_711 ?_
  refine fl_icmp_ne (tgt := 813) C.1 (rgk 1 rfl) (rgk 1 rfl) dL_machine_712 (by decide) (fun h => absurd rfl h) (fun _ => ?_)
  refine lv_iload_n C.1.1 C.1.2.1 dL_machine_715 rfl (lv_at hl 1 rfl) ?_
  refine fl_bipush C.1 dL_machine_716 (by decide) ?_
  refine fl_icmp_eq (tgt := 735) C.1 (rgk 9 rfl) (rgk 8 rfl) dL_machine_718 (by decide) (fun h => absurd h (by decide)) (fun _ => ?_)
  refine lv_aload_n C.1.1 C.1.2.1 dL_machine_721 rfl (lv_at hl 2 rfl) ?_
  refine fl_bipush C.1 dL_machine_722 (by decide) ?_
  refine fl_iconst C.1 dL_machine_724 ?_
  refine fl_iconst C.1 dL_machine_725 ?_
  refine fl_iconst C.1 dL_machine_726 ?_
  refine fl_iconst C.1 dL_machine_727 ?_
  refine fl_iconst C.1 dL_machine_728 ?_
  refine k_qruns hst C ⟨(Nat.le_of_ble_eq_true rfl), (Nat.le_of_ble_eq_true rfl)⟩ hI hl.1 (rgk 9 rfl) (rgk 4 rfl) (rgk 1 rfl) (rgk 0 rfl) (rgk 0 rfl) (rgk 0 rfl) mSf105 (Nat.le_of_ble_eq_true rfl) ⟨(Nat.le_of_ble_eq_true rfl), (Nat.le_of_ble_eq_true rfl)⟩ dL_machine_729 (fun H locs hI _ => ?_)
  refine fl_if_eq (tgt := 813) C.1 (rgk 1 rfl) dL_machine_732 (by decide) (fun h => absurd h (by decide)) (fun _ => ?_)
  refine lv_aload_n C.1.1 C.1.2.1 dL_machine_735 rfl (lv_at hl 2 rfl) ?_
  refine j_clear C (by exact ⟨(Nat.le_of_ble_eq_true rfl), (Nat.le_of_ble_eq_true rfl)⟩) hI hl.1 mSf106 (Nat.le_of_ble_eq_true rfl) ⟨(Nat.le_of_ble_eq_true rfl), (Nat.le_of_ble_eq_true rfl)⟩ dL_machine_736 (fun H locs hI _ => ?_)
  refine fl_iconst C.1 dL_machine_739 ?_
  refine fl_icmp_ne (tgt := 813) C.1 (rgk 1 rfl) (rgk 1 rfl) dL_machine_740 (by decide) (fun h => absurd rfl h) (fun _ => ?_)
  refine lv_aload_n C.1.1 C.1.2.1 dL_machine_743 rfl (lv_at hl 2 rfl) ?_
  refine fl_iconst C.1 dL_machine_744 ?_
  refine fl_iconst C.1 dL_machine_745 ?_
  refine j_code hst C (by exact ⟨(Nat.le_of_ble_eq_true rfl), (Nat.le_of_ble_eq_true rfl)⟩) hI hl.1 (rgk 1 rfl) (rgk 2 rfl) mSf107 (Nat.le_of_ble_eq_true rfl) ⟨(Nat.le_of_ble_eq_true rfl), (Nat.le_of_ble_eq_true rfl)⟩ dL_machine_746 (fun H locs hI _ => ?_)
  refine fl_iconst C.1 dL_machine_749 ?_
  refine fl_icmp_ne (tgt := 813) C.1 (rgk 1 rfl) (rgk 1 rfl) dL_machine_750 (by decide) (fun h => absurd rfl h) (fun _ => ?_)
  refine lv_aload_n C.1.1 C.1.2.1 dL_machine_753 rfl (lv_at hl 2 rfl) ?_
  refine lv_iload_n C.1.1 C.1.2.1 dL_machine_754 rfl (lv_at hl 1 rfl) ?_
  refine fl_iconst C.1 dL_machine_755 ?_
  refine j_code hst C (by exact ⟨(Nat.le_of_ble_eq_true rfl), (Nat.le_of_ble_eq_true rfl)⟩) hI hl.1 (rgk 9 rfl) (rgk 2 rfl) mSf108 (Nat.le_of_ble_eq_true rfl) ⟨(Nat.le_of_ble_eq_true rfl), (Nat.le_of_ble_eq_true rfl)⟩ dL_machine_756 (fun H locs hI _ => ?_)
  refine fl_iconst C.1 dL_machine_759 ?_
  refine fl_icmp_ne (tgt := 813) C.1 (rgk 2 rfl) (rgk 2 rfl) dL_machine_760 (by decide) (fun h => absurd rfl h) (fun _ => ?_)
  refine lv_aload_n C.1.1 C.1.2.1 dL_machine_763 rfl (lv_at hl 2 rfl) ?_
  refine fl_bipush C.1 dL_machine_764 (by decide) ?_
  refine lv_iload_n C.1.1 C.1.2.1 dL_machine_766 rfl (lv_at hl 0 rfl) ?_
  refine fl_if_eq (tgt := 774) C.1 (rgk 0 rfl) dL_machine_767 (by decide) (fun _ => ?_) (fun h => absurd (by decide) h)
  refine fl_iconst C.1 dL_machine_774 ?_
  refine fl_iconst C.1 dL_machine_775 ?_
  refine lv_iload_n C.1.1 C.1.2.1 dL_machine_776 rfl (lv_at hl 1 rfl) ?_
  refine fl_bipush C.1 dL_machine_777 (by decide) ?_
  refine fl_icmp_ne (tgt := 786) C.1 (rgk 9 rfl) (rgk 9 rfl) dL_machine_779 (by decide) (fun h => absurd rfl h) (fun _ => ?_)
  refine fl_iconst C.1 dL_machine_782 ?_
  refine fl_goto (tgt := 787) C.1 dL_machine_783 (by decide) ?_
  refine lv_iload_n C.1.1 C.1.2.1 dL_machine_787 rfl (lv_at hl 1 rfl) ?_
  refine fl_bipush C.1 dL_machine_788 (by decide) ?_
  refine fl_icmp_ne (tgt := 797) C.1 (rgk 9 rfl) (rgk 9 rfl) dL_machine_790 (by decide) (fun h => absurd rfl h) (fun _ => ?_)
  refine fl_iconst C.1 dL_machine_793 ?_
  refine fl_goto (tgt := 798) C.1 dL_machine_794 (by decide) ?_
  refine fl_iconst C.1 dL_machine_798 ?_
  refine k_qruns hst C ⟨(Nat.le_of_ble_eq_true rfl), (Nat.le_of_ble_eq_true rfl)⟩ hI hl.1 (rgk 9 rfl) (rgk 0 rfl) (rgk 2 rfl) (rgk 1 rfl) (rgk 2 rfl) (rgk 0 rfl) mSf109 (Nat.le_of_ble_eq_true rfl) ⟨(Nat.le_of_ble_eq_true rfl), (Nat.le_of_ble_eq_true rfl)⟩ dL_machine_799 (fun H locs hI _ => ?_)
  refine fl_if_eq (tgt := 813) C.1 (rgk 1 rfl) dL_machine_802 (by decide) (fun h => absurd h (by decide)) (fun _ => ?_)
  refine lv_aload_n C.1.1 C.1.2.1 dL_machine_805 rfl (lv_at hl 2 rfl) ?_
  refine j_clear C (by exact ⟨(Nat.le_of_ble_eq_true rfl), (Nat.le_of_ble_eq_true rfl)⟩) hI hl.1 mSf110 (Nat.le_of_ble_eq_true rfl) ⟨(Nat.le_of_ble_eq_true rfl), (Nat.le_of_ble_eq_true rfl)⟩ dL_machine_806 (fun H locs hI _ => ?_)
  refine fl_iconst C.1 dL_machine_809 ?_
  refine fl_icmp_eq (tgt := 815) C.1 (rgk 2 rfl) (rgk 2 rfl) dL_machine_810 (by decide) (fun _ => ?_) (fun h => absurd (by decide) h)
  refine fl_iinc (k := 1) (lv' := [(1, iv (wr (9 + 1))), (2, iv 0), (0, .ref x)]) C.1 dL_machine_815 hl rfl (by decide) rfl (fun ls hl => ?_)
  rw [show wr (9 + 1) = (10 : Int) from by decide +kernel] at hl
  refine fl_goto (tgt := 672) C.1 dL_machine_818 (by decide) ?_
  refine lv_iload_n C.1.1 C.1.2.1 dL_machine_672 rfl (lv_at hl 0 rfl) ?_
  refine fl_bipush C.1 dL_machine_673 (by decide) ?_
  refine fl_icmp_ge (tgt := 821) C.1 (rgk 10 rfl) (rgk 10 rfl) dL_machine_675 (by decide) (fun _ => ?_) (fun h => absurd (by decide) h)
  refine lv_aload_n C.1.1 C.1.2.1 dL_machine_821 rfl (lv_at hl 2 rfl) ?_
  refine fl_iconst C.1 dL_machine_822 ?_
  refine fl_bipush C.1 dL_machine_823 (by decide) ?_
  refine j_code hst C (by exact ⟨(Nat.le_of_ble_eq_true rfl), (Nat.le_of_ble_eq_true rfl)⟩) hI hl.1 (rgk 1 rfl) (rgk 9 rfl) mSf111 (Nat.le_of_ble_eq_true rfl) ⟨(Nat.le_of_ble_eq_true rfl), (Nat.le_of_ble_eq_true rfl)⟩ dL_machine_825 (fun H locs hI _ => ?_)
  refine fl_iconst C.1 dL_machine_828 ?_
  refine fl_icmp_ne (tgt := 877) C.1 (rgk 1 rfl) (rgk 1 rfl) dL_machine_829 (by decide) (fun h => absurd rfl h) (fun _ => ?_)
  refine lv_aload_n C.1.1 C.1.2.1 dL_machine_832 rfl (lv_at hl 2 rfl) ?_
  refine fl_iconst C.1 dL_machine_833 ?_
  refine fl_iconst C.1 dL_machine_834 ?_
  refine j_code hst C (by exact ⟨(Nat.le_of_ble_eq_true rfl), (Nat.le_of_ble_eq_true rfl)⟩) hI hl.1 (rgk 1 rfl) (rgk 4 rfl) mSf112 (Nat.le_of_ble_eq_true rfl) ⟨(Nat.le_of_ble_eq_true rfl), (Nat.le_of_ble_eq_true rfl)⟩ dL_machine_835 (fun H locs hI _ => ?_)
  refine fl_iconst C.1 dL_machine_838 ?_
  refine fl_icmp_ne (tgt := 877) C.1 (rgk 2 rfl) (rgk 2 rfl) dL_machine_839 (by decide) (fun h => absurd rfl h) (fun _ => ?_)
  refine lv_aload_n C.1.1 C.1.2.1 dL_machine_842 rfl (lv_at hl 2 rfl) ?_
  refine fl_sipush C.1 dL_machine_843 (by decide) ?_
  refine fl_iconst C.1 dL_machine_846 ?_
  refine k_qcodes (N := 3) hst C ⟨(Nat.le_of_ble_eq_true rfl), (Nat.le_of_ble_eq_true rfl)⟩ hI hl.1 rfl (Nat.le_of_ble_eq_true rfl) (by decide) mSf113 (Nat.le_of_ble_eq_true rfl) ⟨(Nat.le_of_ble_eq_true rfl), (Nat.le_of_ble_eq_true rfl)⟩ dL_machine_847 (fun H locs hI _ => ?_)
  refine fl_iconst C.1 dL_machine_850 ?_
  refine fl_icmp_ne (tgt := 877) C.1 (rgk 5 rfl) (rgk 5 rfl) dL_machine_851 (by decide) (fun h => absurd rfl h) (fun _ => ?_)
  refine lv_aload_n C.1.1 C.1.2.1 dL_machine_854 rfl (lv_at hl 2 rfl) ?_
  refine fl_bipush C.1 dL_machine_855 (by decide) ?_
  refine fl_iconst C.1 dL_machine_857 ?_
  refine fl_iconst C.1 dL_machine_858 ?_
  refine fl_iconst C.1 dL_machine_859 ?_
  refine fl_bipush C.1 dL_machine_860 (by decide) ?_
  refine fl_iconst C.1 dL_machine_862 ?_
  refine k_qruns hst C ⟨(Nat.le_of_ble_eq_true rfl), (Nat.le_of_ble_eq_true rfl)⟩ hI hl.1 (rgk 9 rfl) (rgk 0 rfl) (rgk 5 rfl) (rgk 1 rfl) (rgk (-5) rfl) (rgk 0 rfl) mSf114 (Nat.le_of_ble_eq_true rfl) ⟨(Nat.le_of_ble_eq_true rfl), (Nat.le_of_ble_eq_true rfl)⟩ dL_machine_863 (fun H locs hI _ => ?_)
  refine fl_if_eq (tgt := 877) C.1 (rgk 1 rfl) dL_machine_866 (by decide) (fun h => absurd h (by decide)) (fun _ => ?_)
  refine lv_aload_n C.1.1 C.1.2.1 dL_machine_869 rfl (lv_at hl 2 rfl) ?_
  refine j_clear C (by exact ⟨(Nat.le_of_ble_eq_true rfl), (Nat.le_of_ble_eq_true rfl)⟩) hI hl.1 mSf115 (Nat.le_of_ble_eq_true rfl) ⟨(Nat.le_of_ble_eq_true rfl), (Nat.le_of_ble_eq_true rfl)⟩ dL_machine_870 (fun H locs hI _ => ?_)
  refine fl_iconst C.1 dL_machine_873 ?_
  refine fl_icmp_eq (tgt := 879) C.1 (rgk 5 rfl) (rgk 5 rfl) dL_machine_874 (by decide) (fun _ => ?_) (fun h => absurd (by decide) h)
  refine fl_iconst C.1 dL_machine_879 ?_
  refine lv_istore_n (lv' := [(1, iv 0), (2, iv 0), (0, .ref x)]) C.1.1 C.1.2.1 dL_machine_880 rfl hl (by decide) rfl (fun ls hl => ?_)
  refine lv_iload_n C.1.1 C.1.2.1 dL_machine_881 rfl (lv_at hl 0 rfl) ?_
  refine fl_bipush C.1 dL_machine_882 (by decide) ?_
  refine fl_icmp_ge (tgt := 950) C.1 (rgk 0 rfl) (rgk 17 rfl) dL_machine_884 (by decide) (fun h => absurd h (by decide)) (fun _ => ?_)
  refine lv_aload_n C.1.1 C.1.2.1 dL_machine_887 rfl (lv_at hl 2 rfl) ?_
  refine fl_iconst C.1 dL_machine_888 ?_
  refine fl_bipush C.1 dL_machine_889 (by decide) ?_
  refine lv_iload_n C.1.1 C.1.2.1 dL_machine_891 rfl (lv_at hl 0 rfl) ?_
  refine fl_iconst C.1 dL_machine_892 ?_
  refine h_iadd (z := 1) C.1 (by decide +kernel) dL_machine_893 ?_
  refine fl_iconst C.1 dL_machine_894 ?_
  refine k_act hst C ⟨(Nat.le_of_ble_eq_true rfl), (Nat.le_of_ble_eq_true rfl)⟩ hI hl.1 (rgk 0 rfl) (rgk 8 rfl) (rgk 1 rfl) (rgk 0 rfl) mSf116 (Nat.le_of_ble_eq_true rfl) ⟨(Nat.le_of_ble_eq_true rfl), (Nat.le_of_ble_eq_true rfl)⟩ dL_machine_895 (fun H locs hI _ => ?_)
  refine lv_iload_n C.1.1 C.1.2.1 dL_machine_898 rfl (lv_at hl 0 rfl) ?_
  refine fl_bipush C.1 dL_machine_899 (by decide) ?_
  refine fl_icmp_ge (tgt := 910) C.1 (rgk 0 rfl) (rgk 16 rfl) dL_machine_901 (by decide) (fun h => absurd h (by decide)) (fun _ => ?_)
  refine lv_iload_n C.1.1 C.1.2.1 dL_machine_904 rfl (lv_at hl 0 rfl) ?_
  refine fl_iconst C.1 dL_machine_905 ?_
  refine h_iadd (z := 1) C.1 (by decide +kernel) dL_machine_906 ?_
  refine fl_goto (tgt := 912) C.1 dL_machine_907 (by decide) ?_
  refine fl_icmp_ne (tgt := 942) C.1 (rgk 1 rfl) (rgk 1 rfl) dL_machine_912 (by decide) (fun h => absurd rfl h) (fun _ => ?_)
  refine lv_aload_n C.1.1 C.1.2.1 dL_machine_915 rfl (lv_at hl 2 rfl) ?_
  refine fl_iconst C.1 dL_machine_916 ?_
  refine lv_iload_n C.1.1 C.1.2.1 dL_machine_917 rfl (lv_at hl 0 rfl) ?_
  refine fl_bipush C.1 dL_machine_918 (by decide) ?_
  refine h_irem (z := 0) C.1 (by decide) (by decide) (by decide) dL_machine_920 ?_
  refine fl_iconst C.1 dL_machine_921 ?_
  refine fl_iconst C.1 dL_machine_922 ?_
  refine k_act hst C ⟨(Nat.le_of_ble_eq_true rfl), (Nat.le_of_ble_eq_true rfl)⟩ hI hl.1 (rgk 1 rfl) (rgk 0 rfl) (rgk 0 rfl) (rgk 0 rfl) mSf117 (Nat.le_of_ble_eq_true rfl) ⟨(Nat.le_of_ble_eq_true rfl), (Nat.le_of_ble_eq_true rfl)⟩ dL_machine_923 (fun H locs hI _ => ?_)
  refine lv_iload_n C.1.1 C.1.2.1 dL_machine_926 rfl (lv_at hl 0 rfl) ?_
  refine fl_iconst C.1 dL_machine_927 ?_
  refine fl_icmp_ge (tgt := 937) C.1 (rgk 0 rfl) (rgk 4 rfl) dL_machine_928 (by decide) (fun h => absurd h (by decide)) (fun _ => ?_)
  refine lv_iload_n C.1.1 C.1.2.1 dL_machine_931 rfl (lv_at hl 0 rfl) ?_
  refine fl_iconst C.1 dL_machine_932 ?_
  refine h_iadd (z := 1) C.1 (by decide +kernel) dL_machine_933 ?_
  refine fl_goto (tgt := 939) C.1 dL_machine_934 (by decide) ?_
  refine fl_icmp_eq (tgt := 944) C.1 (rgk 1 rfl) (rgk 1 rfl) dL_machine_939 (by decide) (fun _ => ?_) (fun h => absurd (by decide) h)
  refine fl_iinc (k := 0) (lv' := [(1, iv (wr (0 + 1))), (2, iv 0), (0, .ref x)]) C.1 dL_machine_944 hl rfl (by decide) rfl (fun ls hl => ?_)
  rw [show wr (0 + 1) = (1 : Int) from by decide +kernel] at hl
  refine fl_goto (tgt := 881) C.1 dL_machine_947 (by decide) ?_
  refine lv_iload_n C.1.1 C.1.2.1 dL_machine_881 rfl (lv_at hl 0 rfl) ?_
  refine fl_bipush C.1 dL_machine_882 (by decide) ?_
  refine fl_icmp_ge (tgt := 950) C.1 (rgk 1 rfl) (rgk 17 rfl) dL_machine_884 (by decide) (fun h => absurd h (by decide)) (fun _ => ?_)
  refine lv_aload_n C.1.1 C.1.2.1 dL_machine_887 rfl (lv_at hl 2 rfl) ?_
  refine fl_iconst C.1 dL_machine_888 ?_
  refine fl_bipush C.1 dL_machine_889 (by decide) ?_
  refine lv_iload_n C.1.1 C.1.2.1 dL_machine_891 rfl (lv_at hl 0 rfl) ?_
  refine fl_iconst C.1 dL_machine_892 ?_
  refine h_iadd (z := 2) C.1 (by decide +kernel) dL_machine_893 ?_
  refine fl_iconst C.1 dL_machine_894 ?_
  refine k_act hst C ⟨(Nat.le_of_ble_eq_true rfl), (Nat.le_of_ble_eq_true rfl)⟩ hI hl.1 (rgk 0 rfl) (rgk 8 rfl) (rgk 2 rfl) (rgk 0 rfl) mSf118 (Nat.le_of_ble_eq_true rfl) ⟨(Nat.le_of_ble_eq_true rfl), (Nat.le_of_ble_eq_true rfl)⟩ dL_machine_895 (fun H locs hI _ => ?_)
  refine lv_iload_n C.1.1 C.1.2.1 dL_machine_898 rfl (lv_at hl 0 rfl) ?_
  refine fl_bipush C.1 dL_machine_899 (by decide) ?_
  refine fl_icmp_ge (tgt := 910) C.1 (rgk 1 rfl) (rgk 16 rfl) dL_machine_901 (by decide) (fun h => absurd h (by decide)) (fun _ => ?_)
  refine lv_iload_n C.1.1 C.1.2.1 dL_machine_904 rfl (lv_at hl 0 rfl) ?_
  refine fl_iconst C.1 dL_machine_905 ?_
  refine h_iadd (z := 2) C.1 (by decide +kernel) dL_machine_906 ?_
  refine fl_goto (tgt := 912) C.1 dL_machine_907 (by decide) ?_
  refine fl_icmp_ne (tgt := 942) C.1 (rgk 2 rfl) (rgk 2 rfl) dL_machine_912 (by decide) (fun h => absurd rfl h) (fun _ => ?_)
  refine lv_aload_n C.1.1 C.1.2.1 dL_machine_915 rfl (lv_at hl 2 rfl) ?_
  refine fl_iconst C.1 dL_machine_916 ?_
  refine lv_iload_n C.1.1 C.1.2.1 dL_machine_917 rfl (lv_at hl 0 rfl) ?_
  refine fl_bipush C.1 dL_machine_918 (by decide) ?_
  refine h_irem (z := 1) C.1 (by decide) (by decide) (by decide) dL_machine_920 ?_
  refine fl_iconst C.1 dL_machine_921 ?_
  refine fl_iconst C.1 dL_machine_922 ?_
  refine k_act hst C ⟨(Nat.le_of_ble_eq_true rfl), (Nat.le_of_ble_eq_true rfl)⟩ hI hl.1 (rgk 1 rfl) (rgk 1 rfl) (rgk 0 rfl) (rgk 0 rfl) mSf119 (Nat.le_of_ble_eq_true rfl) ⟨(Nat.le_of_ble_eq_true rfl), (Nat.le_of_ble_eq_true rfl)⟩ dL_machine_923 (fun H locs hI _ => ?_)
  refine lv_iload_n C.1.1 C.1.2.1 dL_machine_926 rfl (lv_at hl 0 rfl) ?_
  refine fl_iconst C.1 dL_machine_927 ?_
  refine fl_icmp_ge (tgt := 937) C.1 (rgk 1 rfl) (rgk 4 rfl) dL_machine_928 (by decide) (fun h => absurd h (by decide)) (fun _ => ?_)
  refine lv_iload_n C.1.1 C.1.2.1 dL_machine_931 rfl (lv_at hl 0 rfl) ?_
  refine fl_iconst C.1 dL_machine_932 ?_
  refine h_iadd (z := 2) C.1 (by decide +kernel) dL_machine_933 ?_
  refine fl_goto (tgt := 939) C.1 dL_machine_934 (by decide) ?_
  refine fl_icmp_eq (tgt := 944) C.1 (rgk 2 rfl) (rgk 2 rfl) dL_machine_939 (by decide) (fun _ => ?_) (fun h => absurd (by decide) h)
  refine fl_iinc (k := 0) (lv' := [(1, iv (wr (1 + 1))), (2, iv 0), (0, .ref x)]) C.1 dL_machine_944 hl rfl (by decide) rfl (fun ls hl => ?_)
  rw [show wr (1 + 1) = (2 : Int) from by decide +kernel] at hl
  refine fl_goto (tgt := 881) C.1 dL_machine_947 (by decide) ?_
  refine lv_iload_n C.1.1 C.1.2.1 dL_machine_881 rfl (lv_at hl 0 rfl) ?_
  refine fl_bipush C.1 dL_machine_882 (by decide) ?_
  refine fl_icmp_ge (tgt := 950) C.1 (rgk 2 rfl) (rgk 17 rfl) dL_machine_884 (by decide) (fun h => absurd h (by decide)) (fun _ => ?_)
  refine lv_aload_n C.1.1 C.1.2.1 dL_machine_887 rfl (lv_at hl 2 rfl) ?_
  refine fl_iconst C.1 dL_machine_888 ?_
  refine fl_bipush C.1 dL_machine_889 (by decide) ?_
  refine lv_iload_n C.1.1 C.1.2.1 dL_machine_891 rfl (lv_at hl 0 rfl) ?_
  refine fl_iconst C.1 dL_machine_892 ?_
  refine h_iadd (z := 3) C.1 (by decide +kernel) dL_machine_893 ?_
  refine fl_iconst C.1 dL_machine_894 ?_
  refine k_act hst C ⟨(Nat.le_of_ble_eq_true rfl), (Nat.le_of_ble_eq_true rfl)⟩ hI hl.1 (rgk 0 rfl) (rgk 8 rfl) (rgk 3 rfl) (rgk 0 rfl) mSf120 (Nat.le_of_ble_eq_true rfl) ⟨(Nat.le_of_ble_eq_true rfl), (Nat.le_of_ble_eq_true rfl)⟩ dL_machine_895 (fun H locs hI _ => ?_)
  refine lv_iload_n C.1.1 C.1.2.1 dL_machine_898 rfl (lv_at hl 0 rfl) ?_
  refine fl_bipush C.1 dL_machine_899 (by decide) ?_
  refine fl_icmp_ge (tgt := 910) C.1 (rgk 2 rfl) (rgk 16 rfl) dL_machine_901 (by decide) (fun h => absurd h (by decide)) (fun _ => ?_)
  refine lv_iload_n C.1.1 C.1.2.1 dL_machine_904 rfl (lv_at hl 0 rfl) ?_
  refine fl_iconst C.1 dL_machine_905 ?_
  refine h_iadd (z := 3) C.1 (by decide +kernel) dL_machine_906 ?_
  refine fl_goto (tgt := 912) C.1 dL_machine_907 (by decide) ?_
  refine fl_icmp_ne (tgt := 942) C.1 (rgk 3 rfl) (rgk 3 rfl) dL_machine_912 (by decide) (fun h => absurd rfl h) (fun _ => ?_)
  exact W.widen (Nat.le_of_ble_eq_true rfl) (Nat.le_of_ble_eq_true rfl) (kk H locs ls hI hl)
set_option maxRecDepth 100000 in
set_option maxHeartbeats 4000000 in
theorem w_machine_5 (hst : l.stackTraces = false) (C : LC p s m meth c D cy B cL_machine 3) (kk : ∀ (H : Heap) (locs : List Loc) (ls : Array Slot), HI D cy B s.heap H locs x mS107 → lv_has ls 3 [(1, iv 14), (2, iv 0), (0, .ref x)] → W p l e rm_L_machine s m args below meth c H locs 928 63927 Q (F0 m 915 ls [])) : ∀ (H : Heap) (locs : List Loc) (ls : Array Slot), HI D cy B s.heap H locs x mS83 → lv_has ls 3 [(1, iv 2), (2, iv 0), (0, .ref x)] → W p l e rm_L_machine s m args below meth c H locs 712 14463 Q (F0 m 915 ls []) := by
  intro H locs ls hI hl
  refine lv_aload_n C.1.1 C.1.2.1 dL_machine_915 rfl (lv_at hl 2 rfl) ?_
  refine fl_iconst C.1 dL_machine_916 ?_
  refine lv_iload_n C.1.1 C.1.2.1 dL_machine_917 rfl (lv_at hl 0 rfl) ?_
  refine fl_bipush C.1 dL_machine_918 (by decide) ?_
  refine h_irem (z := 2) C.1 (by decide) (by decide) (by decide) dL_machine_920 ?_
  refine fl_iconst C.1 dL_machine_921 ?_
  refine fl_iconst C.1 dL_machine_922 ?_
  refine k_act hst C ⟨(Nat.le_of_ble_eq_true rfl), (Nat.le_of_ble_eq_true rfl)⟩ hI hl.1 (rgk 1 rfl) (rgk 2 rfl) (rgk 0 rfl) (rgk 0 rfl) mSf121 (Nat.le_of_ble_eq_true rfl) ⟨(Nat.le_of_ble_eq_true rfl), (Nat.le_of_ble_eq_true rfl)⟩ dL_machine_923 (fun H locs hI _ => ?_)
  refine lv_iload_n C.1.1 C.1.2.1 dL_machine_926 rfl (lv_at hl 0 rfl) ?_
  refine fl_iconst C.1 dL_machine_927 ?_
  refine fl_icmp_ge (tgt := 937) C.1 (rgk 2 rfl) (rgk 4 rfl) dL_machine_928 (by decide) (fun h => absurd h (by decide)) (fun _ => ?_)
  refine lv_iload_n C.1.1 C.1.2.1 dL_machine_931 rfl (lv_at hl 0 rfl) ?_
  refine fl_iconst C.1 dL_machine_932 ?_
  refine h_iadd (z := 3) C.1 (by decide +kernel) dL_machine_933 ?_
  refine fl_goto (tgt := 939) C.1 dL_machine_934 (by decide) ?_
  refine fl_icmp_eq (tgt := 944) C.1 (rgk 3 rfl) (rgk 3 rfl) dL_machine_939 (by decide) (fun _ => ?_) (fun h => absurd (by decide) h)
  refine fl_iinc (k := 0) (lv' := [(1, iv (wr (2 + 1))), (2, iv 0), (0, .ref x)]) C.1 dL_machine_944 hl rfl (by decide) rfl (fun ls hl => ?_)
  rw [show wr (2 + 1) = (3 : Int) from by decide +kernel] at hl
  refine fl_goto (tgt := 881) C.1 dL_machine_947 (by decide) ?_
  refine lv_iload_n C.1.1 C.1.2.1 dL_machine_881 rfl (lv_at hl 0 rfl) ?_
  refine fl_bipush C.1 dL_machine_882 (by decide) ?_
  refine fl_icmp_ge (tgt := 950) C.1 (rgk 3 rfl) (rgk 17 rfl) dL_machine_884 (by decide) (fun h => absurd h (by decide)) (fun _ => ?_)
  refine lv_aload_n C.1.1 C.1.2.1 dL_machine_887 rfl (lv_at hl 2 rfl) ?_
  refine fl_iconst C.1 dL_machine_888 ?_
  refine fl_bipush C.1 dL_machine_889 (by decide) ?_
  refine lv_iload_n C.1.1 C.1.2.1 dL_machine_891 rfl (lv_at hl 0 rfl) ?_
  refine fl_iconst C.1 dL_machine_892 ?_
  refine h_iadd (z := 4) C.1 (by decide +kernel) dL_machine_893 ?_
  refine fl_iconst C.1 dL_machine_894 ?_
  refine k_act hst C ⟨(Nat.le_of_ble_eq_true rfl), (Nat.le_of_ble_eq_true rfl)⟩ hI hl.1 (rgk 0 rfl) (rgk 8 rfl) (rgk 4 rfl) (rgk 0 rfl) mSf122 (Nat.le_of_ble_eq_true rfl) ⟨(Nat.le_of_ble_eq_true rfl), (Nat.le_of_ble_eq_true rfl)⟩ dL_machine_895 (fun H locs hI _ => ?_)
  refine lv_iload_n C.1.1 C.1.2.1 dL_machine_898 rfl (lv_at hl 0 rfl) ?_
  refine fl_bipush C.1 dL_machine_899 (by decide) ?_
  refine fl_icmp_ge (tgt := 910) C.1 (rgk 3 rfl) (rgk 16 rfl) dL_machine_901 (by decide) (fun h => absurd h (by decide)) (fun _ => ?_)
  refine lv_iload_n C.1.1 C.1.2.1 dL_machine_904 rfl (lv_at hl 0 rfl) ?_
  refine fl_iconst C.1 dL_machine_905 ?_
  refine h_iadd (z := 4) C.1 (by decide +kernel) dL_machine_906 ?_
  refine fl_goto (tgt := 912) C.1 dL_machine_907 (by decide) ?_
  refine fl_icmp_ne (tgt := 942) C.1 (rgk 4 rfl) (rgk 4 rfl) dL_machine_912 (by decide) (fun h => absurd rfl h) (fun _ => ?_)
  refine lv_aload_n C.1.1 C.1.2.1 dL_machine_915 rfl (lv_at hl 2 rfl) ?_
  refine fl_iconst C.1 dL_machine_916 ?_
  refine lv_iload_n C.1.1 C.1.2.1 dL_machine_917 rfl (lv_at hl 0 rfl) ?_
  refine fl_bipush C.1 dL_machine_918 (by decide) ?_
  refine h_irem (z := 3) C.1 (by decide) (by decide) (by decide) dL_machine_920 ?_
  refine fl_iconst C.1 dL_machine_921 ?_
  refine fl_iconst C.1 dL_machine_922 ?_
  refine k_act hst C ⟨(Nat.le_of_ble_eq_true rfl), (Nat.le_of_ble_eq_true rfl)⟩ hI hl.1 (rgk 1 rfl) (rgk 3 rfl) (rgk 0 rfl) (rgk 0 rfl) mSf123 (Nat.le_of_ble_eq_true rfl) ⟨(Nat.le_of_ble_eq_true rfl), (Nat.le_of_ble_eq_true rfl)⟩ dL_machine_923 (fun H locs hI _ => ?_)
  refine lv_iload_n C.1.1 C.1.2.1 dL_machine_926 rfl (lv_at hl 0 rfl) ?_
  refine fl_iconst C.1 dL_machine_927 ?_
  refine fl_icmp_ge (tgt := 937) C.1 (rgk 3 rfl) (rgk 4 rfl) dL_machine_928 (by decide) (fun h => absurd h (by decide)) (fun _ => ?_)
  refine lv_iload_n C.1.1 C.1.2.1 dL_machine_931 rfl (lv_at hl 0 rfl) ?_
  refine fl_iconst C.1 dL_machine_932 ?_
  refine h_iadd (z := 4) C.1 (by decide +kernel) dL_machine_933 ?_
  refine fl_goto (tgt := 939) C.1 dL_machine_934 (by decide) ?_
  refine fl_icmp_eq (tgt := 944) C.1 (rgk 4 rfl) (rgk 4 rfl) dL_machine_939 (by decide) (fun _ => ?_) (fun h => absurd (by decide) h)
  refine fl_iinc (k := 0) (lv' := [(1, iv (wr (3 + 1))), (2, iv 0), (0, .ref x)]) C.1 dL_machine_944 hl rfl (by decide) rfl (fun ls hl => ?_)
  rw [show wr (3 + 1) = (4 : Int) from by decide +kernel] at hl
  refine fl_goto (tgt := 881) C.1 dL_machine_947 (by decide) ?_
  refine lv_iload_n C.1.1 C.1.2.1 dL_machine_881 rfl (lv_at hl 0 rfl) ?_
  refine fl_bipush C.1 dL_machine_882 (by decide) ?_
  refine fl_icmp_ge (tgt := 950) C.1 (rgk 4 rfl) (rgk 17 rfl) dL_machine_884 (by decide) (fun h => absurd h (by decide)) (fun _ => ?_)
  refine lv_aload_n C.1.1 C.1.2.1 dL_machine_887 rfl (lv_at hl 2 rfl) ?_
  refine fl_iconst C.1 dL_machine_888 ?_
  refine fl_bipush C.1 dL_machine_889 (by decide) ?_
  refine lv_iload_n C.1.1 C.1.2.1 dL_machine_891 rfl (lv_at hl 0 rfl) ?_
  refine fl_iconst C.1 dL_machine_892 ?_
  refine h_iadd (z := 5) C.1 (by decide +kernel) dL_machine_893 ?_
  refine fl_iconst C.1 dL_machine_894 ?_
  refine k_act hst C ⟨(Nat.le_of_ble_eq_true rfl), (Nat.le_of_ble_eq_true rfl)⟩ hI hl.1 (rgk 0 rfl) (rgk 8 rfl) (rgk 5 rfl) (rgk 0 rfl) mSf124 (Nat.le_of_ble_eq_true rfl) ⟨(Nat.le_of_ble_eq_true rfl), (Nat.le_of_ble_eq_true rfl)⟩ dL_machine_895 (fun H locs hI _ => ?_)
  refine lv_iload_n C.1.1 C.1.2.1 dL_machine_898 rfl (lv_at hl 0 rfl) ?_
  refine fl_bipush C.1 dL_machine_899 (by decide) ?_
  refine fl_icmp_ge (tgt := 910) C.1 (rgk 4 rfl) (rgk 16 rfl) dL_machine_901 (by decide) (fun h => absurd h (by decide)) (fun _ => ?_)
  refine lv_iload_n C.1.1 C.1.2.1 dL_machine_904 rfl (lv_at hl 0 rfl) ?_
  refine fl_iconst C.1 dL_machine_905 ?_
  refine h_iadd (z := 5) C.1 (by decide +kernel) dL_machine_906 ?_
  refine fl_goto (tgt := 912) C.1 dL_machine_907 (by decide) ?_
  refine fl_icmp_ne (tgt := 942) C.1 (rgk 5 rfl) (rgk 5 rfl) dL_machine_912 (by decide) (fun h => absurd rfl h) (fun _ => ?_)
  refine lv_aload_n C.1.1 C.1.2.1 dL_machine_915 rfl (lv_at hl 2 rfl) ?_
  refine fl_iconst C.1 dL_machine_916 ?_
  refine lv_iload_n C.1.1 C.1.2.1 dL_machine_917 rfl (lv_at hl 0 rfl) ?_
  refine fl_bipush C.1 dL_machine_918 (by decide) ?_
  refine h_irem (z := 4) C.1 (by decide) (by decide) (by decide) dL_machine_920 ?_
  refine fl_iconst C.1 dL_machine_921 ?_
  refine fl_iconst C.1 dL_machine_922 ?_
  refine k_act hst C ⟨(Nat.le_of_ble_eq_true rfl), (Nat.le_of_ble_eq_true rfl)⟩ hI hl.1 (rgk 1 rfl) (rgk 4 rfl) (rgk 0 rfl) (rgk 0 rfl) mSf125 (Nat.le_of_ble_eq_true rfl) ⟨(Nat.le_of_ble_eq_true rfl), (Nat.le_of_ble_eq_true rfl)⟩ dL_machine_923 (fun H locs hI _ => ?_)
  refine lv_iload_n C.1.1 C.1.2.1 dL_machine_926 rfl (lv_at hl 0 rfl) ?_
  refine fl_iconst C.1 dL_machine_927 ?_
  refine fl_icmp_ge (tgt := 937) C.1 (rgk 4 rfl) (rgk 4 rfl) dL_machine_928 (by decide) (fun _ => ?_) (fun h => absurd (by decide) h)
  refine fl_ldc (n := (-7000003)) C.1 aw_803 rfl dL_machine_937 ?_
  refine fl_icmp_eq (tgt := 944) C.1 (rgk (-7000003) rfl) (rgk (-7000003) rfl) dL_machine_939 (by decide) (fun _ => ?_) (fun h => absurd (by decide) h)
  refine fl_iinc (k := 0) (lv' := [(1, iv (wr (4 + 1))), (2, iv 0), (0, .ref x)]) C.1 dL_machine_944 hl rfl (by decide) rfl (fun ls hl => ?_)
  rw [show wr (4 + 1) = (5 : Int) from by decide +kernel] at hl
  refine fl_goto (tgt := 881) C.1 dL_machine_947 (by decide) ?_
  refine lv_iload_n C.1.1 C.1.2.1 dL_machine_881 rfl (lv_at hl 0 rfl) ?_
  refine fl_bipush C.1 dL_machine_882 (by decide) ?_
  refine fl_icmp_ge (tgt := 950) C.1 (rgk 5 rfl) (rgk 17 rfl) dL_machine_884 (by decide) (fun h => absurd h (by decide)) (fun _ => ?_)
  refine lv_aload_n C.1.1 C.1.2.1 dL_machine_887 rfl (lv_at hl 2 rfl) ?_
  refine fl_iconst C.1 dL_machine_888 ?_
  refine fl_bipush C.1 dL_machine_889 (by decide) ?_
  refine lv_iload_n C.1.1 C.1.2.1 dL_machine_891 rfl (lv_at hl 0 rfl) ?_
  refine fl_iconst C.1 dL_machine_892 ?_
  refine h_iadd (z := 6) C.1 (by decide +kernel) dL_machine_893 ?_
  refine fl_iconst C.1 dL_machine_894 ?_
  refine k_act hst C ⟨(Nat.le_of_ble_eq_true rfl), (Nat.le_of_ble_eq_true rfl)⟩ hI hl.1 (rgk 0 rfl) (rgk 8 rfl) (rgk 6 rfl) (rgk 0 rfl) mSf126 (Nat.le_of_ble_eq_true rfl) ⟨(Nat.le_of_ble_eq_true rfl), (Nat.le_of_ble_eq_true rfl)⟩ dL_machine_895 (fun H locs hI _ => ?_)
  refine lv_iload_n C.1.1 C.1.2.1 dL_machine_898 rfl (lv_at hl 0 rfl) ?_
  refine fl_bipush C.1 dL_machine_899 (by decide) ?_
  refine fl_icmp_ge (tgt := 910) C.1 (rgk 5 rfl) (rgk 16 rfl) dL_machine_901 (by decide) (fun h => absurd h (by decide)) (fun _ => ?_)
  refine lv_iload_n C.1.1 C.1.2.1 dL_machine_904 rfl (lv_at hl 0 rfl) ?_
  refine fl_iconst C.1 dL_machine_905 ?_
  refine h_iadd (z := 6) C.1 (by decide +kernel) dL_machine_906 ?_
  refine fl_goto (tgt := 912) C.1 dL_machine_907 (by decide) ?_
  refine fl_icmp_ne (tgt := 942) C.1 (rgk 6 rfl) (rgk 6 rfl) dL_machine_912 (by decide) (fun h => absurd rfl h) (fun _ => ?_)
  refine lv_aload_n C.1.1 C.1.2.1 dL_machine_915 rfl (lv_at hl 2 rfl) ?_
  refine fl_iconst C.1 dL_machine_916 ?_
  refine lv_iload_n C.1.1 C.1.2.1 dL_machine_917 rfl (lv_at hl 0 rfl) ?_
  refine fl_bipush C.1 dL_machine_918 (by decide) ?_
  refine h_irem (z := 5) C.1 (by decide) (by decide) (by decide) dL_machine_920 ?_
  refine fl_iconst C.1 dL_machine_921 ?_
  refine fl_iconst C.1 dL_machine_922 ?_
  refine k_act hst C ⟨(Nat.le_of_ble_eq_true rfl), (Nat.le_of_ble_eq_true rfl)⟩ hI hl.1 (rgk 1 rfl) (rgk 5 rfl) (rgk 0 rfl) (rgk 0 rfl) mSf127 (Nat.le_of_ble_eq_true rfl) ⟨(Nat.le_of_ble_eq_true rfl), (Nat.le_of_ble_eq_true rfl)⟩ dL_machine_923 (fun H locs hI _ => ?_)
  refine lv_iload_n C.1.1 C.1.2.1 dL_machine_926 rfl (lv_at hl 0 rfl) ?_
  refine fl_iconst C.1 dL_machine_927 ?_
  refine fl_icmp_ge (tgt := 937) C.1 (rgk 5 rfl) (rgk 4 rfl) dL_machine_928 (by decide) (fun _ => ?_) (fun h => absurd (by decide) h)
  refine fl_ldc (n := (-7000003)) C.1 aw_803 rfl dL_machine_937 ?_
  refine fl_icmp_eq (tgt := 944) C.1 (rgk (-7000003) rfl) (rgk (-7000003) rfl) dL_machine_939 (by decide) (fun _ => ?_) (fun h => absurd (by decide) h)
  refine fl_iinc (k := 0) (lv' := [(1, iv (wr (5 + 1))), (2, iv 0), (0, .ref x)]) C.1 dL_machine_944 hl rfl (by decide) rfl (fun ls hl => ?_)
  rw [show wr (5 + 1) = (6 : Int) from by decide +kernel] at hl
  refine fl_goto (tgt := 881) C.1 dL_machine_947 (by decide) ?_
  refine lv_iload_n C.1.1 C.1.2.1 dL_machine_881 rfl (lv_at hl 0 rfl) ?_
  refine fl_bipush C.1 dL_machine_882 (by decide) ?_
  refine fl_icmp_ge (tgt := 950) C.1 (rgk 6 rfl) (rgk 17 rfl) dL_machine_884 (by decide) (fun h => absurd h (by decide)) (fun _ => ?_)
  refine lv_aload_n C.1.1 C.1.2.1 dL_machine_887 rfl (lv_at hl 2 rfl) ?_
  refine fl_iconst C.1 dL_machine_888 ?_
  refine fl_bipush C.1 dL_machine_889 (by decide) ?_
  refine lv_iload_n C.1.1 C.1.2.1 dL_machine_891 rfl (lv_at hl 0 rfl) ?_
  refine fl_iconst C.1 dL_machine_892 ?_
  refine h_iadd (z := 7) C.1 (by decide +kernel) dL_machine_893 ?_
  refine fl_iconst C.1 dL_machine_894 ?_
  refine k_act hst C ⟨(Nat.le_of_ble_eq_true rfl), (Nat.le_of_ble_eq_true rfl)⟩ hI hl.1 (rgk 0 rfl) (rgk 8 rfl) (rgk 7 rfl) (rgk 0 rfl) mSf128 (Nat.le_of_ble_eq_true rfl) ⟨(Nat.le_of_ble_eq_true rfl), (Nat.le_of_ble_eq_true rfl)⟩ dL_machine_895 (fun H locs hI _ => ?_)
  refine lv_iload_n C.1.1 C.1.2.1 dL_machine_898 rfl (lv_at hl 0 rfl) ?_
  refine fl_bipush C.1 dL_machine_899 (by decide) ?_
  refine fl_icmp_ge (tgt := 910) C.1 (rgk 6 rfl) (rgk 16 rfl) dL_machine_901 (by decide) (fun h => absurd h (by decide)) (fun _ => ?_)
  refine lv_iload_n C.1.1 C.1.2.1 dL_machine_904 rfl (lv_at hl 0 rfl) ?_
  refine fl_iconst C.1 dL_machine_905 ?_
  refine h_iadd (z := 7) C.1 (by decide +kernel) dL_machine_906 ?_
  refine fl_goto (tgt := 912) C.1 dL_machine_907 (by decide) ?_
  refine fl_icmp_ne (tgt := 942) C.1 (rgk 7 rfl) (rgk 7 rfl) dL_machine_912 (by decide) (fun h => absurd rfl h) (fun _ => ?_)
  refine lv_aload_n C.1.1 C.1.2.1 dL_machine_915 rfl (lv_at hl 2 rfl) ?_
  refine fl_iconst C.1 dL_machine_916 ?_
  refine lv_iload_n C.1.1 C.1.2.1 dL_machine_917 rfl (lv_at hl 0 rfl) ?_
  refine fl_bipush C.1 dL_machine_918 (by decide) ?_
  refine h_irem (z := 6) C.1 (by decide) (by decide) (by decide) dL_machine_920 ?_
  refine fl_iconst C.1 dL_machine_921 ?_
  refine fl_iconst C.1 dL_machine_922 ?_
  refine k_act hst C ⟨(Nat.le_of_ble_eq_true rfl), (Nat.le_of_ble_eq_true rfl)⟩ hI hl.1 (rgk 1 rfl) (rgk 6 rfl) (rgk 0 rfl) (rgk 0 rfl) mSf129 (Nat.le_of_ble_eq_true rfl) ⟨(Nat.le_of_ble_eq_true rfl), (Nat.le_of_ble_eq_true rfl)⟩ dL_machine_923 (fun H locs hI _ => ?_)
  refine lv_iload_n C.1.1 C.1.2.1 dL_machine_926 rfl (lv_at hl 0 rfl) ?_
  refine fl_iconst C.1 dL_machine_927 ?_
  refine fl_icmp_ge (tgt := 937) C.1 (rgk 6 rfl) (rgk 4 rfl) dL_machine_928 (by decide) (fun _ => ?_) (fun h => absurd (by decide) h)
  refine fl_ldc (n := (-7000003)) C.1 aw_803 rfl dL_machine_937 ?_
  refine fl_icmp_eq (tgt := 944) C.1 (rgk (-7000003) rfl) (rgk (-7000003) rfl) dL_machine_939 (by decide) (fun _ => ?_) (fun h => absurd (by decide) h)
  refine fl_iinc (k := 0) (lv' := [(1, iv (wr (6 + 1))), (2, iv 0), (0, .ref x)]) C.1 dL_machine_944 hl rfl (by decide) rfl (fun ls hl => ?_)
  rw [show wr (6 + 1) = (7 : Int) from by decide +kernel] at hl
  refine fl_goto (tgt := 881) C.1 dL_machine_947 (by decide) ?_
  refine lv_iload_n C.1.1 C.1.2.1 dL_machine_881 rfl (lv_at hl 0 rfl) ?_
  refine fl_bipush C.1 dL_machine_882 (by decide) ?_
  refine fl_icmp_ge (tgt := 950) C.1 (rgk 7 rfl) (rgk 17 rfl) dL_machine_884 (by decide) (fun h => absurd h (by decide)) (fun _ => ?_)
  refine lv_aload_n C.1.1 C.1.2.1 dL_machine_887 rfl (lv_at hl 2 rfl) ?_
  refine fl_iconst C.1 dL_machine_888 ?_
  refine fl_bipush C.1 dL_machine_889 (by decide) ?_
  refine lv_iload_n C.1.1 C.1.2.1 dL_machine_891 rfl (lv_at hl 0 rfl) ?_
  refine fl_iconst C.1 dL_machine_892 ?_
  refine h_iadd (z := 8) C.1 (by decide +kernel) dL_machine_893 ?_
  refine fl_iconst C.1 dL_machine_894 ?_
  refine k_act hst C ⟨(Nat.le_of_ble_eq_true rfl), (Nat.le_of_ble_eq_true rfl)⟩ hI hl.1 (rgk 0 rfl) (rgk 8 rfl) (rgk 8 rfl) (rgk 0 rfl) mSf130 (Nat.le_of_ble_eq_true rfl) ⟨(Nat.le_of_ble_eq_true rfl), (Nat.le_of_ble_eq_true rfl)⟩ dL_machine_895 (fun H locs hI _ => ?_)
  refine lv_iload_n C.1.1 C.1.2.1 dL_machine_898 rfl (lv_at hl 0 rfl) ?_
  refine fl_bipush C.1 dL_machine_899 (by decide) ?_
  refine fl_icmp_ge (tgt := 910) C.1 (rgk 7 rfl) (rgk 16 rfl) dL_machine_901 (by decide) (fun h => absurd h (by decide)) (fun _ => ?_)
  refine lv_iload_n C.1.1 C.1.2.1 dL_machine_904 rfl (lv_at hl 0 rfl) ?_
  refine fl_iconst C.1 dL_machine_905 ?_
  refine h_iadd (z := 8) C.1 (by decide +kernel) dL_machine_906 ?_
  refine fl_goto (tgt := 912) C.1 dL_machine_907 (by decide) ?_
  refine fl_icmp_ne (tgt := 942) C.1 (rgk 8 rfl) (rgk 8 rfl) dL_machine_912 (by decide) (fun h => absurd rfl h) (fun _ => ?_)
  refine lv_aload_n C.1.1 C.1.2.1 dL_machine_915 rfl (lv_at hl 2 rfl) ?_
  refine fl_iconst C.1 dL_machine_916 ?_
  refine lv_iload_n C.1.1 C.1.2.1 dL_machine_917 rfl (lv_at hl 0 rfl) ?_
  refine fl_bipush C.1 dL_machine_918 (by decide) ?_
  refine h_irem (z := 7) C.1 (by decide) (by decide) (by decide) dL_machine_920 ?_
  refine fl_iconst C.1 dL_machine_921 ?_
  refine fl_iconst C.1 dL_machine_922 ?_
  refine k_act hst C ⟨(Nat.le_of_ble_eq_true rfl), (Nat.le_of_ble_eq_true rfl)⟩ hI hl.1 (rgk 1 rfl) (rgk 7 rfl) (rgk 0 rfl) (rgk 0 rfl) mSf131 (Nat.le_of_ble_eq_true rfl) ⟨(Nat.le_of_ble_eq_true rfl), (Nat.le_of_ble_eq_true rfl)⟩ dL_machine_923 (fun H locs hI _ => ?_)
  refine lv_iload_n C.1.1 C.1.2.1 dL_machine_926 rfl (lv_at hl 0 rfl) ?_
  refine fl_iconst C.1 dL_machine_927 ?_
  refine fl_icmp_ge (tgt := 937) C.1 (rgk 7 rfl) (rgk 4 rfl) dL_machine_928 (by decide) (fun _ => ?_) (fun h => absurd (by decide) h)
  refine fl_ldc (n := (-7000003)) C.1 aw_803 rfl dL_machine_937 ?_
  refine fl_icmp_eq (tgt := 944) C.1 (rgk (-7000003) rfl) (rgk (-7000003) rfl) dL_machine_939 (by decide) (fun _ => ?_) (fun h => absurd (by decide) h)
  refine fl_iinc (k := 0) (lv' := [(1, iv (wr (7 + 1))), (2, iv 0), (0, .ref x)]) C.1 dL_machine_944 hl rfl (by decide) rfl (fun ls hl => ?_)
  rw [show wr (7 + 1) = (8 : Int) from by decide +kernel] at hl
  refine fl_goto (tgt := 881) C.1 dL_machine_947 (by decide) ?_
  refine lv_iload_n C.1.1 C.1.2.1 dL_machine_881 rfl (lv_at hl 0 rfl) ?_
  refine fl_bipush C.1 dL_machine_882 (by decide) ?_
  refine fl_icmp_ge (tgt := 950) C.1 (rgk 8 rfl) (rgk 17 rfl) dL_machine_884 (by decide) (fun h => absurd h (by decide)) (fun _ => ?_)
  refine lv_aload_n C.1.1 C.1.2.1 dL_machine_887 rfl (lv_at hl 2 rfl) ?_
  refine fl_iconst C.1 dL_machine_888 ?_
  refine fl_bipush C.1 dL_machine_889 (by decide) ?_
  refine lv_iload_n C.1.1 C.1.2.1 dL_machine_891 rfl (lv_at hl 0 rfl) ?_
  refine fl_iconst C.1 dL_machine_892 ?_
  refine h_iadd (z := 9) C.1 (by decide +kernel) dL_machine_893 ?_
  refine fl_iconst C.1 dL_machine_894 ?_
  refine k_act hst C ⟨(Nat.le_of_ble_eq_true rfl), (Nat.le_of_ble_eq_true rfl)⟩ hI hl.1 (rgk 0 rfl) (rgk 8 rfl) (rgk 9 rfl) (rgk 0 rfl) mSf132 (Nat.le_of_ble_eq_true rfl) ⟨(Nat.le_of_ble_eq_true rfl), (Nat.le_of_ble_eq_true rfl)⟩ dL_machine_895 (fun H locs hI _ => ?_)
  refine lv_iload_n C.1.1 C.1.2.1 dL_machine_898 rfl (lv_at hl 0 rfl) ?_
  refine fl_bipush C.1 dL_machine_899 (by decide) ?_
  refine fl_icmp_ge (tgt := 910) C.1 (rgk 8 rfl) (rgk 16 rfl) dL_machine_901 (by decide) (fun h => absurd h (by decide)) (fun _ => ?_)
  refine lv_iload_n C.1.1 C.1.2.1 dL_machine_904 rfl (lv_at hl 0 rfl) ?_
  refine fl_iconst C.1 dL_machine_905 ?_
  refine h_iadd (z := 9) C.1 (by decide +kernel) dL_machine_906 ?_
  refine fl_goto (tgt := 912) C.1 dL_machine_907 (by decide) ?_
  refine fl_icmp_ne (tgt := 942) C.1 (rgk 9 rfl) (rgk 9 rfl) dL_machine_912 (by decide) (fun h => absurd rfl h) (fun _ => ?_)
  refine lv_aload_n C.1.1 C.1.2.1 dL_machine_915 rfl (lv_at hl 2 rfl) ?_
  refine fl_iconst C.1 dL_machine_916 ?_
  refine lv_iload_n C.1.1 C.1.2.1 dL_machine_917 rfl (lv_at hl 0 rfl) ?_
  refine fl_bipush C.1 dL_machine_918 (by decide) ?_
  refine h_irem (z := 8) C.1 (by decide) (by decide) (by decide) dL_machine_920 ?_
  refine fl_iconst C.1 dL_machine_921 ?_
  refine fl_iconst C.1 dL_machine_922 ?_
  refine k_act hst C ⟨(Nat.le_of_ble_eq_true rfl), (Nat.le_of_ble_eq_true rfl)⟩ hI hl.1 (rgk 1 rfl) (rgk 8 rfl) (rgk 0 rfl) (rgk 0 rfl) mSf133 (Nat.le_of_ble_eq_true rfl) ⟨(Nat.le_of_ble_eq_true rfl), (Nat.le_of_ble_eq_true rfl)⟩ dL_machine_923 (fun H locs hI _ => ?_)
  refine lv_iload_n C.1.1 C.1.2.1 dL_machine_926 rfl (lv_at hl 0 rfl) ?_
  refine fl_iconst C.1 dL_machine_927 ?_
  refine fl_icmp_ge (tgt := 937) C.1 (rgk 8 rfl) (rgk 4 rfl) dL_machine_928 (by decide) (fun _ => ?_) (fun h => absurd (by decide) h)
  refine fl_ldc (n := (-7000003)) C.1 aw_803 rfl dL_machine_937 ?_
  refine fl_icmp_eq (tgt := 944) C.1 (rgk (-7000003) rfl) (rgk (-7000003) rfl) dL_machine_939 (by decide) (fun _ => ?_) (fun h => absurd (by decide) h)
  refine fl_iinc (k := 0) (lv' := [(1, iv (wr (8 + 1))), (2, iv 0), (0, .ref x)]) C.1 dL_machine_944 hl rfl (by decide) rfl (fun ls hl => ?_)
  rw [show wr (8 + 1) = (9 : Int) from by decide +kernel] at hl
  refine fl_goto (tgt := 881) C.1 dL_machine_947 (by decide) ?_
  refine lv_iload_n C.1.1 C.1.2.1 dL_machine_881 rfl (lv_at hl 0 rfl) ?_
  refine fl_bipush C.1 dL_machine_882 (by decide) ?_
  refine fl_icmp_ge (tgt := 950) C.1 (rgk 9 rfl) (rgk 17 rfl) dL_machine_884 (by decide) (fun h => absurd h (by decide)) (fun _ => ?_)
  refine lv_aload_n C.1.1 C.1.2.1 dL_machine_887 rfl (lv_at hl 2 rfl) ?_
  refine fl_iconst C.1 dL_machine_888 ?_
  refine fl_bipush C.1 dL_machine_889 (by decide) ?_
  refine lv_iload_n C.1.1 C.1.2.1 dL_machine_891 rfl (lv_at hl 0 rfl) ?_
  refine fl_iconst C.1 dL_machine_892 ?_
  refine h_iadd (z := 10) C.1 (by decide +kernel) dL_machine_893 ?_
  refine fl_iconst C.1 dL_machine_894 ?_
  refine k_act hst C ⟨(Nat.le_of_ble_eq_true rfl), (Nat.le_of_ble_eq_true rfl)⟩ hI hl.1 (rgk 0 rfl) (rgk 8 rfl) (rgk 10 rfl) (rgk 0 rfl) mSf134 (Nat.le_of_ble_eq_true rfl) ⟨(Nat.le_of_ble_eq_true rfl), (Nat.le_of_ble_eq_true rfl)⟩ dL_machine_895 (fun H locs hI _ => ?_)
  refine lv_iload_n C.1.1 C.1.2.1 dL_machine_898 rfl (lv_at hl 0 rfl) ?_
  refine fl_bipush C.1 dL_machine_899 (by decide) ?_
  refine fl_icmp_ge (tgt := 910) C.1 (rgk 9 rfl) (rgk 16 rfl) dL_machine_901 (by decide) (fun h => absurd h (by decide)) (fun _ => ?_)
  refine lv_iload_n C.1.1 C.1.2.1 dL_machine_904 rfl (lv_at hl 0 rfl) ?_
  refine fl_iconst C.1 dL_machine_905 ?_
  refine h_iadd (z := 10) C.1 (by decide +kernel) dL_machine_906 ?_
  refine fl_goto (tgt := 912) C.1 dL_machine_907 (by decide) ?_
  refine fl_icmp_ne (tgt := 942) C.1 (rgk 10 rfl) (rgk 10 rfl) dL_machine_912 (by decide) (fun h => absurd rfl h) (fun _ => ?_)
  refine lv_aload_n C.1.1 C.1.2.1 dL_machine_915 rfl (lv_at hl 2 rfl) ?_
  refine fl_iconst C.1 dL_machine_916 ?_
  refine lv_iload_n C.1.1 C.1.2.1 dL_machine_917 rfl (lv_at hl 0 rfl) ?_
  refine fl_bipush C.1 dL_machine_918 (by decide) ?_
  refine h_irem (z := 0) C.1 (by decide) (by decide) (by decide) dL_machine_920 ?_
  refine fl_iconst C.1 dL_machine_921 ?_
  refine fl_iconst C.1 dL_machine_922 ?_
  refine k_act hst C ⟨(Nat.le_of_ble_eq_true rfl), (Nat.le_of_ble_eq_true rfl)⟩ hI hl.1 (rgk 1 rfl) (rgk 0 rfl) (rgk 0 rfl) (rgk 0 rfl) mSf135 (Nat.le_of_ble_eq_true rfl) ⟨(Nat.le_of_ble_eq_true rfl), (Nat.le_of_ble_eq_true rfl)⟩ dL_machine_923 (fun H locs hI _ => ?_)
  refine lv_iload_n C.1.1 C.1.2.1 dL_machine_926 rfl (lv_at hl 0 rfl) ?_
  refine fl_iconst C.1 dL_machine_927 ?_
  refine fl_icmp_ge (tgt := 937) C.1 (rgk 9 rfl) (rgk 4 rfl) dL_machine_928 (by decide) (fun _ => ?_) (fun h => absurd (by decide) h)
  refine fl_ldc (n := (-7000003)) C.1 aw_803 rfl dL_machine_937 ?_
  refine fl_icmp_eq (tgt := 944) C.1 (rgk (-7000003) rfl) (rgk (-7000003) rfl) dL_machine_939 (by decide) (fun _ => ?_) (fun h => absurd (by decide) h)
  refine fl_iinc (k := 0) (lv' := [(1, iv (wr (9 + 1))), (2, iv 0), (0, .ref x)]) C.1 dL_machine_944 hl rfl (by decide) rfl (fun ls hl => ?_)
  rw [show wr (9 + 1) = (10 : Int) from by decide +kernel] at hl
  refine fl_goto (tgt := 881) C.1 dL_machine_947 (by decide) ?_
  refine lv_iload_n C.1.1 C.1.2.1 dL_machine_881 rfl (lv_at hl 0 rfl) ?_
  refine fl_bipush C.1 dL_machine_882 (by decide) ?_
  refine fl_icmp_ge (tgt := 950) C.1 (rgk 10 rfl) (rgk 17 rfl) dL_machine_884 (by decide) (fun h => absurd h (by decide)) (fun _ => ?_)
  refine lv_aload_n C.1.1 C.1.2.1 dL_machine_887 rfl (lv_at hl 2 rfl) ?_
  refine fl_iconst C.1 dL_machine_888 ?_
  refine fl_bipush C.1 dL_machine_889 (by decide) ?_
  refine lv_iload_n C.1.1 C.1.2.1 dL_machine_891 rfl (lv_at hl 0 rfl) ?_
  refine fl_iconst C.1 dL_machine_892 ?_
  refine h_iadd (z := 11) C.1 (by decide +kernel) dL_machine_893 ?_
  refine fl_iconst C.1 dL_machine_894 ?_
  refine k_act hst C ⟨(Nat.le_of_ble_eq_true rfl), (Nat.le_of_ble_eq_true rfl)⟩ hI hl.1 (rgk 0 rfl) (rgk 8 rfl) (rgk 11 rfl) (rgk 0 rfl) mSf136 (Nat.le_of_ble_eq_true rfl) ⟨(Nat.le_of_ble_eq_true rfl), (Nat.le_of_ble_eq_true rfl)⟩ dL_machine_895 (fun H locs hI _ => ?_)
  refine lv_iload_n C.1.1 C.1.2.1 dL_machine_898 rfl (lv_at hl 0 rfl) ?_
  refine fl_bipush C.1 dL_machine_899 (by decide) ?_
  refine fl_icmp_ge (tgt := 910) C.1 (rgk 10 rfl) (rgk 16 rfl) dL_machine_901 (by decide) (fun h => absurd h (by decide)) (fun _ => ?_)
  refine lv_iload_n C.1.1 C.1.2.1 dL_machine_904 rfl (lv_at hl 0 rfl) ?_
  refine fl_iconst C.1 dL_machine_905 ?_
  refine h_iadd (z := 11) C.1 (by decide +kernel) dL_machine_906 ?_
  refine fl_goto (tgt := 912) C.1 dL_machine_907 (by decide) ?_
  refine fl_icmp_ne (tgt := 942) C.1 (rgk 11 rfl) (rgk 11 rfl) dL_machine_912 (by decide) (fun h => absurd rfl h) (fun _ => ?_)
  refine lv_aload_n C.1.1 C.1.2.1 dL_machine_915 rfl (lv_at hl 2 rfl) ?_
  refine fl_iconst C.1 dL_machine_916 ?_
  refine lv_iload_n C.1.1 C.1.2.1 dL_machine_917 rfl (lv_at hl 0 rfl) ?_
  refine fl_bipush C.1 dL_machine_918 (by decide) ?_
  refine h_irem (z := 1) C.1 (by decide) (by decide) (by decide) dL_machine_920 ?_
  refine fl_iconst C.1 dL_machine_921 ?_
  refine fl_iconst C.1 dL_machine_922 ?_
  refine k_act hst C ⟨(Nat.le_of_ble_eq_true rfl), (Nat.le_of_ble_eq_true rfl)⟩ hI hl.1 (rgk 1 rfl) (rgk 1 rfl) (rgk 0 rfl) (rgk 0 rfl) mSf137 (Nat.le_of_ble_eq_true rfl) ⟨(Nat.le_of_ble_eq_true rfl), (Nat.le_of_ble_eq_true rfl)⟩ dL_machine_923 (fun H locs hI _ => ?_)
  refine lv_iload_n C.1.1 C.1.2.1 dL_machine_926 rfl (lv_at hl 0 rfl) ?_
  refine fl_iconst C.1 dL_machine_927 ?_
  refine fl_icmp_ge (tgt := 937) C.1 (rgk 10 rfl) (rgk 4 rfl) dL_machine_928 (by decide) (fun _ => ?_) (fun h => absurd (by decide) h)
  refine fl_ldc (n := (-7000003)) C.1 aw_803 rfl dL_machine_937 ?_
  refine fl_icmp_eq (tgt := 944) C.1 (rgk (-7000003) rfl) (rgk (-7000003) rfl) dL_machine_939 (by decide) (fun _ => ?_) (fun h => absurd (by decide) h)
  refine fl_iinc (k := 0) (lv' := [(1, iv (wr (10 + 1))), (2, iv 0), (0, .ref x)]) C.1 dL_machine_944 hl rfl (by decide) rfl (fun ls hl => ?_)
  rw [show wr (10 + 1) = (11 : Int) from by decide +kernel] at hl
  refine fl_goto (tgt := 881) C.1 dL_machine_947 (by decide) ?_
  refine lv_iload_n C.1.1 C.1.2.1 dL_machine_881 rfl (lv_at hl 0 rfl) ?_
  refine fl_bipush C.1 dL_machine_882 (by decide) ?_
  refine fl_icmp_ge (tgt := 950) C.1 (rgk 11 rfl) (rgk 17 rfl) dL_machine_884 (by decide) (fun h => absurd h (by decide)) (fun _ => ?_)
  refine lv_aload_n C.1.1 C.1.2.1 dL_machine_887 rfl (lv_at hl 2 rfl) ?_
  refine fl_iconst C.1 dL_machine_888 ?_
  refine fl_bipush C.1 dL_machine_889 (by decide) ?_
  refine lv_iload_n C.1.1 C.1.2.1 dL_machine_891 rfl (lv_at hl 0 rfl) ?_
  refine fl_iconst C.1 dL_machine_892 ?_
  refine h_iadd (z := 12) C.1 (by decide +kernel) dL_machine_893 ?_
  refine fl_iconst C.1 dL_machine_894 ?_
  refine k_act hst C ⟨(Nat.le_of_ble_eq_true rfl), (Nat.le_of_ble_eq_true rfl)⟩ hI hl.1 (rgk 0 rfl) (rgk 8 rfl) (rgk 12 rfl) (rgk 0 rfl) mSf138 (Nat.le_of_ble_eq_true rfl) ⟨(Nat.le_of_ble_eq_true rfl), (Nat.le_of_ble_eq_true rfl)⟩ dL_machine_895 (fun H locs hI _ => ?_)
  refine lv_iload_n C.1.1 C.1.2.1 dL_machine_898 rfl (lv_at hl 0 rfl) ?_
  refine fl_bipush C.1 dL_machine_899 (by decide) ?_
  refine fl_icmp_ge (tgt := 910) C.1 (rgk 11 rfl) (rgk 16 rfl) dL_machine_901 (by decide) (fun h => absurd h (by decide)) (fun _ => ?_)
  refine lv_iload_n C.1.1 C.1.2.1 dL_machine_904 rfl (lv_at hl 0 rfl) ?_
  refine fl_iconst C.1 dL_machine_905 ?_
  refine h_iadd (z := 12) C.1 (by decide +kernel) dL_machine_906 ?_
  refine fl_goto (tgt := 912) C.1 dL_machine_907 (by decide) ?_
  refine fl_icmp_ne (tgt := 942) C.1 (rgk 12 rfl) (rgk 12 rfl) dL_machine_912 (by decide) (fun h => absurd rfl h) (fun _ => ?_)
  refine lv_aload_n C.1.1 C.1.2.1 dL_machine_915 rfl (lv_at hl 2 rfl) ?_
  refine fl_iconst C.1 dL_machine_916 ?_
  refine lv_iload_n C.1.1 C.1.2.1 dL_machine_917 rfl (lv_at hl 0 rfl) ?_
  refine fl_bipush C.1 dL_machine_918 (by decide) ?_
  refine h_irem (z := 2) C.1 (by decide) (by decide) (by decide) dL_machine_920 ?_
  refine fl_iconst C.1 dL_machine_921 ?_
  refine fl_iconst C.1 dL_machine_922 ?_
  refine k_act hst C ⟨(Nat.le_of_ble_eq_true rfl), (Nat.le_of_ble_eq_true rfl)⟩ hI hl.1 (rgk 1 rfl) (rgk 2 rfl) (rgk 0 rfl) (rgk 0 rfl) mSf139 (Nat.le_of_ble_eq_true rfl) ⟨(Nat.le_of_ble_eq_true rfl), (Nat.le_of_ble_eq_true rfl)⟩ dL_machine_923 (fun H locs hI _ => ?_)
  refine lv_iload_n C.1.1 C.1.2.1 dL_machine_926 rfl (lv_at hl 0 rfl) ?_
  refine fl_iconst C.1 dL_machine_927 ?_
  refine fl_icmp_ge (tgt := 937) C.1 (rgk 11 rfl) (rgk 4 rfl) dL_machine_928 (by decide) (fun _ => ?_) (fun h => absurd (by decide) h)
  refine fl_ldc (n := (-7000003)) C.1 aw_803 rfl dL_machine_937 ?_
  refine fl_icmp_eq (tgt := 944) C.1 (rgk (-7000003) rfl) (rgk (-7000003) rfl) dL_machine_939 (by decide) (fun _ => ?_) (fun h => absurd (by decide) h)
  refine fl_iinc (k := 0) (lv' := [(1, iv (wr (11 + 1))), (2, iv 0), (0, .ref x)]) C.1 dL_machine_944 hl rfl (by decide) rfl (fun ls hl => ?_)
  rw [show wr (11 + 1) = (12 : Int) from by decide +kernel] at hl
  refine fl_goto (tgt := 881) C.1 dL_machine_947 (by decide) ?_
  refine lv_iload_n C.1.1 C.1.2.1 dL_machine_881 rfl (lv_at hl 0 rfl) ?_
  refine fl_bipush C.1 dL_machine_882 (by decide) ?_
  refine fl_icmp_ge (tgt := 950) C.1 (rgk 12 rfl) (rgk 17 rfl) dL_machine_884 (by decide) (fun h => absurd h (by decide)) (fun _ => ?_)
  refine lv_aload_n C.1.1 C.1.2.1 dL_machine_887 rfl (lv_at hl 2 rfl) ?_
  refine fl_iconst C.1 dL_machine_888 ?_
  refine fl_bipush C.1 dL_machine_889 (by decide) ?_
  refine lv_iload_n C.1.1 C.1.2.1 dL_machine_891 rfl (lv_at hl 0 rfl) ?_
  refine fl_iconst C.1 dL_machine_892 ?_
  refine h_iadd (z := 13) C.1 (by decide +kernel) dL_machine_893 ?_
  refine fl_iconst C.1 dL_machine_894 ?_
  refine k_act hst C ⟨(Nat.le_of_ble_eq_true rfl), (Nat.le_of_ble_eq_true rfl)⟩ hI hl.1 (rgk 0 rfl) (rgk 8 rfl) (rgk 13 rfl) (rgk 0 rfl) mSf140 (Nat.le_of_ble_eq_true rfl) ⟨(Nat.le_of_ble_eq_true rfl), (Nat.le_of_ble_eq_true rfl)⟩ dL_machine_895 (fun H locs hI _ => ?_)
  refine lv_iload_n C.1.1 C.1.2.1 dL_machine_898 rfl (lv_at hl 0 rfl) ?_
  refine fl_bipush C.1 dL_machine_899 (by decide) ?_
  refine fl_icmp_ge (tgt := 910) C.1 (rgk 12 rfl) (rgk 16 rfl) dL_machine_901 (by decide) (fun h => absurd h (by decide)) (fun _ => ?_)
  refine lv_iload_n C.1.1 C.1.2.1 dL_machine_904 rfl (lv_at hl 0 rfl) ?_
  refine fl_iconst C.1 dL_machine_905 ?_
  refine h_iadd (z := 13) C.1 (by decide +kernel) dL_machine_906 ?_
  refine fl_goto (tgt := 912) C.1 dL_machine_907 (by decide) ?_
  refine fl_icmp_ne (tgt := 942) C.1 (rgk 13 rfl) (rgk 13 rfl) dL_machine_912 (by decide) (fun h => absurd rfl h) (fun _ => ?_)
  refine lv_aload_n C.1.1 C.1.2.1 dL_machine_915 rfl (lv_at hl 2 rfl) ?_
  refine fl_iconst C.1 dL_machine_916 ?_
  refine lv_iload_n C.1.1 C.1.2.1 dL_machine_917 rfl (lv_at hl 0 rfl) ?_
  refine fl_bipush C.1 dL_machine_918 (by decide) ?_
  refine h_irem (z := 3) C.1 (by decide) (by decide) (by decide) dL_machine_920 ?_
  refine fl_iconst C.1 dL_machine_921 ?_
  refine fl_iconst C.1 dL_machine_922 ?_
  refine k_act hst C ⟨(Nat.le_of_ble_eq_true rfl), (Nat.le_of_ble_eq_true rfl)⟩ hI hl.1 (rgk 1 rfl) (rgk 3 rfl) (rgk 0 rfl) (rgk 0 rfl) mSf141 (Nat.le_of_ble_eq_true rfl) ⟨(Nat.le_of_ble_eq_true rfl), (Nat.le_of_ble_eq_true rfl)⟩ dL_machine_923 (fun H locs hI _ => ?_)
  refine lv_iload_n C.1.1 C.1.2.1 dL_machine_926 rfl (lv_at hl 0 rfl) ?_
  refine fl_iconst C.1 dL_machine_927 ?_
  refine fl_icmp_ge (tgt := 937) C.1 (rgk 12 rfl) (rgk 4 rfl) dL_machine_928 (by decide) (fun _ => ?_) (fun h => absurd (by decide) h)
  refine fl_ldc (n := (-7000003)) C.1 aw_803 rfl dL_machine_937 ?_
  refine fl_icmp_eq (tgt := 944) C.1 (rgk (-7000003) rfl) (rgk (-7000003) rfl) dL_machine_939 (by decide) (fun _ => ?_) (fun h => absurd (by decide) h)
  refine fl_iinc (k := 0) (lv' := [(1, iv (wr (12 + 1))), (2, iv 0), (0, .ref x)]) C.1 dL_machine_944 hl rfl (by decide) rfl (fun ls hl => ?_)
  rw [show wr (12 + 1) = (13 : Int) from by decide +kernel] at hl
  refine fl_goto (tgt := 881) C.1 dL_machine_947 (by decide) ?_
  refine lv_iload_n C.1.1 C.1.2.1 dL_machine_881 rfl (lv_at hl 0 rfl) ?_
  refine fl_bipush C.1 dL_machine_882 (by decide) ?_
  refine fl_icmp_ge (tgt := 950) C.1 (rgk 13 rfl) (rgk 17 rfl) dL_machine_884 (by decide) (fun h => absurd h (by decide)) (fun _ => ?_)
  refine lv_aload_n C.1.1 C.1.2.1 dL_machine_887 rfl (lv_at hl 2 rfl) ?_
  refine fl_iconst C.1 dL_machine_888 ?_
  refine fl_bipush C.1 dL_machine_889 (by decide) ?_
  refine lv_iload_n C.1.1 C.1.2.1 dL_machine_891 rfl (lv_at hl 0 rfl) ?_
  refine fl_iconst C.1 dL_machine_892 ?_
  refine h_iadd (z := 14) C.1 (by decide +kernel) dL_machine_893 ?_
  refine fl_iconst C.1 dL_machine_894 ?_
  refine k_act hst C ⟨(Nat.le_of_ble_eq_true rfl), (Nat.le_of_ble_eq_true rfl)⟩ hI hl.1 (rgk 0 rfl) (rgk 8 rfl) (rgk 14 rfl) (rgk 0 rfl) mSf142 (Nat.le_of_ble_eq_true rfl) ⟨(Nat.le_of_ble_eq_true rfl), (Nat.le_of_ble_eq_true rfl)⟩ dL_machine_895 (fun H locs hI _ => ?_)
  refine lv_iload_n C.1.1 C.1.2.1 dL_machine_898 rfl (lv_at hl 0 rfl) ?_
  refine fl_bipush C.1 dL_machine_899 (by decide) ?_
  refine fl_icmp_ge (tgt := 910) C.1 (rgk 13 rfl) (rgk 16 rfl) dL_machine_901 (by decide) (fun h => absurd h (by decide)) (fun _ => ?_)
  refine lv_iload_n C.1.1 C.1.2.1 dL_machine_904 rfl (lv_at hl 0 rfl) ?_
  refine fl_iconst C.1 dL_machine_905 ?_
  refine h_iadd (z := 14) C.1 (by decide +kernel) dL_machine_906 ?_
  refine fl_goto (tgt := 912) C.1 dL_machine_907 (by decide) ?_
  refine fl_icmp_ne (tgt := 942) C.1 (rgk 14 rfl) (rgk 14 rfl) dL_machine_912 (by decide) (fun h => absurd rfl h) (fun _ => ?_)
  refine lv_aload_n C.1.1 C.1.2.1 dL_machine_915 rfl (lv_at hl 2 rfl) ?_
  refine fl_iconst C.1 dL_machine_916 ?_
  refine lv_iload_n C.1.1 C.1.2.1 dL_machine_917 rfl (lv_at hl 0 rfl) ?_
  refine fl_bipush C.1 dL_machine_918 (by decide) ?_
  refine h_irem (z := 4) C.1 (by decide) (by decide) (by decide) dL_machine_920 ?_
  refine fl_iconst C.1 dL_machine_921 ?_
  refine fl_iconst C.1 dL_machine_922 ?_
  refine k_act hst C ⟨(Nat.le_of_ble_eq_true rfl), (Nat.le_of_ble_eq_true rfl)⟩ hI hl.1 (rgk 1 rfl) (rgk 4 rfl) (rgk 0 rfl) (rgk 0 rfl) mSf143 (Nat.le_of_ble_eq_true rfl) ⟨(Nat.le_of_ble_eq_true rfl), (Nat.le_of_ble_eq_true rfl)⟩ dL_machine_923 (fun H locs hI _ => ?_)
  refine lv_iload_n C.1.1 C.1.2.1 dL_machine_926 rfl (lv_at hl 0 rfl) ?_
  refine fl_iconst C.1 dL_machine_927 ?_
  refine fl_icmp_ge (tgt := 937) C.1 (rgk 13 rfl) (rgk 4 rfl) dL_machine_928 (by decide) (fun _ => ?_) (fun h => absurd (by decide) h)
  refine fl_ldc (n := (-7000003)) C.1 aw_803 rfl dL_machine_937 ?_
  refine fl_icmp_eq (tgt := 944) C.1 (rgk (-7000003) rfl) (rgk (-7000003) rfl) dL_machine_939 (by decide) (fun _ => ?_) (fun h => absurd (by decide) h)
  refine fl_iinc (k := 0) (lv' := [(1, iv (wr (13 + 1))), (2, iv 0), (0, .ref x)]) C.1 dL_machine_944 hl rfl (by decide) rfl (fun ls hl => ?_)
  rw [show wr (13 + 1) = (14 : Int) from by decide +kernel] at hl
  refine fl_goto (tgt := 881) C.1 dL_machine_947 (by decide) ?_
  refine lv_iload_n C.1.1 C.1.2.1 dL_machine_881 rfl (lv_at hl 0 rfl) ?_
  refine fl_bipush C.1 dL_machine_882 (by decide) ?_
  refine fl_icmp_ge (tgt := 950) C.1 (rgk 14 rfl) (rgk 17 rfl) dL_machine_884 (by decide) (fun h => absurd h (by decide)) (fun _ => ?_)
  refine lv_aload_n C.1.1 C.1.2.1 dL_machine_887 rfl (lv_at hl 2 rfl) ?_
  refine fl_iconst C.1 dL_machine_888 ?_
  refine fl_bipush C.1 dL_machine_889 (by decide) ?_
  refine lv_iload_n C.1.1 C.1.2.1 dL_machine_891 rfl (lv_at hl 0 rfl) ?_
  refine fl_iconst C.1 dL_machine_892 ?_
  refine h_iadd (z := 15) C.1 (by decide +kernel) dL_machine_893 ?_
  refine fl_iconst C.1 dL_machine_894 ?_
  refine k_act hst C ⟨(Nat.le_of_ble_eq_true rfl), (Nat.le_of_ble_eq_true rfl)⟩ hI hl.1 (rgk 0 rfl) (rgk 8 rfl) (rgk 15 rfl) (rgk 0 rfl) mSf144 (Nat.le_of_ble_eq_true rfl) ⟨(Nat.le_of_ble_eq_true rfl), (Nat.le_of_ble_eq_true rfl)⟩ dL_machine_895 (fun H locs hI _ => ?_)
  refine lv_iload_n C.1.1 C.1.2.1 dL_machine_898 rfl (lv_at hl 0 rfl) ?_
  refine fl_bipush C.1 dL_machine_899 (by decide) ?_
  refine fl_icmp_ge (tgt := 910) C.1 (rgk 14 rfl) (rgk 16 rfl) dL_machine_901 (by decide) (fun h => absurd h (by decide)) (fun _ => ?_)
  refine lv_iload_n C.1.1 C.1.2.1 dL_machine_904 rfl (lv_at hl 0 rfl) ?_
  refine fl_iconst C.1 dL_machine_905 ?_
  refine h_iadd (z := 15) C.1 (by decide +kernel) dL_machine_906 ?_
  refine fl_goto (tgt := 912) C.1 dL_machine_907 (by decide) ?_
  refine fl_icmp_ne (tgt := 942) C.1 (rgk 15 rfl) (rgk 15 rfl) dL_machine_912 (by decide) (fun h => absurd rfl h) (fun _ => ?_)
  exact W.widen (Nat.le_of_ble_eq_true rfl) (Nat.le_of_ble_eq_true rfl) (kk H locs ls hI hl)
set_option maxRecDepth 100000 in
set_option maxHeartbeats 4000000 in
theorem w_machine_6 (hst : l.stackTraces = false) (C : LC p s m meth c D cy B cL_machine 3) (hr : meth.sig.returnType = some .boolean) : ∀ (H : Heap) (locs : List Loc) (ls : Array Slot), HI D cy B s.heap H locs x mS107 → lv_has ls 3 [(1, iv 14), (2, iv 0), (0, .ref x)] → W p l e rm_L_machine s m args below meth c H locs 928 63927 (MQ below (Q1 B) args s 2117 329964 (fun q => B ≤ q)) (F0 m 915 ls []) := by
  intro H locs ls hI hl
  refine lv_aload_n C.1.1 C.1.2.1 dL_machine_915 rfl (lv_at hl 2 rfl) ?_
  refine fl_iconst C.1 dL_machine_916 ?_
  refine lv_iload_n C.1.1 C.1.2.1 dL_machine_917 rfl (lv_at hl 0 rfl) ?_
  refine fl_bipush C.1 dL_machine_918 (by decide) ?_
  refine h_irem (z := 5) C.1 (by decide) (by decide) (by decide) dL_machine_920 ?_
  refine fl_iconst C.1 dL_machine_921 ?_
  refine fl_iconst C.1 dL_machine_922 ?_
  refine k_act hst C ⟨(Nat.le_of_ble_eq_true rfl), (Nat.le_of_ble_eq_true rfl)⟩ hI hl.1 (rgk 1 rfl) (rgk 5 rfl) (rgk 0 rfl) (rgk 0 rfl) mSf145 (Nat.le_of_ble_eq_true rfl) ⟨(Nat.le_of_ble_eq_true rfl), (Nat.le_of_ble_eq_true rfl)⟩ dL_machine_923 (fun H locs hI _ => ?_)
  refine lv_iload_n C.1.1 C.1.2.1 dL_machine_926 rfl (lv_at hl 0 rfl) ?_
  refine fl_iconst C.1 dL_machine_927 ?_
  refine fl_icmp_ge (tgt := 937) C.1 (rgk 14 rfl) (rgk 4 rfl) dL_machine_928 (by decide) (fun _ => ?_) (fun h => absurd (by decide) h)
  refine fl_ldc (n := (-7000003)) C.1 aw_803 rfl dL_machine_937 ?_
  refine fl_icmp_eq (tgt := 944) C.1 (rgk (-7000003) rfl) (rgk (-7000003) rfl) dL_machine_939 (by decide) (fun _ => ?_) (fun h => absurd (by decide) h)
  refine fl_iinc (k := 0) (lv' := [(1, iv (wr (14 + 1))), (2, iv 0), (0, .ref x)]) C.1 dL_machine_944 hl rfl (by decide) rfl (fun ls hl => ?_)
  rw [show wr (14 + 1) = (15 : Int) from by decide +kernel] at hl
  refine fl_goto (tgt := 881) C.1 dL_machine_947 (by decide) ?_
  refine lv_iload_n C.1.1 C.1.2.1 dL_machine_881 rfl (lv_at hl 0 rfl) ?_
  refine fl_bipush C.1 dL_machine_882 (by decide) ?_
  refine fl_icmp_ge (tgt := 950) C.1 (rgk 15 rfl) (rgk 17 rfl) dL_machine_884 (by decide) (fun h => absurd h (by decide)) (fun _ => ?_)
  refine lv_aload_n C.1.1 C.1.2.1 dL_machine_887 rfl (lv_at hl 2 rfl) ?_
  refine fl_iconst C.1 dL_machine_888 ?_
  refine fl_bipush C.1 dL_machine_889 (by decide) ?_
  refine lv_iload_n C.1.1 C.1.2.1 dL_machine_891 rfl (lv_at hl 0 rfl) ?_
  refine fl_iconst C.1 dL_machine_892 ?_
  refine h_iadd (z := 16) C.1 (by decide +kernel) dL_machine_893 ?_
  refine fl_iconst C.1 dL_machine_894 ?_
  refine k_act hst C ⟨(Nat.le_of_ble_eq_true rfl), (Nat.le_of_ble_eq_true rfl)⟩ hI hl.1 (rgk 0 rfl) (rgk 8 rfl) (rgk 16 rfl) (rgk 0 rfl) mSf146 (Nat.le_of_ble_eq_true rfl) ⟨(Nat.le_of_ble_eq_true rfl), (Nat.le_of_ble_eq_true rfl)⟩ dL_machine_895 (fun H locs hI _ => ?_)
  refine lv_iload_n C.1.1 C.1.2.1 dL_machine_898 rfl (lv_at hl 0 rfl) ?_
  refine fl_bipush C.1 dL_machine_899 (by decide) ?_
  refine fl_icmp_ge (tgt := 910) C.1 (rgk 15 rfl) (rgk 16 rfl) dL_machine_901 (by decide) (fun h => absurd h (by decide)) (fun _ => ?_)
  refine lv_iload_n C.1.1 C.1.2.1 dL_machine_904 rfl (lv_at hl 0 rfl) ?_
  refine fl_iconst C.1 dL_machine_905 ?_
  refine h_iadd (z := 16) C.1 (by decide +kernel) dL_machine_906 ?_
  refine fl_goto (tgt := 912) C.1 dL_machine_907 (by decide) ?_
  refine fl_icmp_ne (tgt := 942) C.1 (rgk 16 rfl) (rgk 16 rfl) dL_machine_912 (by decide) (fun h => absurd rfl h) (fun _ => ?_)
  refine lv_aload_n C.1.1 C.1.2.1 dL_machine_915 rfl (lv_at hl 2 rfl) ?_
  refine fl_iconst C.1 dL_machine_916 ?_
  refine lv_iload_n C.1.1 C.1.2.1 dL_machine_917 rfl (lv_at hl 0 rfl) ?_
  refine fl_bipush C.1 dL_machine_918 (by decide) ?_
  refine h_irem (z := 6) C.1 (by decide) (by decide) (by decide) dL_machine_920 ?_
  refine fl_iconst C.1 dL_machine_921 ?_
  refine fl_iconst C.1 dL_machine_922 ?_
  refine k_act hst C ⟨(Nat.le_of_ble_eq_true rfl), (Nat.le_of_ble_eq_true rfl)⟩ hI hl.1 (rgk 1 rfl) (rgk 6 rfl) (rgk 0 rfl) (rgk 0 rfl) mSf147 (Nat.le_of_ble_eq_true rfl) ⟨(Nat.le_of_ble_eq_true rfl), (Nat.le_of_ble_eq_true rfl)⟩ dL_machine_923 (fun H locs hI _ => ?_)
  refine lv_iload_n C.1.1 C.1.2.1 dL_machine_926 rfl (lv_at hl 0 rfl) ?_
  refine fl_iconst C.1 dL_machine_927 ?_
  refine fl_icmp_ge (tgt := 937) C.1 (rgk 15 rfl) (rgk 4 rfl) dL_machine_928 (by decide) (fun _ => ?_) (fun h => absurd (by decide) h)
  refine fl_ldc (n := (-7000003)) C.1 aw_803 rfl dL_machine_937 ?_
  refine fl_icmp_eq (tgt := 944) C.1 (rgk (-7000003) rfl) (rgk (-7000003) rfl) dL_machine_939 (by decide) (fun _ => ?_) (fun h => absurd (by decide) h)
  refine fl_iinc (k := 0) (lv' := [(1, iv (wr (15 + 1))), (2, iv 0), (0, .ref x)]) C.1 dL_machine_944 hl rfl (by decide) rfl (fun ls hl => ?_)
  rw [show wr (15 + 1) = (16 : Int) from by decide +kernel] at hl
  refine fl_goto (tgt := 881) C.1 dL_machine_947 (by decide) ?_
  refine lv_iload_n C.1.1 C.1.2.1 dL_machine_881 rfl (lv_at hl 0 rfl) ?_
  refine fl_bipush C.1 dL_machine_882 (by decide) ?_
  refine fl_icmp_ge (tgt := 950) C.1 (rgk 16 rfl) (rgk 17 rfl) dL_machine_884 (by decide) (fun h => absurd h (by decide)) (fun _ => ?_)
  refine lv_aload_n C.1.1 C.1.2.1 dL_machine_887 rfl (lv_at hl 2 rfl) ?_
  refine fl_iconst C.1 dL_machine_888 ?_
  refine fl_bipush C.1 dL_machine_889 (by decide) ?_
  refine lv_iload_n C.1.1 C.1.2.1 dL_machine_891 rfl (lv_at hl 0 rfl) ?_
  refine fl_iconst C.1 dL_machine_892 ?_
  refine h_iadd (z := 17) C.1 (by decide +kernel) dL_machine_893 ?_
  refine fl_iconst C.1 dL_machine_894 ?_
  refine k_act hst C ⟨(Nat.le_of_ble_eq_true rfl), (Nat.le_of_ble_eq_true rfl)⟩ hI hl.1 (rgk 0 rfl) (rgk 8 rfl) (rgk 17 rfl) (rgk 0 rfl) mSf148 (Nat.le_of_ble_eq_true rfl) ⟨(Nat.le_of_ble_eq_true rfl), (Nat.le_of_ble_eq_true rfl)⟩ dL_machine_895 (fun H locs hI _ => ?_)
  refine lv_iload_n C.1.1 C.1.2.1 dL_machine_898 rfl (lv_at hl 0 rfl) ?_
  refine fl_bipush C.1 dL_machine_899 (by decide) ?_
  refine fl_icmp_ge (tgt := 910) C.1 (rgk 16 rfl) (rgk 16 rfl) dL_machine_901 (by decide) (fun _ => ?_) (fun h => absurd (by decide) h)
  refine fl_ldc (n := (-7000003)) C.1 aw_803 rfl dL_machine_910 ?_
  refine fl_icmp_ne (tgt := 942) C.1 (rgk (-7000003) rfl) (rgk (-7000003) rfl) dL_machine_912 (by decide) (fun h => absurd rfl h) (fun _ => ?_)
  refine lv_aload_n C.1.1 C.1.2.1 dL_machine_915 rfl (lv_at hl 2 rfl) ?_
  refine fl_iconst C.1 dL_machine_916 ?_
  refine lv_iload_n C.1.1 C.1.2.1 dL_machine_917 rfl (lv_at hl 0 rfl) ?_
  refine fl_bipush C.1 dL_machine_918 (by decide) ?_
  refine h_irem (z := 7) C.1 (by decide) (by decide) (by decide) dL_machine_920 ?_
  refine fl_iconst C.1 dL_machine_921 ?_
  refine fl_iconst C.1 dL_machine_922 ?_
  refine k_act hst C ⟨(Nat.le_of_ble_eq_true rfl), (Nat.le_of_ble_eq_true rfl)⟩ hI hl.1 (rgk 1 rfl) (rgk 7 rfl) (rgk 0 rfl) (rgk 0 rfl) mSf149 (Nat.le_of_ble_eq_true rfl) ⟨(Nat.le_of_ble_eq_true rfl), (Nat.le_of_ble_eq_true rfl)⟩ dL_machine_923 (fun H locs hI _ => ?_)
  refine lv_iload_n C.1.1 C.1.2.1 dL_machine_926 rfl (lv_at hl 0 rfl) ?_
  refine fl_iconst C.1 dL_machine_927 ?_
  refine fl_icmp_ge (tgt := 937) C.1 (rgk 16 rfl) (rgk 4 rfl) dL_machine_928 (by decide) (fun _ => ?_) (fun h => absurd (by decide) h)
  refine fl_ldc (n := (-7000003)) C.1 aw_803 rfl dL_machine_937 ?_
  refine fl_icmp_eq (tgt := 944) C.1 (rgk (-7000003) rfl) (rgk (-7000003) rfl) dL_machine_939 (by decide) (fun _ => ?_) (fun h => absurd (by decide) h)
  refine fl_iinc (k := 0) (lv' := [(1, iv (wr (16 + 1))), (2, iv 0), (0, .ref x)]) C.1 dL_machine_944 hl rfl (by decide) rfl (fun ls hl => ?_)
  rw [show wr (16 + 1) = (17 : Int) from by decide +kernel] at hl
  refine fl_goto (tgt := 881) C.1 dL_machine_947 (by decide) ?_
  refine lv_iload_n C.1.1 C.1.2.1 dL_machine_881 rfl (lv_at hl 0 rfl) ?_
  refine fl_bipush C.1 dL_machine_882 (by decide) ?_
  refine fl_icmp_ge (tgt := 950) C.1 (rgk 17 rfl) (rgk 17 rfl) dL_machine_884 (by decide) (fun _ => ?_) (fun h => absurd (by decide) h)
  refine lv_aload_n C.1.1 C.1.2.1 dL_machine_950 rfl (lv_at hl 2 rfl) ?_
  refine fl_bipush C.1 dL_machine_951 (by decide) ?_
  refine fl_iconst C.1 dL_machine_953 ?_
  refine fl_bipush C.1 dL_machine_954 (by decide) ?_
  refine fl_iconst C.1 dL_machine_956 ?_
  refine fl_iconst C.1 dL_machine_957 ?_
  refine fl_iconst C.1 dL_machine_958 ?_
  refine k_qruns hst C ⟨(Nat.le_of_ble_eq_true rfl), (Nat.le_of_ble_eq_true rfl)⟩ hI hl.1 (rgk 16 rfl) (rgk 0 rfl) (rgk 16 rfl) (rgk 0 rfl) (rgk 0 rfl) (rgk 0 rfl) mSf150 (Nat.le_of_ble_eq_true rfl) ⟨(Nat.le_of_ble_eq_true rfl), (Nat.le_of_ble_eq_true rfl)⟩ dL_machine_959 (fun H locs hI _ => ?_)
  refine fl_if_eq (tgt := 1002) C.1 (rgk 1 rfl) dL_machine_962 (by decide) (fun h => absurd h (by decide)) (fun _ => ?_)
  refine lv_aload_n C.1.1 C.1.2.1 dL_machine_965 rfl (lv_at hl 2 rfl) ?_
  refine fl_bipush C.1 dL_machine_966 (by decide) ?_
  refine fl_iconst C.1 dL_machine_968 ?_
  refine fl_bipush C.1 dL_machine_969 (by decide) ?_
  refine fl_iconst C.1 dL_machine_971 ?_
  refine fl_iconst C.1 dL_machine_972 ?_
  refine fl_iconst C.1 dL_machine_973 ?_
  refine k_qruns hst C ⟨(Nat.le_of_ble_eq_true rfl), (Nat.le_of_ble_eq_true rfl)⟩ hI hl.1 (rgk 15 rfl) (rgk 2 rfl) (rgk 15 rfl) (rgk 0 rfl) (rgk 0 rfl) (rgk 0 rfl) mSf151 (Nat.le_of_ble_eq_true rfl) ⟨(Nat.le_of_ble_eq_true rfl), (Nat.le_of_ble_eq_true rfl)⟩ dL_machine_974 (fun H locs hI _ => ?_)
  refine fl_if_eq (tgt := 1002) C.1 (rgk 1 rfl) dL_machine_977 (by decide) (fun h => absurd h (by decide)) (fun _ => ?_)
  refine lv_aload_n C.1.1 C.1.2.1 dL_machine_980 rfl (lv_at hl 2 rfl) ?_
  refine j_clear C (by exact ⟨(Nat.le_of_ble_eq_true rfl), (Nat.le_of_ble_eq_true rfl)⟩) hI hl.1 mSf152 (Nat.le_of_ble_eq_true rfl) ⟨(Nat.le_of_ble_eq_true rfl), (Nat.le_of_ble_eq_true rfl)⟩ dL_machine_981 (fun H locs hI _ => ?_)
  refine fl_bipush C.1 dL_machine_984 (by decide) ?_
  refine fl_icmp_ne (tgt := 1002) C.1 (rgk 16 rfl) (rgk 16 rfl) dL_machine_986 (by decide) (fun h => absurd rfl h) (fun _ => ?_)
  refine lv_aload_n C.1.1 C.1.2.1 dL_machine_989 rfl (lv_at hl 2 rfl) ?_
  refine fl_iconst C.1 dL_machine_990 ?_
  refine fl_iconst C.1 dL_machine_991 ?_
  refine k_refuses hst C ⟨(Nat.le_of_ble_eq_true rfl), (Nat.le_of_ble_eq_true rfl)⟩ hI hl.1 (rgk 0 rfl) (rgk 0 rfl) mSf153.1 mSf153.2 (Nat.le_of_ble_eq_true rfl) ⟨(Nat.le_of_ble_eq_true rfl), (Nat.le_of_ble_eq_true rfl)⟩ dL_machine_992 (fun H locs hI _ => ?_)
  refine fl_if_eq (tgt := 1002) C.1 (rgk 1 rfl) dL_machine_995 (by decide) (fun h => absurd h (by decide)) (fun _ => ?_)
  refine fl_iconst C.1 dL_machine_998 ?_
  refine fl_goto (tgt := 1003) C.1 dL_machine_999 (by decide) ?_
  exact z_ret C hI hr dL_machine_1003 (Nat.le_of_ble_eq_true rfl) (Nat.le_of_ble_eq_true rfl)
set_option maxRecDepth 100000 in
set_option maxHeartbeats 4000000 in
theorem d_machine (hst : l.stackTraces = false) : Met l yL_machine [.code yL_machine cL_machine 3 (some .boolean)] rm_L_machine (va_Pc [] (HB D cy B)) (Q1 B) 2117 329964 (fun q => B ≤ q) := by
  refine hb_body0 (by decide) rfl ?_
  intro p e s m args below meth c ls C hr hB hl
  refine k_new C (by exact ⟨(Nat.le_of_ble_eq_true rfl), (Nat.le_of_ble_eq_true rfl)⟩) hB va_S.rf hl.1 ⟨(Nat.le_of_ble_eq_true rfl), (Nat.le_of_ble_eq_true rfl)⟩ ⟨(Nat.le_of_ble_eq_true rfl), (Nat.le_of_ble_eq_true rfl)⟩ dL_machine_0 dL_machine_3 dL_machine_4 (fun x H locs hI => ?_)
  refine lv_astore_n (lv' := [(0, .ref x)]) C.1.1 C.1.2.1 dL_machine_7 rfl hl (by decide) rfl (fun ls hl => ?_)
  exact W.widen (Nat.le_of_ble_eq_true rfl) (Nat.le_of_ble_eq_true rfl) ((w_machine_0 hst C (w_machine_1 hst C (w_machine_2 hst C (w_machine_3 hst C (w_machine_4 hst C (w_machine_5 hst C (w_machine_6 hst C hr))))))) H locs ls hI hl)
end HMAC
