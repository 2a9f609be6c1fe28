section HBOA
variable {p : Program} {l : Launch} {e : Env} {R : Room} {s : State} {m : MethodId} {args : Array Value} {below : List Frame} {meth : Method} {c : Code} {H : Heap} {locs : List Loc} {cells slots mc ms : Nat} {Q : State → Prop}
variable {D : va_G} {cy : Nat → ClassId} {B : Nat} {cc : ByteArray} {nL pc : Nat} {ls : Array Slot} {rest st0 As : List Value} {x : Nat} {S S' : Hl} {v : Int}
variable {y : MethodName} {bytes : ByteArray} {maxL idx n : Nat} {ret : Option FieldType} {rm : Room} {hh : List (Nat × Nat × Nat × Nat)}
abbrev rm_L_boards : Room := { frames := 12, cells := 1223, slots := 256206, locals := 350 }
theorem pm_L_boards : plainM yL_boards 1 := by decide +kernel
set_option maxRecDepth 100000 in
set_option maxHeartbeats 4000000 in
theorem w_boards_0 (hst : l.stackTraces = false) (C : LC p s m meth c D cy B cL_boards 2) (kk : ∀ (H : Heap) (locs : List Loc) (ls : Array Slot), HI D cy B s.heap H locs x bS15 → lv_has ls 2 [(1, iv 6), (0, .ref x)] → W p l e rm_L_boards s m args below meth c H locs 69 414 Q (F0 m 224 ls [])) : ∀ (H : Heap) (locs : List Loc) (ls : Array Slot), HI D cy B s.heap H locs x oS63 → lv_has ls 2 [(0, .ref x)] → W p l e rm_L_boards s m args below meth c H locs 0 0 Q (F0 m 0 ls []) := by
  intro H locs ls hI hl
  refine fl_iconst C.1 dL_boards_0 ?_
  refine lv_istore_n (lv' := [(1, iv 0), (0, .ref x)]) C.1.1 C.1.2.1 dL_boards_1 rfl hl (by decide) rfl (fun ls hl => ?_)
  refine lv_iload_n C.1.1 C.1.2.1 dL_boards_2 rfl (lv_at hl 0 rfl) ?_
  refine fl_bipush C.1 dL_boards_3 (by decide) ?_
  refine fl_icmp_ge (tgt := 23) C.1 (rgk 0 rfl) (rgk 6 rfl) dL_boards_5 (by decide) (fun h => absurd h (by decide)) (fun _ => ?_)
  refine lv_aload_n C.1.1 C.1.2.1 dL_boards_8 rfl (lv_at hl 1 rfl) ?_
  refine j_judge C (by exact ⟨(Nat.le_of_ble_eq_true rfl), (Nat.le_of_ble_eq_true rfl)⟩) hI hl.1 bSf1 (Nat.le_of_ble_eq_true rfl) ⟨(Nat.le_of_ble_eq_true rfl), (Nat.le_of_ble_eq_true rfl)⟩ dL_boards_9 (fun H locs hI _ => ?_)
  refine fl_if_ge (tgt := 17) C.1 (rgk 0 rfl) dL_boards_12 (by decide) (fun _ => ?_) (fun h => absurd (by decide) h)
  refine fl_iinc (k := 0) (lv' := [(1, iv (wr (0 + 1))), (0, .ref x)]) C.1 dL_boards_17 hl rfl (by decide) rfl (fun ls hl => ?_)
  rw [show wr (0 + 1) = (1 : Int) from by decide +kernel] at hl
  refine fl_goto (tgt := 2) C.1 dL_boards_20 (by decide) ?_
  refine lv_iload_n C.1.1 C.1.2.1 dL_boards_2 rfl (lv_at hl 0 rfl) ?_
  refine fl_bipush C.1 dL_boards_3 (by decide) ?_
  refine fl_icmp_ge (tgt := 23) C.1 (rgk 1 rfl) (rgk 6 rfl) dL_boards_5 (by decide) (fun h => absurd h (by decide)) (fun _ => ?_)
  refine lv_aload_n C.1.1 C.1.2.1 dL_boards_8 rfl (lv_at hl 1 rfl) ?_
  refine j_judge C (by exact ⟨(Nat.le_of_ble_eq_true rfl), (Nat.le_of_ble_eq_true rfl)⟩) hI hl.1 bSf2 (Nat.le_of_ble_eq_true rfl) ⟨(Nat.le_of_ble_eq_true rfl), (Nat.le_of_ble_eq_true rfl)⟩ dL_boards_9 (fun H locs hI _ => ?_)
  refine fl_if_ge (tgt := 17) C.1 (rgk 3 rfl) dL_boards_12 (by decide) (fun _ => ?_) (fun h => absurd (by decide) h)
  refine fl_iinc (k := 0) (lv' := [(1, iv (wr (1 + 1))), (0, .ref x)]) C.1 dL_boards_17 hl rfl (by decide) rfl (fun ls hl => ?_)
  rw [show wr (1 + 1) = (2 : Int) from by decide +kernel] at hl
  refine fl_goto (tgt := 2) C.1 dL_boards_20 (by decide) ?_
  refine lv_iload_n C.1.1 C.1.2.1 dL_boards_2 rfl (lv_at hl 0 rfl) ?_
  refine fl_bipush C.1 dL_boards_3 (by decide) ?_
  refine fl_icmp_ge (tgt := 23) C.1 (rgk 2 rfl) (rgk 6 rfl) dL_boards_5 (by decide) (fun h => absurd h (by decide)) (fun _ => ?_)
  refine lv_aload_n C.1.1 C.1.2.1 dL_boards_8 rfl (lv_at hl 1 rfl) ?_
  refine j_judge C (by exact ⟨(Nat.le_of_ble_eq_true rfl), (Nat.le_of_ble_eq_true rfl)⟩) hI hl.1 bSf3 (Nat.le_of_ble_eq_true rfl) ⟨(Nat.le_of_ble_eq_true rfl), (Nat.le_of_ble_eq_true rfl)⟩ dL_boards_9 (fun H locs hI _ => ?_)
  refine fl_if_ge (tgt := 17) C.1 (rgk 4 rfl) dL_boards_12 (by decide) (fun _ => ?_) (fun h => absurd (by decide) h)
  refine fl_iinc (k := 0) (lv' := [(1, iv (wr (2 + 1))), (0, .ref x)]) C.1 dL_boards_17 hl rfl (by decide) rfl (fun ls hl => ?_)
  rw [show wr (2 + 1) = (3 : Int) from by decide +kernel] at hl
  refine fl_goto (tgt := 2) C.1 dL_boards_20 (by decide) ?_
  refine lv_iload_n C.1.1 C.1.2.1 dL_boards_2 rfl (lv_at hl 0 rfl) ?_
  refine fl_bipush C.1 dL_boards_3 (by decide) ?_
  refine fl_icmp_ge (tgt := 23) C.1 (rgk 3 rfl) (rgk 6 rfl) dL_boards_5 (by decide) (fun h => absurd h (by decide)) (fun _ => ?_)
  refine lv_aload_n C.1.1 C.1.2.1 dL_boards_8 rfl (lv_at hl 1 rfl) ?_
  refine j_judge C (by exact ⟨(Nat.le_of_ble_eq_true rfl), (Nat.le_of_ble_eq_true rfl)⟩) hI hl.1 bSf4 (Nat.le_of_ble_eq_true rfl) ⟨(Nat.le_of_ble_eq_true rfl), (Nat.le_of_ble_eq_true rfl)⟩ dL_boards_9 (fun H locs hI _ => ?_)
  refine fl_if_ge (tgt := 17) C.1 (rgk 1 rfl) dL_boards_12 (by decide) (fun _ => ?_) (fun h => absurd (by decide) h)
  refine fl_iinc (k := 0) (lv' := [(1, iv (wr (3 + 1))), (0, .ref x)]) C.1 dL_boards_17 hl rfl (by decide) rfl (fun ls hl => ?_)
  rw [show wr (3 + 1) = (4 : Int) from by decide +kernel] at hl
  refine fl_goto (tgt := 2) C.1 dL_boards_20 (by decide) ?_
  refine lv_iload_n C.1.1 C.1.2.1 dL_boards_2 rfl (lv_at hl 0 rfl) ?_
  refine fl_bipush C.1 dL_boards_3 (by decide) ?_
  refine fl_icmp_ge (tgt := 23) C.1 (rgk 4 rfl) (rgk 6 rfl) dL_boards_5 (by decide) (fun h => absurd h (by decide)) (fun _ => ?_)
  refine lv_aload_n C.1.1 C.1.2.1 dL_boards_8 rfl (lv_at hl 1 rfl) ?_
  refine j_judge C (by exact ⟨(Nat.le_of_ble_eq_true rfl), (Nat.le_of_ble_eq_true rfl)⟩) hI hl.1 bSf5 (Nat.le_of_ble_eq_true rfl) ⟨(Nat.le_of_ble_eq_true rfl), (Nat.le_of_ble_eq_true rfl)⟩ dL_boards_9 (fun H locs hI _ => ?_)
  refine fl_if_ge (tgt := 17) C.1 (rgk 2 rfl) dL_boards_12 (by decide) (fun _ => ?_) (fun h => absurd (by decide) h)
  refine fl_iinc (k := 0) (lv' := [(1, iv (wr (4 + 1))), (0, .ref x)]) C.1 dL_boards_17 hl rfl (by decide) rfl (fun ls hl => ?_)
  rw [show wr (4 + 1) = (5 : Int) from by decide +kernel] at hl
  refine fl_goto (tgt := 2) C.1 dL_boards_20 (by decide) ?_
  refine lv_iload_n C.1.1 C.1.2.1 dL_boards_2 rfl (lv_at hl 0 rfl) ?_
  refine fl_bipush C.1 dL_boards_3 (by decide) ?_
  refine fl_icmp_ge (tgt := 23) C.1 (rgk 5 rfl) (rgk 6 rfl) dL_boards_5 (by decide) (fun h => absurd h (by decide)) (fun _ => ?_)
  refine lv_aload_n C.1.1 C.1.2.1 dL_boards_8 rfl (lv_at hl 1 rfl) ?_
  refine j_judge C (by exact ⟨(Nat.le_of_ble_eq_true rfl), (Nat.le_of_ble_eq_true rfl)⟩) hI hl.1 bSf6 (Nat.le_of_ble_eq_true rfl) ⟨(Nat.le_of_ble_eq_true rfl), (Nat.le_of_ble_eq_true rfl)⟩ dL_boards_9 (fun H locs hI _ => ?_)
  refine fl_if_ge (tgt := 17) C.1 (rgk 5 rfl) dL_boards_12 (by decide) (fun _ => ?_) (fun h => absurd (by decide) h)
  refine fl_iinc (k := 0) (lv' := [(1, iv (wr (5 + 1))), (0, .ref x)]) C.1 dL_boards_17 hl rfl (by decide) rfl (fun ls hl => ?_)
  rw [show wr (5 + 1) = (6 : Int) from by decide +kernel] at hl
  refine fl_goto (tgt := 2) C.1 dL_boards_20 (by decide) ?_
  refine lv_iload_n C.1.1 C.1.2.1 dL_boards_2 rfl (lv_at hl 0 rfl) ?_
  refine fl_bipush C.1 dL_boards_3 (by decide) ?_
  refine fl_icmp_ge (tgt := 23) C.1 (rgk 6 rfl) (rgk 6 rfl) dL_boards_5 (by decide) (fun _ => ?_) (fun h => absurd (by decide) h)
  refine lv_aload_n C.1.1 C.1.2.1 dL_boards_23 rfl (lv_at hl 1 rfl) ?_
  refine j_judge C (by exact ⟨(Nat.le_of_ble_eq_true rfl), (Nat.le_of_ble_eq_true rfl)⟩) hI hl.1 bSf7 (Nat.le_of_ble_eq_true rfl) ⟨(Nat.le_of_ble_eq_true rfl), (Nat.le_of_ble_eq_true rfl)⟩ dL_boards_24 (fun H locs hI _ => ?_)
  refine fl_iconst C.1 dL_boards_27 ?_
  refine fl_icmp_ne (tgt := 320) C.1 (rgk (-1) rfl) (rgk (-1) rfl) dL_boards_28 (by decide) (fun h => absurd rfl h) (fun _ => ?_)
  refine lv_aload_n C.1.1 C.1.2.1 dL_boards_31 rfl (lv_at hl 1 rfl) ?_
  refine fl_iconst C.1 dL_boards_32 ?_
  refine fl_iconst C.1 dL_boards_33 ?_
  refine fl_iconst C.1 dL_boards_34 ?_
  refine fl_bipush C.1 dL_boards_35 (by decide) ?_
  refine fl_iconst C.1 dL_boards_37 ?_
  refine k_qentry hst C ⟨(Nat.le_of_ble_eq_true rfl), (Nat.le_of_ble_eq_true rfl)⟩ hI hl.1 (rgk 0 rfl) (rgk 0 rfl) (rgk (-1) rfl) (rgk 90 rfl) (rgk 4 rfl) bSf8 (Nat.le_of_ble_eq_true rfl) ⟨(Nat.le_of_ble_eq_true rfl), (Nat.le_of_ble_eq_true rfl)⟩ dL_boards_38 (fun H locs hI _ => ?_)
  refine fl_if_eq (tgt := 320) C.1 (rgk 1 rfl) dL_boards_41 (by decide) (fun h => absurd h (by decide)) (fun _ => ?_)
  refine lv_aload_n C.1.1 C.1.2.1 dL_boards_44 rfl (lv_at hl 1 rfl) ?_
  refine fl_iconst C.1 dL_boards_45 ?_
  refine fl_iconst C.1 dL_boards_46 ?_
  refine fl_iconst C.1 dL_boards_47 ?_
  refine fl_bipush C.1 dL_boards_48 (by decide) ?_
  refine fl_iconst C.1 dL_boards_50 ?_
  refine k_qentry hst C ⟨(Nat.le_of_ble_eq_true rfl), (Nat.le_of_ble_eq_true rfl)⟩ hI hl.1 (rgk 5 rfl) (rgk 0 rfl) (rgk (-1) rfl) (rgk 90 rfl) (rgk 4 rfl) bSf9 (Nat.le_of_ble_eq_true rfl) ⟨(Nat.le_of_ble_eq_true rfl), (Nat.le_of_ble_eq_true rfl)⟩ dL_boards_51 (fun H locs hI _ => ?_)
  refine fl_if_eq (tgt := 320) C.1 (rgk 1 rfl) dL_boards_54 (by decide) (fun h => absurd h (by decide)) (fun _ => ?_)
  refine lv_aload_n C.1.1 C.1.2.1 dL_boards_57 rfl (lv_at hl 1 rfl) ?_
  refine fl_bipush C.1 dL_boards_58 (by decide) ?_
  refine k_frz hst C (by exact ⟨(Nat.le_of_ble_eq_true rfl), (Nat.le_of_ble_eq_true rfl)⟩) hI hl.1 (rgk 10 rfl) (Nat.le_of_ble_eq_true rfl) ⟨(Nat.le_of_ble_eq_true rfl), (Nat.le_of_ble_eq_true rfl)⟩ dL_boards_60 (fun _ H locs hI => ?_) (fun h => absurd bSf10 h)
  have hI : HI D cy B s.heap H locs x bS8 := hI
  refine fl_iconst C.1 dL_boards_63 ?_
  refine fl_icmp_ne (tgt := 320) C.1 (rgk 1 rfl) (rgk 1 rfl) dL_boards_64 (by decide) (fun h => absurd rfl h) (fun _ => ?_)
  refine lv_aload_n C.1.1 C.1.2.1 dL_boards_67 rfl (lv_at hl 1 rfl) ?_
  refine fl_iconst C.1 dL_boards_68 ?_
  refine fl_iconst C.1 dL_boards_69 ?_
  refine fl_iconst C.1 dL_boards_70 ?_
  refine fl_iconst C.1 dL_boards_71 ?_
  refine fl_iconst C.1 dL_boards_72 ?_
  refine fl_iconst C.1 dL_boards_73 ?_
  refine k_qboard hst C ⟨(Nat.le_of_ble_eq_true rfl), (Nat.le_of_ble_eq_true rfl)⟩ hI hl.1 (rgk 2 rfl) (rgk 1 rfl) (rgk 0 rfl) (rgk 1 rfl) (rgk 0 rfl) (rgk 0 rfl) bSf11 (Nat.le_of_ble_eq_true rfl) ⟨(Nat.le_of_ble_eq_true rfl), (Nat.le_of_ble_eq_true rfl)⟩ dL_boards_74 (fun H locs hI _ => ?_)
  refine fl_if_eq (tgt := 320) C.1 (rgk 1 rfl) dL_boards_77 (by decide) (fun h => absurd h (by decide)) (fun _ => ?_)
  refine lv_aload_n C.1.1 C.1.2.1 dL_boards_80 rfl (lv_at hl 1 rfl) ?_
  refine fl_iconst C.1 dL_boards_81 ?_
  refine fl_iconst C.1 dL_boards_82 ?_
  refine fl_iconst C.1 dL_boards_83 ?_
  refine fl_iconst C.1 dL_boards_84 ?_
  refine fl_iconst C.1 dL_boards_85 ?_
  refine fl_iconst C.1 dL_boards_86 ?_
  refine k_qboard hst C ⟨(Nat.le_of_ble_eq_true rfl), (Nat.le_of_ble_eq_true rfl)⟩ hI hl.1 (rgk 3 rfl) (rgk 1 rfl) (rgk 3 rfl) (rgk 0 rfl) (rgk 0 rfl) (rgk 0 rfl) bSf12 (Nat.le_of_ble_eq_true rfl) ⟨(Nat.le_of_ble_eq_true rfl), (Nat.le_of_ble_eq_true rfl)⟩ dL_boards_87 (fun H locs hI _ => ?_)
  refine fl_if_eq (tgt := 320) C.1 (rgk 1 rfl) dL_boards_90 (by decide) (fun h => absurd h (by decide)) (fun _ => ?_)
  refine lv_aload_n C.1.1 C.1.2.1 dL_boards_93 rfl (lv_at hl 1 rfl) ?_
  refine fl_iconst C.1 dL_boards_94 ?_
  refine fl_iconst C.1 dL_boards_95 ?_
  refine fl_iconst C.1 dL_boards_96 ?_
  refine fl_iconst C.1 dL_boards_97 ?_
  refine fl_bipush C.1 dL_boards_98 (by decide) ?_
  refine fl_bipush C.1 dL_boards_100 (by decide) ?_
  refine k_qboard hst C ⟨(Nat.le_of_ble_eq_true rfl), (Nat.le_of_ble_eq_true rfl)⟩ hI hl.1 (rgk 3 rfl) (rgk 0 rfl) (rgk 1 rfl) (rgk 1 rfl) (rgk 50 rfl) (rgk 10 rfl) bSf13 (Nat.le_of_ble_eq_true rfl) ⟨(Nat.le_of_ble_eq_true rfl), (Nat.le_of_ble_eq_true rfl)⟩ dL_boards_102 (fun H locs hI _ => ?_)
  refine fl_if_eq (tgt := 320) C.1 (rgk 1 rfl) dL_boards_105 (by decide) (fun h => absurd h (by decide)) (fun _ => ?_)
  refine lv_aload_n C.1.1 C.1.2.1 dL_boards_108 rfl (lv_at hl 1 rfl) ?_
  refine j_reveal C (by exact ⟨(Nat.le_of_ble_eq_true rfl), (Nat.le_of_ble_eq_true rfl)⟩) hI hl.1 bSf14 (Nat.le_of_ble_eq_true rfl) ⟨(Nat.le_of_ble_eq_true rfl), (Nat.le_of_ble_eq_true rfl)⟩ dL_boards_109 (fun H locs hI _ => ?_)
  refine fl_bipush C.1 dL_boards_112 (by decide) ?_
  refine fl_icmp_ne (tgt := 320) C.1 (rgk 50 rfl) (rgk 50 rfl) dL_boards_114 (by decide) (fun h => absurd rfl h) (fun _ => ?_)
  refine lv_aload_n C.1.1 C.1.2.1 dL_boards_117 rfl (lv_at hl 1 rfl) ?_
  refine fl_iconst C.1 dL_boards_118 ?_
  refine fl_iconst C.1 dL_boards_119 ?_
  refine fl_iconst C.1 dL_boards_120 ?_
  refine j_board hst C (by exact ⟨(Nat.le_of_ble_eq_true rfl), (Nat.le_of_ble_eq_true rfl)⟩) hI hl.1 (rgk 5 rfl) (rgk 1 rfl) (rgk 0 rfl) bSf15 (Nat.le_of_ble_eq_true rfl) ⟨(Nat.le_of_ble_eq_true rfl), (Nat.le_of_ble_eq_true rfl)⟩ dL_boards_121 (fun H locs hI _ => ?_)
  refine fl_iconst C.1 dL_boards_124 ?_
  refine fl_icmp_ne (tgt := 320) C.1 (rgk 5 rfl) (rgk 5 rfl) dL_boards_125 (by decide) (fun h => absurd rfl h) (fun _ => ?_)
  refine lv_aload_n C.1.1 C.1.2.1 dL_boards_128 rfl (lv_at hl 1 rfl) ?_
  refine j_reveal C (by exact ⟨(Nat.le_of_ble_eq_true rfl), (Nat.le_of_ble_eq_true rfl)⟩) hI hl.1 bSf16 (Nat.le_of_ble_eq_true rfl) ⟨(Nat.le_of_ble_eq_true rfl), (Nat.le_of_ble_eq_true rfl)⟩ dL_boards_129 (fun H locs hI _ => ?_)
  refine fl_bipush C.1 dL_boards_132 (by decide) ?_
  refine fl_icmp_ne (tgt := 320) C.1 (rgk 40 rfl) (rgk 40 rfl) dL_boards_134 (by decide) (fun h => absurd rfl h) (fun _ => ?_)
  refine lv_aload_n C.1.1 C.1.2.1 dL_boards_137 rfl (lv_at hl 1 rfl) ?_
  refine j_reveal C (by exact ⟨(Nat.le_of_ble_eq_true rfl), (Nat.le_of_ble_eq_true rfl)⟩) hI hl.1 bSf17 (Nat.le_of_ble_eq_true rfl) ⟨(Nat.le_of_ble_eq_true rfl), (Nat.le_of_ble_eq_true rfl)⟩ dL_boards_138 (fun H locs hI _ => ?_)
  refine fl_bipush C.1 dL_boards_141 (by decide) ?_
  refine fl_icmp_ne (tgt := 320) C.1 (rgk 30 rfl) (rgk 30 rfl) dL_boards_143 (by decide) (fun h => absurd rfl h) (fun _ => ?_)
  refine lv_aload_n C.1.1 C.1.2.1 dL_boards_146 rfl (lv_at hl 1 rfl) ?_
  refine fl_iconst C.1 dL_boards_147 ?_
  refine fl_iconst C.1 dL_boards_148 ?_
  refine fl_iconst C.1 dL_boards_149 ?_
  refine fl_iconst C.1 dL_boards_150 ?_
  refine fl_bipush C.1 dL_boards_151 (by decide) ?_
  refine fl_bipush C.1 dL_boards_153 (by decide) ?_
  refine k_qboard hst C ⟨(Nat.le_of_ble_eq_true rfl), (Nat.le_of_ble_eq_true rfl)⟩ hI hl.1 (rgk 3 rfl) (rgk 1 rfl) (rgk 1 rfl) (rgk 1 rfl) (rgk 50 rfl) (rgk 10 rfl) bSf18 (Nat.le_of_ble_eq_true rfl) ⟨(Nat.le_of_ble_eq_true rfl), (Nat.le_of_ble_eq_true rfl)⟩ dL_boards_155 (fun H locs hI _ => ?_)
  refine fl_if_eq (tgt := 320) C.1 (rgk 1 rfl) dL_boards_158 (by decide) (fun h => absurd h (by decide)) (fun _ => ?_)
  refine lv_aload_n C.1.1 C.1.2.1 dL_boards_161 rfl (lv_at hl 1 rfl) ?_
  refine j_reveal C (by exact ⟨(Nat.le_of_ble_eq_true rfl), (Nat.le_of_ble_eq_true rfl)⟩) hI hl.1 bSf19 (Nat.le_of_ble_eq_true rfl) ⟨(Nat.le_of_ble_eq_true rfl), (Nat.le_of_ble_eq_true rfl)⟩ dL_boards_162 (fun H locs hI _ => ?_)
  refine fl_iconst C.1 dL_boards_165 ?_
  refine fl_icmp_ne (tgt := 320) C.1 (rgk (-1) rfl) (rgk (-1) rfl) dL_boards_166 (by decide) (fun h => absurd rfl h) (fun _ => ?_)
  refine lv_aload_n C.1.1 C.1.2.1 dL_boards_169 rfl (lv_at hl 1 rfl) ?_
  refine fl_bipush C.1 dL_boards_170 (by decide) ?_
  refine k_frz hst C (by exact ⟨(Nat.le_of_ble_eq_true rfl), (Nat.le_of_ble_eq_true rfl)⟩) hI hl.1 (rgk 11 rfl) (Nat.le_of_ble_eq_true rfl) ⟨(Nat.le_of_ble_eq_true rfl), (Nat.le_of_ble_eq_true rfl)⟩ dL_boards_172 (fun _ H locs hI => ?_) (fun h => absurd bSf20 h)
  have hI : HI D cy B s.heap H locs x bS13 := hI
  refine fl_iconst C.1 dL_boards_175 ?_
  refine fl_icmp_ne (tgt := 320) C.1 (rgk 1 rfl) (rgk 1 rfl) dL_boards_176 (by decide) (fun h => absurd rfl h) (fun _ => ?_)
  refine lv_aload_n C.1.1 C.1.2.1 dL_boards_179 rfl (lv_at hl 1 rfl) ?_
  refine fl_iconst C.1 dL_boards_180 ?_
  refine fl_iconst C.1 dL_boards_181 ?_
  refine fl_iconst C.1 dL_boards_182 ?_
  refine fl_iconst C.1 dL_boards_183 ?_
  refine fl_bipush C.1 dL_boards_184 (by decide) ?_
  refine fl_bipush C.1 dL_boards_186 (by decide) ?_
  refine k_qboard hst C ⟨(Nat.le_of_ble_eq_true rfl), (Nat.le_of_ble_eq_true rfl)⟩ hI hl.1 (rgk 3 rfl) (rgk 1 rfl) (rgk 1 rfl) (rgk 1 rfl) (rgk 50 rfl) (rgk 10 rfl) bSf21 (Nat.le_of_ble_eq_true rfl) ⟨(Nat.le_of_ble_eq_true rfl), (Nat.le_of_ble_eq_true rfl)⟩ dL_boards_188 (fun H locs hI _ => ?_)
  refine fl_if_eq (tgt := 320) C.1 (rgk 1 rfl) dL_boards_191 (by decide) (fun h => absurd h (by decide)) (fun _ => ?_)
  refine lv_aload_n C.1.1 C.1.2.1 dL_boards_194 rfl (lv_at hl 1 rfl) ?_
  refine j_reveal C (by exact ⟨(Nat.le_of_ble_eq_true rfl), (Nat.le_of_ble_eq_true rfl)⟩) hI hl.1 bSf22 (Nat.le_of_ble_eq_true rfl) ⟨(Nat.le_of_ble_eq_true rfl), (Nat.le_of_ble_eq_true rfl)⟩ dL_boards_195 (fun H locs hI _ => ?_)
  refine fl_iconst C.1 dL_boards_198 ?_
  refine fl_icmp_ne (tgt := 320) C.1 (rgk (-1) rfl) (rgk (-1) rfl) dL_boards_199 (by decide) (fun h => absurd rfl h) (fun _ => ?_)
  refine lv_aload_n C.1.1 C.1.2.1 dL_boards_202 rfl (lv_at hl 1 rfl) ?_
  refine fl_iconst C.1 dL_boards_203 ?_
  refine k_frz hst C (by exact ⟨(Nat.le_of_ble_eq_true rfl), (Nat.le_of_ble_eq_true rfl)⟩) hI hl.1 (rgk 0 rfl) (Nat.le_of_ble_eq_true rfl) ⟨(Nat.le_of_ble_eq_true rfl), (Nat.le_of_ble_eq_true rfl)⟩ dL_boards_204 (fun _ H locs hI => ?_) (fun h => absurd bSf23 h)
  have hI : HI D cy B s.heap H locs x bS15 := hI
  refine fl_iconst C.1 dL_boards_207 ?_
  refine fl_icmp_ne (tgt := 320) C.1 (rgk 1 rfl) (rgk 1 rfl) dL_boards_208 (by decide) (fun h => absurd rfl h) (fun _ => ?_)
  refine lv_aload_n C.1.1 C.1.2.1 dL_boards_211 rfl (lv_at hl 1 rfl) ?_
  refine fl_iconst C.1 dL_boards_212 ?_
  refine fl_iconst C.1 dL_boards_213 ?_
  refine fl_iconst C.1 dL_boards_214 ?_
  refine fl_iconst C.1 dL_boards_215 ?_
  refine fl_iconst C.1 dL_boards_216 ?_
  refine fl_iconst C.1 dL_boards_217 ?_
  refine k_qboard hst C ⟨(Nat.le_of_ble_eq_true rfl), (Nat.le_of_ble_eq_true rfl)⟩ hI hl.1 (rgk 2 rfl) (rgk 1 rfl) (rgk 2 rfl) (rgk 0 rfl) (rgk 0 rfl) (rgk 0 rfl) bSf24 (Nat.le_of_ble_eq_true rfl) ⟨(Nat.le_of_ble_eq_true rfl), (Nat.le_of_ble_eq_true rfl)⟩ dL_boards_218 (fun H locs hI _ => ?_)
  refine fl_if_eq (tgt := 320) C.1 (rgk 1 rfl) dL_boards_221 (by decide) (fun h => absurd h (by decide)) (fun _ => ?_)
  exact W.widen (Nat.le_of_ble_eq_true rfl) (Nat.le_of_ble_eq_true rfl) (kk H locs ls hI hl)
set_option maxRecDepth 100000 in
set_option maxHeartbeats 4000000 in
theorem w_boards_1 (hst : l.stackTraces = false) (C : LC p s m meth c D cy B cL_boards 2) (hr : meth.sig.returnType = some .boolean) : ∀ (H : Heap) (locs : List Loc) (ls : Array Slot), HI D cy B s.heap H locs x bS15 → lv_has ls 2 [(1, iv 6), (0, .ref x)] → W p l e rm_L_boards s m args below meth c H locs 69 414 (MQ below (HQ D cy B x 1 bS22) args s 1223 256206 (fun q => B ≤ q)) (F0 m 224 ls []) := by
  intro H locs ls hI hl
  refine lv_aload_n C.1.1 C.1.2.1 dL_boards_224 rfl (lv_at hl 1 rfl) ?_
  refine j_reveal C (by exact ⟨(Nat.le_of_ble_eq_true rfl), (Nat.le_of_ble_eq_true rfl)⟩) hI hl.1 bSf25 (Nat.le_of_ble_eq_true rfl) ⟨(Nat.le_of_ble_eq_true rfl), (Nat.le_of_ble_eq_true rfl)⟩ dL_boards_225 (fun H locs hI _ => ?_)
  refine fl_bipush C.1 dL_boards_228 (by decide) ?_
  refine fl_icmp_ne (tgt := 320) C.1 (rgk 50 rfl) (rgk 50 rfl) dL_boards_230 (by decide) (fun h => absurd rfl h) (fun _ => ?_)
  refine lv_aload_n C.1.1 C.1.2.1 dL_boards_233 rfl (lv_at hl 1 rfl) ?_
  refine j_reveal C (by exact ⟨(Nat.le_of_ble_eq_true rfl), (Nat.le_of_ble_eq_true rfl)⟩) hI hl.1 bSf26 (Nat.le_of_ble_eq_true rfl) ⟨(Nat.le_of_ble_eq_true rfl), (Nat.le_of_ble_eq_true rfl)⟩ dL_boards_234 (fun H locs hI _ => ?_)
  refine fl_bipush C.1 dL_boards_237 (by decide) ?_
  refine fl_icmp_ne (tgt := 320) C.1 (rgk 40 rfl) (rgk 40 rfl) dL_boards_239 (by decide) (fun h => absurd rfl h) (fun _ => ?_)
  refine lv_aload_n C.1.1 C.1.2.1 dL_boards_242 rfl (lv_at hl 1 rfl) ?_
  refine j_reveal C (by exact ⟨(Nat.le_of_ble_eq_true rfl), (Nat.le_of_ble_eq_true rfl)⟩) hI hl.1 bSf27 (Nat.le_of_ble_eq_true rfl) ⟨(Nat.le_of_ble_eq_true rfl), (Nat.le_of_ble_eq_true rfl)⟩ dL_boards_243 (fun H locs hI _ => ?_)
  refine fl_bipush C.1 dL_boards_246 (by decide) ?_
  refine fl_icmp_ne (tgt := 320) C.1 (rgk 30 rfl) (rgk 30 rfl) dL_boards_248 (by decide) (fun h => absurd rfl h) (fun _ => ?_)
  refine lv_aload_n C.1.1 C.1.2.1 dL_boards_251 rfl (lv_at hl 1 rfl) ?_
  refine fl_iconst C.1 dL_boards_252 ?_
  refine fl_iconst C.1 dL_boards_253 ?_
  refine fl_iconst C.1 dL_boards_254 ?_
  refine fl_iconst C.1 dL_boards_255 ?_
  refine fl_bipush C.1 dL_boards_256 (by decide) ?_
  refine fl_bipush C.1 dL_boards_258 (by decide) ?_
  refine k_qboard hst C ⟨(Nat.le_of_ble_eq_true rfl), (Nat.le_of_ble_eq_true rfl)⟩ hI hl.1 (rgk 3 rfl) (rgk 1 rfl) (rgk 0 rfl) (rgk 1 rfl) (rgk 50 rfl) (rgk 10 rfl) bSf28 (Nat.le_of_ble_eq_true rfl) ⟨(Nat.le_of_ble_eq_true rfl), (Nat.le_of_ble_eq_true rfl)⟩ dL_boards_260 (fun H locs hI _ => ?_)
  refine fl_if_eq (tgt := 320) C.1 (rgk 1 rfl) dL_boards_263 (by decide) (fun h => absurd h (by decide)) (fun _ => ?_)
  refine lv_aload_n C.1.1 C.1.2.1 dL_boards_266 rfl (lv_at hl 1 rfl) ?_
  refine j_reveal C (by exact ⟨(Nat.le_of_ble_eq_true rfl), (Nat.le_of_ble_eq_true rfl)⟩) hI hl.1 bSf29 (Nat.le_of_ble_eq_true rfl) ⟨(Nat.le_of_ble_eq_true rfl), (Nat.le_of_ble_eq_true rfl)⟩ dL_boards_267 (fun H locs hI _ => ?_)
  refine fl_bipush C.1 dL_boards_270 (by decide) ?_
  refine fl_icmp_ne (tgt := 320) C.1 (rgk 20 rfl) (rgk 20 rfl) dL_boards_272 (by decide) (fun h => absurd rfl h) (fun _ => ?_)
  refine lv_aload_n C.1.1 C.1.2.1 dL_boards_275 rfl (lv_at hl 1 rfl) ?_
  refine fl_iconst C.1 dL_boards_276 ?_
  refine fl_iconst C.1 dL_boards_277 ?_
  refine fl_iconst C.1 dL_boards_278 ?_
  refine fl_iconst C.1 dL_boards_279 ?_
  refine fl_iconst C.1 dL_boards_280 ?_
  refine fl_iconst C.1 dL_boards_281 ?_
  refine k_qboard hst C ⟨(Nat.le_of_ble_eq_true rfl), (Nat.le_of_ble_eq_true rfl)⟩ hI hl.1 (rgk 2 rfl) (rgk 1 rfl) (rgk 0 rfl) (rgk 1 rfl) (rgk 0 rfl) (rgk 0 rfl) bSf30 (Nat.le_of_ble_eq_true rfl) ⟨(Nat.le_of_ble_eq_true rfl), (Nat.le_of_ble_eq_true rfl)⟩ dL_boards_282 (fun H locs hI _ => ?_)
  refine fl_if_eq (tgt := 320) C.1 (rgk 1 rfl) dL_boards_285 (by decide) (fun h => absurd h (by decide)) (fun _ => ?_)
  refine lv_aload_n C.1.1 C.1.2.1 dL_boards_288 rfl (lv_at hl 1 rfl) ?_
  refine j_reveal C (by exact ⟨(Nat.le_of_ble_eq_true rfl), (Nat.le_of_ble_eq_true rfl)⟩) hI hl.1 bSf31 (Nat.le_of_ble_eq_true rfl) ⟨(Nat.le_of_ble_eq_true rfl), (Nat.le_of_ble_eq_true rfl)⟩ dL_boards_289 (fun H locs hI _ => ?_)
  refine fl_iconst C.1 dL_boards_292 ?_
  refine fl_icmp_ne (tgt := 320) C.1 (rgk (-1) rfl) (rgk (-1) rfl) dL_boards_293 (by decide) (fun h => absurd rfl h) (fun _ => ?_)
  refine lv_aload_n C.1.1 C.1.2.1 dL_boards_296 rfl (lv_at hl 1 rfl) ?_
  refine fl_iconst C.1 dL_boards_297 ?_
  refine k_frz hst C (by exact ⟨(Nat.le_of_ble_eq_true rfl), (Nat.le_of_ble_eq_true rfl)⟩) hI hl.1 (rgk (-1) rfl) (Nat.le_of_ble_eq_true rfl) ⟨(Nat.le_of_ble_eq_true rfl), (Nat.le_of_ble_eq_true rfl)⟩ dL_boards_298 (fun _ H locs hI => ?_) (fun h => absurd bSf32 h)
  have hI : HI D cy B s.heap H locs x bS21 := hI
  refine fl_iconst C.1 dL_boards_301 ?_
  refine fl_icmp_ne (tgt := 320) C.1 (rgk 1 rfl) (rgk 1 rfl) dL_boards_302 (by decide) (fun h => absurd rfl h) (fun _ => ?_)
  refine lv_aload_n C.1.1 C.1.2.1 dL_boards_305 rfl (lv_at hl 1 rfl) ?_
  refine fl_iconst C.1 dL_boards_306 ?_
  refine fl_iconst C.1 dL_boards_307 ?_
  refine fl_iconst C.1 dL_boards_308 ?_
  refine fl_iconst C.1 dL_boards_309 ?_
  refine fl_bipush C.1 dL_boards_310 (by decide) ?_
  refine fl_bipush C.1 dL_boards_312 (by decide) ?_
  refine k_qboard hst C ⟨(Nat.le_of_ble_eq_true rfl), (Nat.le_of_ble_eq_true rfl)⟩ hI hl.1 (rgk 3 rfl) (rgk 1 rfl) (rgk 1 rfl) (rgk 1 rfl) (rgk 50 rfl) (rgk 10 rfl) bSf33 (Nat.le_of_ble_eq_true rfl) ⟨(Nat.le_of_ble_eq_true rfl), (Nat.le_of_ble_eq_true rfl)⟩ dL_boards_314 (fun H locs hI _ => ?_)
  refine fl_if_ne (tgt := 322) C.1 (rgk 1 rfl) dL_boards_317 (by decide) (fun _ => ?_) (fun h => absurd h (by decide))
  refine lv_aload_n C.1.1 C.1.2.1 dL_boards_322 rfl (lv_at hl 1 rfl) ?_
  refine fl_sipush C.1 dL_boards_323 (by decide) ?_
  refine j_pass hst C (by exact ⟨(Nat.le_of_ble_eq_true rfl), (Nat.le_of_ble_eq_true rfl)⟩) hI hl.1 (rgk 300 rfl) bSf34 (Nat.le_of_ble_eq_true rfl) ⟨(Nat.le_of_ble_eq_true rfl), (Nat.le_of_ble_eq_true rfl)⟩ dL_boards_326 (fun H locs hI _ => ?_)
  refine fl_sipush C.1 dL_boards_329 (by decide) ?_
  refine fl_icmp_ne (tgt := 375) C.1 (rgk 310 rfl) (rgk 310 rfl) dL_boards_332 (by decide) (fun h => absurd rfl h) (fun _ => ?_)
  refine lv_aload_n C.1.1 C.1.2.1 dL_boards_335 rfl (lv_at hl 1 rfl) ?_
  refine fl_iconst C.1 dL_boards_336 ?_
  refine j_placeAnew hst C (by exact ⟨(Nat.le_of_ble_eq_true rfl), (Nat.le_of_ble_eq_true rfl)⟩) hI hl.1 (rgk 2 rfl) bSf35 (Nat.le_of_ble_eq_true rfl) ⟨(Nat.le_of_ble_eq_true rfl), (Nat.le_of_ble_eq_true rfl)⟩ dL_boards_337 (fun H locs hI _ => ?_)
  refine fl_if_ne (tgt := 375) C.1 (rgk 0 rfl) dL_boards_340 (by decide) (fun h => absurd rfl h) (fun _ => ?_)
  refine lv_aload_n C.1.1 C.1.2.1 dL_boards_343 rfl (lv_at hl 1 rfl) ?_
  refine fl_iconst C.1 dL_boards_344 ?_
  refine j_placeAnew hst C (by exact ⟨(Nat.le_of_ble_eq_true rfl), (Nat.le_of_ble_eq_true rfl)⟩) hI hl.1 (rgk 3 rfl) bSf36 (Nat.le_of_ble_eq_true rfl) ⟨(Nat.le_of_ble_eq_true rfl), (Nat.le_of_ble_eq_true rfl)⟩ dL_boards_345 (fun H locs hI _ => ?_)
  refine fl_iconst C.1 dL_boards_348 ?_
  refine fl_icmp_ne (tgt := 375) C.1 (rgk 1 rfl) (rgk 1 rfl) dL_boards_349 (by decide) (fun h => absurd rfl h) (fun _ => ?_)
  refine lv_aload_n C.1.1 C.1.2.1 dL_boards_352 rfl (lv_at hl 1 rfl) ?_
  refine fl_iconst C.1 dL_boards_353 ?_
  refine j_placeAnew hst C (by exact ⟨(Nat.le_of_ble_eq_true rfl), (Nat.le_of_ble_eq_true rfl)⟩) hI hl.1 (rgk 5 rfl) bSf37 (Nat.le_of_ble_eq_true rfl) ⟨(Nat.le_of_ble_eq_true rfl), (Nat.le_of_ble_eq_true rfl)⟩ dL_boards_354 (fun H locs hI _ => ?_)
  refine fl_iconst C.1 dL_boards_357 ?_
  refine fl_icmp_ne (tgt := 375) C.1 (rgk 5 rfl) (rgk 5 rfl) dL_boards_358 (by decide) (fun h => absurd rfl h) (fun _ => ?_)
  refine lv_aload_n C.1.1 C.1.2.1 dL_boards_361 rfl (lv_at hl 1 rfl) ?_
  refine fl_iconst C.1 dL_boards_362 ?_
  refine fl_bipush C.1 dL_boards_363 (by decide) ?_
  refine k_refuses hst C ⟨(Nat.le_of_ble_eq_true rfl), (Nat.le_of_ble_eq_true rfl)⟩ hI hl.1 (rgk 1 rfl) (rgk 7 rfl) bSf38.1 bSf38.2 (Nat.le_of_ble_eq_true rfl) ⟨(Nat.le_of_ble_eq_true rfl), (Nat.le_of_ble_eq_true rfl)⟩ dL_boards_365 (fun H locs hI _ => ?_)
  refine fl_if_eq (tgt := 375) C.1 (rgk 1 rfl) dL_boards_368 (by decide) (fun h => absurd h (by decide)) (fun _ => ?_)
  refine fl_iconst C.1 dL_boards_371 ?_
  refine fl_goto (tgt := 376) C.1 dL_boards_372 (by decide) ?_
  exact k_zret C hI hr (rgk 1 rfl) (Or.inr rfl) dL_boards_376 (Nat.le_of_ble_eq_true rfl) (Nat.le_of_ble_eq_true rfl)
set_option maxRecDepth 100000 in
set_option maxHeartbeats 4000000 in
theorem d_boards (hst : l.stackTraces = false) : Met l yL_boards [.code yL_boards cL_boards 2 (some .boolean)] rm_L_boards (va_Pc [.ref x] (HW D cy B x oS63)) (HQ D cy B x 1 bS22) 1223 256206 (fun q => B ≤ q) := by
  refine hb_body (by decide) rfl (Nat.le_of_ble_eq_true rfl) ?_
  intro p e s m args below meth c ls C hr hI hl
  exact (w_boards_0 hst C (w_boards_1 hst C hr)) _ _ ls hI hl
end HBOA
