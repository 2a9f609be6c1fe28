section HMOS
variable {p : Program} {l : Launch} {e : Env} {R : Room} {s : State} {m : MethodId} {args : Array Value} {below : List Frame} {meth : Method} {c : Code} {H : Heap} {locs : List Loc} {cells slots mc ms : Nat} {Q : State → Prop}
variable {D : va_G} {cy : Nat → ClassId} {B : Nat} {cc : ByteArray} {nL pc : Nat} {ls : Array Slot} {rest st0 As : List Value} {x : Nat} {S S' : Hl} {v : Int}
variable {y : MethodName} {bytes : ByteArray} {maxL idx n : Nat} {ret : Option FieldType} {rm : Room} {hh : List (Nat × Nat × Nat × Nat)}
abbrev rm_L_most : Room := { frames := 12, cells := 2038, slots := 431847, locals := 350 }
theorem pm_L_most : plainM yL_most 0 := by decide +kernel
set_option maxRecDepth 100000 in
set_option maxHeartbeats 4000000 in
theorem w_most_0 (hst : l.stackTraces = false) (C : LC p s m meth c D cy B cL_most 2) (kk : ∀ (H : Heap) (locs : List Loc) (ls : Array Slot), HI D cy B s.heap H locs x fS24 → lv_has ls 2 [(1, iv 8), (0, .ref x)] → W p l e rm_L_most s m args below meth c H locs 176 31317 Q (F0 m 71 ls [])) : ∀ (H : Heap) (locs : List Loc) (ls : Array Slot), HI D cy B s.heap H locs x s0 → lv_has ls 2 [(0, .ref x)] → W p l e rm_L_most s m args below meth c H locs 23 294 Q (F0 m 8 ls []) := by
  intro H locs ls hI hl
  refine fl_iconst C.1 dL_most_8 ?_
  refine lv_istore_n (lv' := [(1, iv 0), (0, .ref x)]) C.1.1 C.1.2.1 dL_most_9 rfl hl (by decide) rfl (fun ls hl => ?_)
  refine lv_iload_n C.1.1 C.1.2.1 dL_most_10 rfl (lv_at hl 0 rfl) ?_
  refine fl_bipush C.1 dL_most_11 (by decide) ?_
  refine fl_icmp_ge (tgt := 51) C.1 (rgk 0 rfl) (rgk 7 rfl) dL_most_13 (by decide) (fun h => absurd h (by decide)) (fun _ => ?_)
  refine lv_aload_n C.1.1 C.1.2.1 dL_most_16 rfl (lv_at hl 1 rfl) ?_
  refine fl_iconst C.1 dL_most_17 ?_
  refine fl_sipush C.1 dL_most_18 (by decide) ?_
  refine lv_iload_n C.1.1 C.1.2.1 dL_most_21 rfl (lv_at hl 0 rfl) ?_
  refine fl_iconst C.1 dL_most_22 ?_
  refine h_irem (z := 0) C.1 (by decide) (by decide) (by decide) dL_most_23 ?_
  refine fl_iconst C.1 dL_most_24 ?_
  refine k_act hst C ⟨(Nat.le_of_ble_eq_true rfl), (Nat.le_of_ble_eq_true rfl)⟩ hI hl.1 (rgk 3 rfl) (rgk 500 rfl) (rgk 0 rfl) (rgk 0 rfl) fSf1 (Nat.le_of_ble_eq_true rfl) ⟨(Nat.le_of_ble_eq_true rfl), (Nat.le_of_ble_eq_true rfl)⟩ dL_most_25 (fun H locs hI _ => ?_)
  refine lv_iload_n C.1.1 C.1.2.1 dL_most_28 rfl (lv_at hl 0 rfl) ?_
  refine fl_bipush C.1 dL_most_29 (by decide) ?_
  refine fl_icmp_ge (tgt := 38) C.1 (rgk 0 rfl) (rgk 6 rfl) dL_most_31 (by decide) (fun h => absurd h (by decide)) (fun _ => ?_)
  refine lv_iload_n C.1.1 C.1.2.1 dL_most_34 rfl (lv_at hl 0 rfl) ?_
  refine fl_goto (tgt := 40) C.1 dL_most_35 (by decide) ?_
  refine fl_icmp_eq (tgt := 45) C.1 (rgk 0 rfl) (rgk 0 rfl) dL_most_40 (by decide) (fun _ => ?_) (fun h => absurd (by decide) h)
  refine fl_iinc (k := 0) (lv' := [(1, iv (wr (0 + 1))), (0, .ref x)]) C.1 dL_most_45 hl rfl (by decide) rfl (fun ls hl => ?_)
  rw [show wr (0 + 1) = (1 : Int) from by decide +kernel] at hl
  refine fl_goto (tgt := 10) C.1 dL_most_48 (by decide) ?_
  refine lv_iload_n C.1.1 C.1.2.1 dL_most_10 rfl (lv_at hl 0 rfl) ?_
  refine fl_bipush C.1 dL_most_11 (by decide) ?_
  refine fl_icmp_ge (tgt := 51) C.1 (rgk 1 rfl) (rgk 7 rfl) dL_most_13 (by decide) (fun h => absurd h (by decide)) (fun _ => ?_)
  refine lv_aload_n C.1.1 C.1.2.1 dL_most_16 rfl (lv_at hl 1 rfl) ?_
  refine fl_iconst C.1 dL_most_17 ?_
  refine fl_sipush C.1 dL_most_18 (by decide) ?_
  refine lv_iload_n C.1.1 C.1.2.1 dL_most_21 rfl (lv_at hl 0 rfl) ?_
  refine fl_iconst C.1 dL_most_22 ?_
  refine h_irem (z := 1) C.1 (by decide) (by decide) (by decide) dL_most_23 ?_
  refine fl_iconst C.1 dL_most_24 ?_
  refine k_act hst C ⟨(Nat.le_of_ble_eq_true rfl), (Nat.le_of_ble_eq_true rfl)⟩ hI hl.1 (rgk 3 rfl) (rgk 500 rfl) (rgk 1 rfl) (rgk 0 rfl) fSf2 (Nat.le_of_ble_eq_true rfl) ⟨(Nat.le_of_ble_eq_true rfl), (Nat.le_of_ble_eq_true rfl)⟩ dL_most_25 (fun H locs hI _ => ?_)
  refine lv_iload_n C.1.1 C.1.2.1 dL_most_28 rfl (lv_at hl 0 rfl) ?_
  refine fl_bipush C.1 dL_most_29 (by decide) ?_
  refine fl_icmp_ge (tgt := 38) C.1 (rgk 1 rfl) (rgk 6 rfl) dL_most_31 (by decide) (fun h => absurd h (by decide)) (fun _ => ?_)
  refine lv_iload_n C.1.1 C.1.2.1 dL_most_34 rfl (lv_at hl 0 rfl) ?_
  refine fl_goto (tgt := 40) C.1 dL_most_35 (by decide) ?_
  refine fl_icmp_eq (tgt := 45) C.1 (rgk 1 rfl) (rgk 1 rfl) dL_most_40 (by decide) (fun _ => ?_) (fun h => absurd (by decide) h)
  refine fl_iinc (k := 0) (lv' := [(1, iv (wr (1 + 1))), (0, .ref x)]) C.1 dL_most_45 hl rfl (by decide) rfl (fun ls hl => ?_)
  rw [show wr (1 + 1) = (2 : Int) from by decide +kernel] at hl
  refine fl_goto (tgt := 10) C.1 dL_most_48 (by decide) ?_
  refine lv_iload_n C.1.1 C.1.2.1 dL_most_10 rfl (lv_at hl 0 rfl) ?_
  refine fl_bipush C.1 dL_most_11 (by decide) ?_
  refine fl_icmp_ge (tgt := 51) C.1 (rgk 2 rfl) (rgk 7 rfl) dL_most_13 (by decide) (fun h => absurd h (by decide)) (fun _ => ?_)
  refine lv_aload_n C.1.1 C.1.2.1 dL_most_16 rfl (lv_at hl 1 rfl) ?_
  refine fl_iconst C.1 dL_most_17 ?_
  refine fl_sipush C.1 dL_most_18 (by decide) ?_
  refine lv_iload_n C.1.1 C.1.2.1 dL_most_21 rfl (lv_at hl 0 rfl) ?_
  refine fl_iconst C.1 dL_most_22 ?_
  refine h_irem (z := 0) C.1 (by decide) (by decide) (by decide) dL_most_23 ?_
  refine fl_iconst C.1 dL_most_24 ?_
  refine k_act hst C ⟨(Nat.le_of_ble_eq_true rfl), (Nat.le_of_ble_eq_true rfl)⟩ hI hl.1 (rgk 3 rfl) (rgk 500 rfl) (rgk 0 rfl) (rgk 0 rfl) fSf3 (Nat.le_of_ble_eq_true rfl) ⟨(Nat.le_of_ble_eq_true rfl), (Nat.le_of_ble_eq_true rfl)⟩ dL_most_25 (fun H locs hI _ => ?_)
  refine lv_iload_n C.1.1 C.1.2.1 dL_most_28 rfl (lv_at hl 0 rfl) ?_
  refine fl_bipush C.1 dL_most_29 (by decide) ?_
  refine fl_icmp_ge (tgt := 38) C.1 (rgk 2 rfl) (rgk 6 rfl) dL_most_31 (by decide) (fun h => absurd h (by decide)) (fun _ => ?_)
  refine lv_iload_n C.1.1 C.1.2.1 dL_most_34 rfl (lv_at hl 0 rfl) ?_
  refine fl_goto (tgt := 40) C.1 dL_most_35 (by decide) ?_
  refine fl_icmp_eq (tgt := 45) C.1 (rgk 2 rfl) (rgk 2 rfl) dL_most_40 (by decide) (fun _ => ?_) (fun h => absurd (by decide) h)
  refine fl_iinc (k := 0) (lv' := [(1, iv (wr (2 + 1))), (0, .ref x)]) C.1 dL_most_45 hl rfl (by decide) rfl (fun ls hl => ?_)
  rw [show wr (2 + 1) = (3 : Int) from by decide +kernel] at hl
  refine fl_goto (tgt := 10) C.1 dL_most_48 (by decide) ?_
  refine lv_iload_n C.1.1 C.1.2.1 dL_most_10 rfl (lv_at hl 0 rfl) ?_
  refine fl_bipush C.1 dL_most_11 (by decide) ?_
  refine fl_icmp_ge (tgt := 51) C.1 (rgk 3 rfl) (rgk 7 rfl) dL_most_13 (by decide) (fun h => absurd h (by decide)) (fun _ => ?_)
  refine lv_aload_n C.1.1 C.1.2.1 dL_most_16 rfl (lv_at hl 1 rfl) ?_
  refine fl_iconst C.1 dL_most_17 ?_
  refine fl_sipush C.1 dL_most_18 (by decide) ?_
  refine lv_iload_n C.1.1 C.1.2.1 dL_most_21 rfl (lv_at hl 0 rfl) ?_
  refine fl_iconst C.1 dL_most_22 ?_
  refine h_irem (z := 1) C.1 (by decide) (by decide) (by decide) dL_most_23 ?_
  refine fl_iconst C.1 dL_most_24 ?_
  refine k_act hst C ⟨(Nat.le_of_ble_eq_true rfl), (Nat.le_of_ble_eq_true rfl)⟩ hI hl.1 (rgk 3 rfl) (rgk 500 rfl) (rgk 1 rfl) (rgk 0 rfl) fSf4 (Nat.le_of_ble_eq_true rfl) ⟨(Nat.le_of_ble_eq_true rfl), (Nat.le_of_ble_eq_true rfl)⟩ dL_most_25 (fun H locs hI _ => ?_)
  refine lv_iload_n C.1.1 C.1.2.1 dL_most_28 rfl (lv_at hl 0 rfl) ?_
  refine fl_bipush C.1 dL_most_29 (by decide) ?_
  refine fl_icmp_ge (tgt := 38) C.1 (rgk 3 rfl) (rgk 6 rfl) dL_most_31 (by decide) (fun h => absurd h (by decide)) (fun _ => ?_)
  refine lv_iload_n C.1.1 C.1.2.1 dL_most_34 rfl (lv_at hl 0 rfl) ?_
  refine fl_goto (tgt := 40) C.1 dL_most_35 (by decide) ?_
  refine fl_icmp_eq (tgt := 45) C.1 (rgk 3 rfl) (rgk 3 rfl) dL_most_40 (by decide) (fun _ => ?_) (fun h => absurd (by decide) h)
  refine fl_iinc (k := 0) (lv' := [(1, iv (wr (3 + 1))), (0, .ref x)]) C.1 dL_most_45 hl rfl (by decide) rfl (fun ls hl => ?_)
  rw [show wr (3 + 1) = (4 : Int) from by decide +kernel] at hl
  refine fl_goto (tgt := 10) C.1 dL_most_48 (by decide) ?_
  refine lv_iload_n C.1.1 C.1.2.1 dL_most_10 rfl (lv_at hl 0 rfl) ?_
  refine fl_bipush C.1 dL_most_11 (by decide) ?_
  refine fl_icmp_ge (tgt := 51) C.1 (rgk 4 rfl) (rgk 7 rfl) dL_most_13 (by decide) (fun h => absurd h (by decide)) (fun _ => ?_)
  refine lv_aload_n C.1.1 C.1.2.1 dL_most_16 rfl (lv_at hl 1 rfl) ?_
  refine fl_iconst C.1 dL_most_17 ?_
  refine fl_sipush C.1 dL_most_18 (by decide) ?_
  refine lv_iload_n C.1.1 C.1.2.1 dL_most_21 rfl (lv_at hl 0 rfl) ?_
  refine fl_iconst C.1 dL_most_22 ?_
  refine h_irem (z := 0) C.1 (by decide) (by decide) (by decide) dL_most_23 ?_
  refine fl_iconst C.1 dL_most_24 ?_
  refine k_act hst C ⟨(Nat.le_of_ble_eq_true rfl), (Nat.le_of_ble_eq_true rfl)⟩ hI hl.1 (rgk 3 rfl) (rgk 500 rfl) (rgk 0 rfl) (rgk 0 rfl) fSf5 (Nat.le_of_ble_eq_true rfl) ⟨(Nat.le_of_ble_eq_true rfl), (Nat.le_of_ble_eq_true rfl)⟩ dL_most_25 (fun H locs hI _ => ?_)
  refine lv_iload_n C.1.1 C.1.2.1 dL_most_28 rfl (lv_at hl 0 rfl) ?_
  refine fl_bipush C.1 dL_most_29 (by decide) ?_
  refine fl_icmp_ge (tgt := 38) C.1 (rgk 4 rfl) (rgk 6 rfl) dL_most_31 (by decide) (fun h => absurd h (by decide)) (fun _ => ?_)
  refine lv_iload_n C.1.1 C.1.2.1 dL_most_34 rfl (lv_at hl 0 rfl) ?_
  refine fl_goto (tgt := 40) C.1 dL_most_35 (by decide) ?_
  refine fl_icmp_eq (tgt := 45) C.1 (rgk 4 rfl) (rgk 4 rfl) dL_most_40 (by decide) (fun _ => ?_) (fun h => absurd (by decide) h)
  refine fl_iinc (k := 0) (lv' := [(1, iv (wr (4 + 1))), (0, .ref x)]) C.1 dL_most_45 hl rfl (by decide) rfl (fun ls hl => ?_)
  rw [show wr (4 + 1) = (5 : Int) from by decide +kernel] at hl
  refine fl_goto (tgt := 10) C.1 dL_most_48 (by decide) ?_
  refine lv_iload_n C.1.1 C.1.2.1 dL_most_10 rfl (lv_at hl 0 rfl) ?_
  refine fl_bipush C.1 dL_most_11 (by decide) ?_
  refine fl_icmp_ge (tgt := 51) C.1 (rgk 5 rfl) (rgk 7 rfl) dL_most_13 (by decide) (fun h => absurd h (by decide)) (fun _ => ?_)
  refine lv_aload_n C.1.1 C.1.2.1 dL_most_16 rfl (lv_at hl 1 rfl) ?_
  refine fl_iconst C.1 dL_most_17 ?_
  refine fl_sipush C.1 dL_most_18 (by decide) ?_
  refine lv_iload_n C.1.1 C.1.2.1 dL_most_21 rfl (lv_at hl 0 rfl) ?_
  refine fl_iconst C.1 dL_most_22 ?_
  refine h_irem (z := 1) C.1 (by decide) (by decide) (by decide) dL_most_23 ?_
  refine fl_iconst C.1 dL_most_24 ?_
  refine k_act hst C ⟨(Nat.le_of_ble_eq_true rfl), (Nat.le_of_ble_eq_true rfl)⟩ hI hl.1 (rgk 3 rfl) (rgk 500 rfl) (rgk 1 rfl) (rgk 0 rfl) fSf6 (Nat.le_of_ble_eq_true rfl) ⟨(Nat.le_of_ble_eq_true rfl), (Nat.le_of_ble_eq_true rfl)⟩ dL_most_25 (fun H locs hI _ => ?_)
  refine lv_iload_n C.1.1 C.1.2.1 dL_most_28 rfl (lv_at hl 0 rfl) ?_
  refine fl_bipush C.1 dL_most_29 (by decide) ?_
  refine fl_icmp_ge (tgt := 38) C.1 (rgk 5 rfl) (rgk 6 rfl) dL_most_31 (by decide) (fun h => absurd h (by decide)) (fun _ => ?_)
  refine lv_iload_n C.1.1 C.1.2.1 dL_most_34 rfl (lv_at hl 0 rfl) ?_
  refine fl_goto (tgt := 40) C.1 dL_most_35 (by decide) ?_
  refine fl_icmp_eq (tgt := 45) C.1 (rgk 5 rfl) (rgk 5 rfl) dL_most_40 (by decide) (fun _ => ?_) (fun h => absurd (by decide) h)
  refine fl_iinc (k := 0) (lv' := [(1, iv (wr (5 + 1))), (0, .ref x)]) C.1 dL_most_45 hl rfl (by decide) rfl (fun ls hl => ?_)
  rw [show wr (5 + 1) = (6 : Int) from by decide +kernel] at hl
  refine fl_goto (tgt := 10) C.1 dL_most_48 (by decide) ?_
  refine lv_iload_n C.1.1 C.1.2.1 dL_most_10 rfl (lv_at hl 0 rfl) ?_
  refine fl_bipush C.1 dL_most_11 (by decide) ?_
  refine fl_icmp_ge (tgt := 51) C.1 (rgk 6 rfl) (rgk 7 rfl) dL_most_13 (by decide) (fun h => absurd h (by decide)) (fun _ => ?_)
  refine lv_aload_n C.1.1 C.1.2.1 dL_most_16 rfl (lv_at hl 1 rfl) ?_
  refine fl_iconst C.1 dL_most_17 ?_
  refine fl_sipush C.1 dL_most_18 (by decide) ?_
  refine lv_iload_n C.1.1 C.1.2.1 dL_most_21 rfl (lv_at hl 0 rfl) ?_
  refine fl_iconst C.1 dL_most_22 ?_
  refine h_irem (z := 0) C.1 (by decide) (by decide) (by decide) dL_most_23 ?_
  refine fl_iconst C.1 dL_most_24 ?_
  refine k_act hst C ⟨(Nat.le_of_ble_eq_true rfl), (Nat.le_of_ble_eq_true rfl)⟩ hI hl.1 (rgk 3 rfl) (rgk 500 rfl) (rgk 0 rfl) (rgk 0 rfl) fSf7 (Nat.le_of_ble_eq_true rfl) ⟨(Nat.le_of_ble_eq_true rfl), (Nat.le_of_ble_eq_true rfl)⟩ dL_most_25 (fun H locs hI _ => ?_)
  refine lv_iload_n C.1.1 C.1.2.1 dL_most_28 rfl (lv_at hl 0 rfl) ?_
  refine fl_bipush C.1 dL_most_29 (by decide) ?_
  refine fl_icmp_ge (tgt := 38) C.1 (rgk 6 rfl) (rgk 6 rfl) dL_most_31 (by decide) (fun _ => ?_) (fun h => absurd (by decide) h)
  refine fl_ldc (n := (-7000003)) C.1 aw_803 rfl dL_most_38 ?_
  refine fl_icmp_eq (tgt := 45) C.1 (rgk (-7000003) rfl) (rgk (-7000003) rfl) dL_most_40 (by decide) (fun _ => ?_) (fun h => absurd (by decide) h)
  refine fl_iinc (k := 0) (lv' := [(1, iv (wr (6 + 1))), (0, .ref x)]) C.1 dL_most_45 hl rfl (by decide) rfl (fun ls hl => ?_)
  rw [show wr (6 + 1) = (7 : Int) from by decide +kernel] at hl
  refine fl_goto (tgt := 10) C.1 dL_most_48 (by decide) ?_
  refine lv_iload_n C.1.1 C.1.2.1 dL_most_10 rfl (lv_at hl 0 rfl) ?_
  refine fl_bipush C.1 dL_most_11 (by decide) ?_
  refine fl_icmp_ge (tgt := 51) C.1 (rgk 7 rfl) (rgk 7 rfl) dL_most_13 (by decide) (fun _ => ?_) (fun h => absurd (by decide) h)
  refine fl_iconst C.1 dL_most_51 ?_
  refine lv_istore_n (lv' := [(1, iv 0), (0, .ref x)]) C.1.1 C.1.2.1 dL_most_52 rfl hl (by decide) rfl (fun ls hl => ?_)
  refine lv_iload_n C.1.1 C.1.2.1 dL_most_53 rfl (lv_at hl 0 rfl) ?_
  refine fl_bipush C.1 dL_most_54 (by decide) ?_
  refine fl_icmp_ge (tgt := 104) C.1 (rgk 0 rfl) (rgk 13 rfl) dL_most_56 (by decide) (fun h => absurd h (by decide)) (fun _ => ?_)
  refine lv_aload_n C.1.1 C.1.2.1 dL_most_59 rfl (lv_at hl 1 rfl) ?_
  refine lv_iload_n C.1.1 C.1.2.1 dL_most_60 rfl (lv_at hl 0 rfl) ?_
  refine fl_bipush C.1 dL_most_61 (by decide) ?_
  refine h_irem (z := 0) C.1 (by decide) (by decide) (by decide) dL_most_63 ?_
  refine j_input hst C (by exact ⟨(Nat.le_of_ble_eq_true rfl), (Nat.le_of_ble_eq_true rfl)⟩) hI hl.1 (rgk 0 rfl) fSf8 (Nat.le_of_ble_eq_true rfl) ⟨(Nat.le_of_ble_eq_true rfl), (Nat.le_of_ble_eq_true rfl)⟩ dL_most_64 (fun H locs hI _ => ?_)
  refine fl_iconst C.1 dL_most_67 ?_
  refine fl_icmp_ne (tgt := 96) C.1 (rgk 1 rfl) (rgk 1 rfl) dL_most_68 (by decide) (fun h => absurd rfl h) (fun _ => ?_)
  refine lv_aload_n C.1.1 C.1.2.1 dL_most_71 rfl (lv_at hl 1 rfl) ?_
  refine fl_iconst C.1 dL_most_72 ?_
  refine fl_iconst C.1 dL_most_73 ?_
  refine lv_iload_n C.1.1 C.1.2.1 dL_most_74 rfl (lv_at hl 0 rfl) ?_
  refine fl_iconst C.1 dL_most_75 ?_
  refine h_irem (z := 0) C.1 (by decide) (by decide) (by decide) dL_most_76 ?_
  refine fl_iconst C.1 dL_most_77 ?_
  refine k_act hst C ⟨(Nat.le_of_ble_eq_true rfl), (Nat.le_of_ble_eq_true rfl)⟩ hI hl.1 (rgk 4 rfl) (rgk 5 rfl) (rgk 0 rfl) (rgk 0 rfl) fSf9 (Nat.le_of_ble_eq_true rfl) ⟨(Nat.le_of_ble_eq_true rfl), (Nat.le_of_ble_eq_true rfl)⟩ dL_most_78 (fun H locs hI _ => ?_)
  refine lv_iload_n C.1.1 C.1.2.1 dL_most_81 rfl (lv_at hl 0 rfl) ?_
  refine fl_bipush C.1 dL_most_82 (by decide) ?_
  refine fl_icmp_ge (tgt := 91) C.1 (rgk 0 rfl) (rgk 12 rfl) dL_most_84 (by decide) (fun h => absurd h (by decide)) (fun _ => ?_)
  refine lv_iload_n C.1.1 C.1.2.1 dL_most_87 rfl (lv_at hl 0 rfl) ?_
  refine fl_goto (tgt := 93) C.1 dL_most_88 (by decide) ?_
  refine fl_icmp_eq (tgt := 98) C.1 (rgk 0 rfl) (rgk 0 rfl) dL_most_93 (by decide) (fun _ => ?_) (fun h => absurd (by decide) h)
  refine fl_iinc (k := 0) (lv' := [(1, iv (wr (0 + 1))), (0, .ref x)]) C.1 dL_most_98 hl rfl (by decide) rfl (fun ls hl => ?_)
  rw [show wr (0 + 1) = (1 : Int) from by decide +kernel] at hl
  refine fl_goto (tgt := 53) C.1 dL_most_101 (by decide) ?_
  refine lv_iload_n C.1.1 C.1.2.1 dL_most_53 rfl (lv_at hl 0 rfl) ?_
  refine fl_bipush C.1 dL_most_54 (by decide) ?_
  refine fl_icmp_ge (tgt := 104) C.1 (rgk 1 rfl) (rgk 13 rfl) dL_most_56 (by decide) (fun h => absurd h (by decide)) (fun _ => ?_)
  refine lv_aload_n C.1.1 C.1.2.1 dL_most_59 rfl (lv_at hl 1 rfl) ?_
  refine lv_iload_n C.1.1 C.1.2.1 dL_most_60 rfl (lv_at hl 0 rfl) ?_
  refine fl_bipush C.1 dL_most_61 (by decide) ?_
  refine h_irem (z := 1) C.1 (by decide) (by decide) (by decide) dL_most_63 ?_
  refine j_input hst C (by exact ⟨(Nat.le_of_ble_eq_true rfl), (Nat.le_of_ble_eq_true rfl)⟩) hI hl.1 (rgk 1 rfl) fSf10 (Nat.le_of_ble_eq_true rfl) ⟨(Nat.le_of_ble_eq_true rfl), (Nat.le_of_ble_eq_true rfl)⟩ dL_most_64 (fun H locs hI _ => ?_)
  refine fl_iconst C.1 dL_most_67 ?_
  refine fl_icmp_ne (tgt := 96) C.1 (rgk 1 rfl) (rgk 1 rfl) dL_most_68 (by decide) (fun h => absurd rfl h) (fun _ => ?_)
  refine lv_aload_n C.1.1 C.1.2.1 dL_most_71 rfl (lv_at hl 1 rfl) ?_
  refine fl_iconst C.1 dL_most_72 ?_
  refine fl_iconst C.1 dL_most_73 ?_
  refine lv_iload_n C.1.1 C.1.2.1 dL_most_74 rfl (lv_at hl 0 rfl) ?_
  refine fl_iconst C.1 dL_most_75 ?_
  refine h_irem (z := 1) C.1 (by decide) (by decide) (by decide) dL_most_76 ?_
  refine fl_iconst C.1 dL_most_77 ?_
  refine k_act hst C ⟨(Nat.le_of_ble_eq_true rfl), (Nat.le_of_ble_eq_true rfl)⟩ hI hl.1 (rgk 4 rfl) (rgk 5 rfl) (rgk 1 rfl) (rgk 0 rfl) fSf11 (Nat.le_of_ble_eq_true rfl) ⟨(Nat.le_of_ble_eq_true rfl), (Nat.le_of_ble_eq_true rfl)⟩ dL_most_78 (fun H locs hI _ => ?_)
  refine lv_iload_n C.1.1 C.1.2.1 dL_most_81 rfl (lv_at hl 0 rfl) ?_
  refine fl_bipush C.1 dL_most_82 (by decide) ?_
  refine fl_icmp_ge (tgt := 91) C.1 (rgk 1 rfl) (rgk 12 rfl) dL_most_84 (by decide) (fun h => absurd h (by decide)) (fun _ => ?_)
  refine lv_iload_n C.1.1 C.1.2.1 dL_most_87 rfl (lv_at hl 0 rfl) ?_
  refine fl_goto (tgt := 93) C.1 dL_most_88 (by decide) ?_
  refine fl_icmp_eq (tgt := 98) C.1 (rgk 1 rfl) (rgk 1 rfl) dL_most_93 (by decide) (fun _ => ?_) (fun h => absurd (by decide) h)
  refine fl_iinc (k := 0) (lv' := [(1, iv (wr (1 + 1))), (0, .ref x)]) C.1 dL_most_98 hl rfl (by decide) rfl (fun ls hl => ?_)
  rw [show wr (1 + 1) = (2 : Int) from by decide +kernel] at hl
  refine fl_goto (tgt := 53) C.1 dL_most_101 (by decide) ?_
  refine lv_iload_n C.1.1 C.1.2.1 dL_most_53 rfl (lv_at hl 0 rfl) ?_
  refine fl_bipush C.1 dL_most_54 (by decide) ?_
  refine fl_icmp_ge (tgt := 104) C.1 (rgk 2 rfl) (rgk 13 rfl) dL_most_56 (by decide) (fun h => absurd h (by decide)) (fun _ => ?_)
  refine lv_aload_n C.1.1 C.1.2.1 dL_most_59 rfl (lv_at hl 1 rfl) ?_
  refine lv_iload_n C.1.1 C.1.2.1 dL_most_60 rfl (lv_at hl 0 rfl) ?_
  refine fl_bipush C.1 dL_most_61 (by decide) ?_
  refine h_irem (z := 2) C.1 (by decide) (by decide) (by decide) dL_most_63 ?_
  refine j_input hst C (by exact ⟨(Nat.le_of_ble_eq_true rfl), (Nat.le_of_ble_eq_true rfl)⟩) hI hl.1 (rgk 2 rfl) fSf12 (Nat.le_of_ble_eq_true rfl) ⟨(Nat.le_of_ble_eq_true rfl), (Nat.le_of_ble_eq_true rfl)⟩ dL_most_64 (fun H locs hI _ => ?_)
  refine fl_iconst C.1 dL_most_67 ?_
  refine fl_icmp_ne (tgt := 96) C.1 (rgk 1 rfl) (rgk 1 rfl) dL_most_68 (by decide) (fun h => absurd rfl h) (fun _ => ?_)
  refine lv_aload_n C.1.1 C.1.2.1 dL_most_71 rfl (lv_at hl 1 rfl) ?_
  refine fl_iconst C.1 dL_most_72 ?_
  refine fl_iconst C.1 dL_most_73 ?_
  refine lv_iload_n C.1.1 C.1.2.1 dL_most_74 rfl (lv_at hl 0 rfl) ?_
  refine fl_iconst C.1 dL_most_75 ?_
  refine h_irem (z := 2) C.1 (by decide) (by decide) (by decide) dL_most_76 ?_
  refine fl_iconst C.1 dL_most_77 ?_
  refine k_act hst C ⟨(Nat.le_of_ble_eq_true rfl), (Nat.le_of_ble_eq_true rfl)⟩ hI hl.1 (rgk 4 rfl) (rgk 5 rfl) (rgk 2 rfl) (rgk 0 rfl) fSf13 (Nat.le_of_ble_eq_true rfl) ⟨(Nat.le_of_ble_eq_true rfl), (Nat.le_of_ble_eq_true rfl)⟩ dL_most_78 (fun H locs hI _ => ?_)
  refine lv_iload_n C.1.1 C.1.2.1 dL_most_81 rfl (lv_at hl 0 rfl) ?_
  refine fl_bipush C.1 dL_most_82 (by decide) ?_
  refine fl_icmp_ge (tgt := 91) C.1 (rgk 2 rfl) (rgk 12 rfl) dL_most_84 (by decide) (fun h => absurd h (by decide)) (fun _ => ?_)
  refine lv_iload_n C.1.1 C.1.2.1 dL_most_87 rfl (lv_at hl 0 rfl) ?_
  refine fl_goto (tgt := 93) C.1 dL_most_88 (by decide) ?_
  refine fl_icmp_eq (tgt := 98) C.1 (rgk 2 rfl) (rgk 2 rfl) dL_most_93 (by decide) (fun _ => ?_) (fun h => absurd (by decide) h)
  refine fl_iinc (k := 0) (lv' := [(1, iv (wr (2 + 1))), (0, .ref x)]) C.1 dL_most_98 hl rfl (by decide) rfl (fun ls hl => ?_)
  rw [show wr (2 + 1) = (3 : Int) from by decide +kernel] at hl
  refine fl_goto (tgt := 53) C.1 dL_most_101 (by decide) ?_
  refine lv_iload_n C.1.1 C.1.2.1 dL_most_53 rfl (lv_at hl 0 rfl) ?_
  refine fl_bipush C.1 dL_most_54 (by decide) ?_
  refine fl_icmp_ge (tgt := 104) C.1 (rgk 3 rfl) (rgk 13 rfl) dL_most_56 (by decide) (fun h => absurd h (by decide)) (fun _ => ?_)
  refine lv_aload_n C.1.1 C.1.2.1 dL_most_59 rfl (lv_at hl 1 rfl) ?_
  refine lv_iload_n C.1.1 C.1.2.1 dL_most_60 rfl (lv_at hl 0 rfl) ?_
  refine fl_bipush C.1 dL_most_61 (by decide) ?_
  refine h_irem (z := 3) C.1 (by decide) (by decide) (by decide) dL_most_63 ?_
  refine j_input hst C (by exact ⟨(Nat.le_of_ble_eq_true rfl), (Nat.le_of_ble_eq_true rfl)⟩) hI hl.1 (rgk 3 rfl) fSf14 (Nat.le_of_ble_eq_true rfl) ⟨(Nat.le_of_ble_eq_true rfl), (Nat.le_of_ble_eq_true rfl)⟩ dL_most_64 (fun H locs hI _ => ?_)
  refine fl_iconst C.1 dL_most_67 ?_
  refine fl_icmp_ne (tgt := 96) C.1 (rgk 1 rfl) (rgk 1 rfl) dL_most_68 (by decide) (fun h => absurd rfl h) (fun _ => ?_)
  refine lv_aload_n C.1.1 C.1.2.1 dL_most_71 rfl (lv_at hl 1 rfl) ?_
  refine fl_iconst C.1 dL_most_72 ?_
  refine fl_iconst C.1 dL_most_73 ?_
  refine lv_iload_n C.1.1 C.1.2.1 dL_most_74 rfl (lv_at hl 0 rfl) ?_
  refine fl_iconst C.1 dL_most_75 ?_
  refine h_irem (z := 3) C.1 (by decide) (by decide) (by decide) dL_most_76 ?_
  refine fl_iconst C.1 dL_most_77 ?_
  refine k_act hst C ⟨(Nat.le_of_ble_eq_true rfl), (Nat.le_of_ble_eq_true rfl)⟩ hI hl.1 (rgk 4 rfl) (rgk 5 rfl) (rgk 3 rfl) (rgk 0 rfl) fSf15 (Nat.le_of_ble_eq_true rfl) ⟨(Nat.le_of_ble_eq_true rfl), (Nat.le_of_ble_eq_true rfl)⟩ dL_most_78 (fun H locs hI _ => ?_)
  refine lv_iload_n C.1.1 C.1.2.1 dL_most_81 rfl (lv_at hl 0 rfl) ?_
  refine fl_bipush C.1 dL_most_82 (by decide) ?_
  refine fl_icmp_ge (tgt := 91) C.1 (rgk 3 rfl) (rgk 12 rfl) dL_most_84 (by decide) (fun h => absurd h (by decide)) (fun _ => ?_)
  refine lv_iload_n C.1.1 C.1.2.1 dL_most_87 rfl (lv_at hl 0 rfl) ?_
  refine fl_goto (tgt := 93) C.1 dL_most_88 (by decide) ?_
  refine fl_icmp_eq (tgt := 98) C.1 (rgk 3 rfl) (rgk 3 rfl) dL_most_93 (by decide) (fun _ => ?_) (fun h => absurd (by decide) h)
  refine fl_iinc (k := 0) (lv' := [(1, iv (wr (3 + 1))), (0, .ref x)]) C.1 dL_most_98 hl rfl (by decide) rfl (fun ls hl => ?_)
  rw [show wr (3 + 1) = (4 : Int) from by decide +kernel] at hl
  refine fl_goto (tgt := 53) C.1 dL_most_101 (by decide) ?_
  refine lv_iload_n C.1.1 C.1.2.1 dL_most_53 rfl (lv_at hl 0 rfl) ?_
  refine fl_bipush C.1 dL_most_54 (by decide) ?_
  refine fl_icmp_ge (tgt := 104) C.1 (rgk 4 rfl) (rgk 13 rfl) dL_most_56 (by decide) (fun h => absurd h (by decide)) (fun _ => ?_)
  refine lv_aload_n C.1.1 C.1.2.1 dL_most_59 rfl (lv_at hl 1 rfl) ?_
  refine lv_iload_n C.1.1 C.1.2.1 dL_most_60 rfl (lv_at hl 0 rfl) ?_
  refine fl_bipush C.1 dL_most_61 (by decide) ?_
  refine h_irem (z := 4) C.1 (by decide) (by decide) (by decide) dL_most_63 ?_
  refine j_input hst C (by exact ⟨(Nat.le_of_ble_eq_true rfl), (Nat.le_of_ble_eq_true rfl)⟩) hI hl.1 (rgk 4 rfl) fSf16 (Nat.le_of_ble_eq_true rfl) ⟨(Nat.le_of_ble_eq_true rfl), (Nat.le_of_ble_eq_true rfl)⟩ dL_most_64 (fun H locs hI _ => ?_)
  refine fl_iconst C.1 dL_most_67 ?_
  refine fl_icmp_ne (tgt := 96) C.1 (rgk 1 rfl) (rgk 1 rfl) dL_most_68 (by decide) (fun h => absurd rfl h) (fun _ => ?_)
  refine lv_aload_n C.1.1 C.1.2.1 dL_most_71 rfl (lv_at hl 1 rfl) ?_
  refine fl_iconst C.1 dL_most_72 ?_
  refine fl_iconst C.1 dL_most_73 ?_
  refine lv_iload_n C.1.1 C.1.2.1 dL_most_74 rfl (lv_at hl 0 rfl) ?_
  refine fl_iconst C.1 dL_most_75 ?_
  refine h_irem (z := 0) C.1 (by decide) (by decide) (by decide) dL_most_76 ?_
  refine fl_iconst C.1 dL_most_77 ?_
  refine k_act hst C ⟨(Nat.le_of_ble_eq_true rfl), (Nat.le_of_ble_eq_true rfl)⟩ hI hl.1 (rgk 4 rfl) (rgk 5 rfl) (rgk 0 rfl) (rgk 0 rfl) fSf17 (Nat.le_of_ble_eq_true rfl) ⟨(Nat.le_of_ble_eq_true rfl), (Nat.le_of_ble_eq_true rfl)⟩ dL_most_78 (fun H locs hI _ => ?_)
  refine lv_iload_n C.1.1 C.1.2.1 dL_most_81 rfl (lv_at hl 0 rfl) ?_
  refine fl_bipush C.1 dL_most_82 (by decide) ?_
  refine fl_icmp_ge (tgt := 91) C.1 (rgk 4 rfl) (rgk 12 rfl) dL_most_84 (by decide) (fun h => absurd h (by decide)) (fun _ => ?_)
  refine lv_iload_n C.1.1 C.1.2.1 dL_most_87 rfl (lv_at hl 0 rfl) ?_
  refine fl_goto (tgt := 93) C.1 dL_most_88 (by decide) ?_
  refine fl_icmp_eq (tgt := 98) C.1 (rgk 4 rfl) (rgk 4 rfl) dL_most_93 (by decide) (fun _ => ?_) (fun h => absurd (by decide) h)
  refine fl_iinc (k := 0) (lv' := [(1, iv (wr (4 + 1))), (0, .ref x)]) C.1 dL_most_98 hl rfl (by decide) rfl (fun ls hl => ?_)
  rw [show wr (4 + 1) = (5 : Int) from by decide +kernel] at hl
  refine fl_goto (tgt := 53) C.1 dL_most_101 (by decide) ?_
  refine lv_iload_n C.1.1 C.1.2.1 dL_most_53 rfl (lv_at hl 0 rfl) ?_
  refine fl_bipush C.1 dL_most_54 (by decide) ?_
  refine fl_icmp_ge (tgt := 104) C.1 (rgk 5 rfl) (rgk 13 rfl) dL_most_56 (by decide) (fun h => absurd h (by decide)) (fun _ => ?_)
  refine lv_aload_n C.1.1 C.1.2.1 dL_most_59 rfl (lv_at hl 1 rfl) ?_
  refine lv_iload_n C.1.1 C.1.2.1 dL_most_60 rfl (lv_at hl 0 rfl) ?_
  refine fl_bipush C.1 dL_most_61 (by decide) ?_
  refine h_irem (z := 5) C.1 (by decide) (by decide) (by decide) dL_most_63 ?_
  refine j_input hst C (by exact ⟨(Nat.le_of_ble_eq_true rfl), (Nat.le_of_ble_eq_true rfl)⟩) hI hl.1 (rgk 5 rfl) fSf18 (Nat.le_of_ble_eq_true rfl) ⟨(Nat.le_of_ble_eq_true rfl), (Nat.le_of_ble_eq_true rfl)⟩ dL_most_64 (fun H locs hI _ => ?_)
  refine fl_iconst C.1 dL_most_67 ?_
  refine fl_icmp_ne (tgt := 96) C.1 (rgk 1 rfl) (rgk 1 rfl) dL_most_68 (by decide) (fun h => absurd rfl h) (fun _ => ?_)
  refine lv_aload_n C.1.1 C.1.2.1 dL_most_71 rfl (lv_at hl 1 rfl) ?_
  refine fl_iconst C.1 dL_most_72 ?_
  refine fl_iconst C.1 dL_most_73 ?_
  refine lv_iload_n C.1.1 C.1.2.1 dL_most_74 rfl (lv_at hl 0 rfl) ?_
  refine fl_iconst C.1 dL_most_75 ?_
  refine h_irem (z := 1) C.1 (by decide) (by decide) (by decide) dL_most_76 ?_
  refine fl_iconst C.1 dL_most_77 ?_
  refine k_act hst C ⟨(Nat.le_of_ble_eq_true rfl), (Nat.le_of_ble_eq_true rfl)⟩ hI hl.1 (rgk 4 rfl) (rgk 5 rfl) (rgk 1 rfl) (rgk 0 rfl) fSf19 (Nat.le_of_ble_eq_true rfl) ⟨(Nat.le_of_ble_eq_true rfl), (Nat.le_of_ble_eq_true rfl)⟩ dL_most_78 (fun H locs hI _ => ?_)
  refine lv_iload_n C.1.1 C.1.2.1 dL_most_81 rfl (lv_at hl 0 rfl) ?_
  refine fl_bipush C.1 dL_most_82 (by decide) ?_
  refine fl_icmp_ge (tgt := 91) C.1 (rgk 5 rfl) (rgk 12 rfl) dL_most_84 (by decide) (fun h => absurd h (by decide)) (fun _ => ?_)
  refine lv_iload_n C.1.1 C.1.2.1 dL_most_87 rfl (lv_at hl 0 rfl) ?_
  refine fl_goto (tgt := 93) C.1 dL_most_88 (by decide) ?_
  refine fl_icmp_eq (tgt := 98) C.1 (rgk 5 rfl) (rgk 5 rfl) dL_most_93 (by decide) (fun _ => ?_) (fun h => absurd (by decide) h)
  refine fl_iinc (k := 0) (lv' := [(1, iv (wr (5 + 1))), (0, .ref x)]) C.1 dL_most_98 hl rfl (by decide) rfl (fun ls hl => ?_)
  rw [show wr (5 + 1) = (6 : Int) from by decide +kernel] at hl
  refine fl_goto (tgt := 53) C.1 dL_most_101 (by decide) ?_
  refine lv_iload_n C.1.1 C.1.2.1 dL_most_53 rfl (lv_at hl 0 rfl) ?_
  refine fl_bipush C.1 dL_most_54 (by decide) ?_
  refine fl_icmp_ge (tgt := 104) C.1 (rgk 6 rfl) (rgk 13 rfl) dL_most_56 (by decide) (fun h => absurd h (by decide)) (fun _ => ?_)
  refine lv_aload_n C.1.1 C.1.2.1 dL_most_59 rfl (lv_at hl 1 rfl) ?_
  refine lv_iload_n C.1.1 C.1.2.1 dL_most_60 rfl (lv_at hl 0 rfl) ?_
  refine fl_bipush C.1 dL_most_61 (by decide) ?_
  refine h_irem (z := 6) C.1 (by decide) (by decide) (by decide) dL_most_63 ?_
  refine j_input hst C (by exact ⟨(Nat.le_of_ble_eq_true rfl), (Nat.le_of_ble_eq_true rfl)⟩) hI hl.1 (rgk 6 rfl) fSf20 (Nat.le_of_ble_eq_true rfl) ⟨(Nat.le_of_ble_eq_true rfl), (Nat.le_of_ble_eq_true rfl)⟩ dL_most_64 (fun H locs hI _ => ?_)
  refine fl_iconst C.1 dL_most_67 ?_
  refine fl_icmp_ne (tgt := 96) C.1 (rgk 1 rfl) (rgk 1 rfl) dL_most_68 (by decide) (fun h => absurd rfl h) (fun _ => ?_)
  refine lv_aload_n C.1.1 C.1.2.1 dL_most_71 rfl (lv_at hl 1 rfl) ?_
  refine fl_iconst C.1 dL_most_72 ?_
  refine fl_iconst C.1 dL_most_73 ?_
  refine lv_iload_n C.1.1 C.1.2.1 dL_most_74 rfl (lv_at hl 0 rfl) ?_
  refine fl_iconst C.1 dL_most_75 ?_
  refine h_irem (z := 2) C.1 (by decide) (by decide) (by decide) dL_most_76 ?_
  refine fl_iconst C.1 dL_most_77 ?_
  refine k_act hst C ⟨(Nat.le_of_ble_eq_true rfl), (Nat.le_of_ble_eq_true rfl)⟩ hI hl.1 (rgk 4 rfl) (rgk 5 rfl) (rgk 2 rfl) (rgk 0 rfl) fSf21 (Nat.le_of_ble_eq_true rfl) ⟨(Nat.le_of_ble_eq_true rfl), (Nat.le_of_ble_eq_true rfl)⟩ dL_most_78 (fun H locs hI _ => ?_)
  refine lv_iload_n C.1.1 C.1.2.1 dL_most_81 rfl (lv_at hl 0 rfl) ?_
  refine fl_bipush C.1 dL_most_82 (by decide) ?_
  refine fl_icmp_ge (tgt := 91) C.1 (rgk 6 rfl) (rgk 12 rfl) dL_most_84 (by decide) (fun h => absurd h (by decide)) (fun _ => ?_)
  refine lv_iload_n C.1.1 C.1.2.1 dL_most_87 rfl (lv_at hl 0 rfl) ?_
  refine fl_goto (tgt := 93) C.1 dL_most_88 (by decide) ?_
  refine fl_icmp_eq (tgt := 98) C.1 (rgk 6 rfl) (rgk 6 rfl) dL_most_93 (by decide) (fun _ => ?_) (fun h => absurd (by decide) h)
  refine fl_iinc (k := 0) (lv' := [(1, iv (wr (6 + 1))), (0, .ref x)]) C.1 dL_most_98 hl rfl (by decide) rfl (fun ls hl => ?_)
  rw [show wr (6 + 1) = (7 : Int) from by decide +kernel] at hl
  refine fl_goto (tgt := 53) C.1 dL_most_101 (by decide) ?_
  refine lv_iload_n C.1.1 C.1.2.1 dL_most_53 rfl (lv_at hl 0 rfl) ?_
  refine fl_bipush C.1 dL_most_54 (by decide) ?_
  refine fl_icmp_ge (tgt := 104) C.1 (rgk 7 rfl) (rgk 13 rfl) dL_most_56 (by decide) (fun h => absurd h (by decide)) (fun _ => ?_)
  refine lv_aload_n C.1.1 C.1.2.1 dL_most_59 rfl (lv_at hl 1 rfl) ?_
  refine lv_iload_n C.1.1 C.1.2.1 dL_most_60 rfl (lv_at hl 0 rfl) ?_
  refine fl_bipush C.1 dL_most_61 (by decide) ?_
  refine h_irem (z := 7) C.1 (by decide) (by decide) (by decide) dL_most_63 ?_
  refine j_input hst C (by exact ⟨(Nat.le_of_ble_eq_true rfl), (Nat.le_of_ble_eq_true rfl)⟩) hI hl.1 (rgk 7 rfl) fSf22 (Nat.le_of_ble_eq_true rfl) ⟨(Nat.le_of_ble_eq_true rfl), (Nat.le_of_ble_eq_true rfl)⟩ dL_most_64 (fun H locs hI _ => ?_)
  refine fl_iconst C.1 dL_most_67 ?_
  refine fl_icmp_ne (tgt := 96) C.1 (rgk 1 rfl) (rgk 1 rfl) dL_most_68 (by decide) (fun h => absurd rfl h) (fun _ => ?_)
  refine lv_aload_n C.1.1 C.1.2.1 dL_most_71 rfl (lv_at hl 1 rfl) ?_
  refine fl_iconst C.1 dL_most_72 ?_
  refine fl_iconst C.1 dL_most_73 ?_
  refine lv_iload_n C.1.1 C.1.2.1 dL_most_74 rfl (lv_at hl 0 rfl) ?_
  refine fl_iconst C.1 dL_most_75 ?_
  refine h_irem (z := 3) C.1 (by decide) (by decide) (by decide) dL_most_76 ?_
  refine fl_iconst C.1 dL_most_77 ?_
  refine k_act hst C ⟨(Nat.le_of_ble_eq_true rfl), (Nat.le_of_ble_eq_true rfl)⟩ hI hl.1 (rgk 4 rfl) (rgk 5 rfl) (rgk 3 rfl) (rgk 0 rfl) fSf23 (Nat.le_of_ble_eq_true rfl) ⟨(Nat.le_of_ble_eq_true rfl), (Nat.le_of_ble_eq_true rfl)⟩ dL_most_78 (fun H locs hI _ => ?_)
  refine lv_iload_n C.1.1 C.1.2.1 dL_most_81 rfl (lv_at hl 0 rfl) ?_
  refine fl_bipush C.1 dL_most_82 (by decide) ?_
  refine fl_icmp_ge (tgt := 91) C.1 (rgk 7 rfl) (rgk 12 rfl) dL_most_84 (by decide) (fun h => absurd h (by decide)) (fun _ => ?_)
  refine lv_iload_n C.1.1 C.1.2.1 dL_most_87 rfl (lv_at hl 0 rfl) ?_
  refine fl_goto (tgt := 93) C.1 dL_most_88 (by decide) ?_
  refine fl_icmp_eq (tgt := 98) C.1 (rgk 7 rfl) (rgk 7 rfl) dL_most_93 (by decide) (fun _ => ?_) (fun h => absurd (by decide) h)
  refine fl_iinc (k := 0) (lv' := [(1, iv (wr (7 + 1))), (0, .ref x)]) C.1 dL_most_98 hl rfl (by decide) rfl (fun ls hl => ?_)
  rw [show wr (7 + 1) = (8 : Int) from by decide +kernel] at hl
  refine fl_goto (tgt := 53) C.1 dL_most_101 (by decide) ?_
  refine lv_iload_n C.1.1 C.1.2.1 dL_most_53 rfl (lv_at hl 0 rfl) ?_
  refine fl_bipush C.1 dL_most_54 (by decide) ?_
  refine fl_icmp_ge (tgt := 104) C.1 (rgk 8 rfl) (rgk 13 rfl) dL_most_56 (by decide) (fun h => absurd h (by decide)) (fun _ => ?_)
  refine lv_aload_n C.1.1 C.1.2.1 dL_most_59 rfl (lv_at hl 1 rfl) ?_
  refine lv_iload_n C.1.1 C.1.2.1 dL_most_60 rfl (lv_at hl 0 rfl) ?_
  refine fl_bipush C.1 dL_most_61 (by decide) ?_
  refine h_irem (z := 8) C.1 (by decide) (by decide) (by decide) dL_most_63 ?_
  refine j_input hst C (by exact ⟨(Nat.le_of_ble_eq_true rfl), (Nat.le_of_ble_eq_true rfl)⟩) hI hl.1 (rgk 8 rfl) fSf24 (Nat.le_of_ble_eq_true rfl) ⟨(Nat.le_of_ble_eq_true rfl), (Nat.le_of_ble_eq_true rfl)⟩ dL_most_64 (fun H locs hI _ => ?_)
  refine fl_iconst C.1 dL_most_67 ?_
  refine fl_icmp_ne (tgt := 96) C.1 (rgk 1 rfl) (rgk 1 rfl) dL_most_68 (by decide) (fun h => absurd rfl h) (fun _ => ?_)
  exact W.widen (Nat.le_of_ble_eq_true rfl) (Nat.le_of_ble_eq_true rfl) (kk H locs ls hI hl)
set_option maxRecDepth 100000 in
set_option maxHeartbeats 4000000 in
theorem w_most_1 (hst : l.stackTraces = false) (C : LC p s m meth c D cy B cL_most 2) (kk : ∀ (H : Heap) (locs : List Loc) (ls : Array Slot), HI D cy B s.heap H locs x (gEb fB 15) → lv_has ls 2 [(1, iv 14), (0, .ref x)] → W p l e rm_L_most s m args below meth c H locs 364 72585 Q (F0 m 144 ls [])) : ∀ (H : Heap) (locs : List Loc) (ls : Array Slot), HI D cy B s.heap H locs x fS24 → lv_has ls 2 [(1, iv 8), (0, .ref x)] → W p l e rm_L_most s m args below meth c H locs 176 31317 Q (F0 m 71 ls []) := by
  intro H locs ls hI hl
  refine lv_aload_n C.1.1 C.1.2.1 dL_most_71 rfl (lv_at hl 1 rfl) ?_
  refine fl_iconst C.1 dL_most_72 ?_
  refine fl_iconst C.1 dL_most_73 ?_
  refine lv_iload_n C.1.1 C.1.2.1 dL_most_74 rfl (lv_at hl 0 rfl) ?_
  refine fl_iconst C.1 dL_most_75 ?_
  refine h_irem (z := 0) C.1 (by decide) (by decide) (by decide) dL_most_76 ?_
  refine fl_iconst C.1 dL_most_77 ?_
  refine k_act hst C ⟨(Nat.le_of_ble_eq_true rfl), (Nat.le_of_ble_eq_true rfl)⟩ hI hl.1 (rgk 4 rfl) (rgk 5 rfl) (rgk 0 rfl) (rgk 0 rfl) fSf25 (Nat.le_of_ble_eq_true rfl) ⟨(Nat.le_of_ble_eq_true rfl), (Nat.le_of_ble_eq_true rfl)⟩ dL_most_78 (fun H locs hI _ => ?_)
  refine lv_iload_n C.1.1 C.1.2.1 dL_most_81 rfl (lv_at hl 0 rfl) ?_
  refine fl_bipush C.1 dL_most_82 (by decide) ?_
  refine fl_icmp_ge (tgt := 91) C.1 (rgk 8 rfl) (rgk 12 rfl) dL_most_84 (by decide) (fun h => absurd h (by decide)) (fun _ => ?_)
  refine lv_iload_n C.1.1 C.1.2.1 dL_most_87 rfl (lv_at hl 0 rfl) ?_
  refine fl_goto (tgt := 93) C.1 dL_most_88 (by decide) ?_
  refine fl_icmp_eq (tgt := 98) C.1 (rgk 8 rfl) (rgk 8 rfl) dL_most_93 (by decide) (fun _ => ?_) (fun h => absurd (by decide) h)
  refine fl_iinc (k := 0) (lv' := [(1, iv (wr (8 + 1))), (0, .ref x)]) C.1 dL_most_98 hl rfl (by decide) rfl (fun ls hl => ?_)
  rw [show wr (8 + 1) = (9 : Int) from by decide +kernel] at hl
  refine fl_goto (tgt := 53) C.1 dL_most_101 (by decide) ?_
  refine lv_iload_n C.1.1 C.1.2.1 dL_most_53 rfl (lv_at hl 0 rfl) ?_
  refine fl_bipush C.1 dL_most_54 (by decide) ?_
  refine fl_icmp_ge (tgt := 104) C.1 (rgk 9 rfl) (rgk 13 rfl) dL_most_56 (by decide) (fun h => absurd h (by decide)) (fun _ => ?_)
  refine lv_aload_n C.1.1 C.1.2.1 dL_most_59 rfl (lv_at hl 1 rfl) ?_
  refine lv_iload_n C.1.1 C.1.2.1 dL_most_60 rfl (lv_at hl 0 rfl) ?_
  refine fl_bipush C.1 dL_most_61 (by decide) ?_
  refine h_irem (z := 0) C.1 (by decide) (by decide) (by decide) dL_most_63 ?_
  refine j_input hst C (by exact ⟨(Nat.le_of_ble_eq_true rfl), (Nat.le_of_ble_eq_true rfl)⟩) hI hl.1 (rgk 0 rfl) fSf26 (Nat.le_of_ble_eq_true rfl) ⟨(Nat.le_of_ble_eq_true rfl), (Nat.le_of_ble_eq_true rfl)⟩ dL_most_64 (fun H locs hI _ => ?_)
  refine fl_iconst C.1 dL_most_67 ?_
  refine fl_icmp_ne (tgt := 96) C.1 (rgk 1 rfl) (rgk 1 rfl) dL_most_68 (by decide) (fun h => absurd rfl h) (fun _ => ?_)
  refine lv_aload_n C.1.1 C.1.2.1 dL_most_71 rfl (lv_at hl 1 rfl) ?_
  refine fl_iconst C.1 dL_most_72 ?_
  refine fl_iconst C.1 dL_most_73 ?_
  refine lv_iload_n C.1.1 C.1.2.1 dL_most_74 rfl (lv_at hl 0 rfl) ?_
  refine fl_iconst C.1 dL_most_75 ?_
  refine h_irem (z := 1) C.1 (by decide) (by decide) (by decide) dL_most_76 ?_
  refine fl_iconst C.1 dL_most_77 ?_
  refine k_act hst C ⟨(Nat.le_of_ble_eq_true rfl), (Nat.le_of_ble_eq_true rfl)⟩ hI hl.1 (rgk 4 rfl) (rgk 5 rfl) (rgk 1 rfl) (rgk 0 rfl) fSf27 (Nat.le_of_ble_eq_true rfl) ⟨(Nat.le_of_ble_eq_true rfl), (Nat.le_of_ble_eq_true rfl)⟩ dL_most_78 (fun H locs hI _ => ?_)
  refine lv_iload_n C.1.1 C.1.2.1 dL_most_81 rfl (lv_at hl 0 rfl) ?_
  refine fl_bipush C.1 dL_most_82 (by decide) ?_
  refine fl_icmp_ge (tgt := 91) C.1 (rgk 9 rfl) (rgk 12 rfl) dL_most_84 (by decide) (fun h => absurd h (by decide)) (fun _ => ?_)
  refine lv_iload_n C.1.1 C.1.2.1 dL_most_87 rfl (lv_at hl 0 rfl) ?_
  refine fl_goto (tgt := 93) C.1 dL_most_88 (by decide) ?_
  refine fl_icmp_eq (tgt := 98) C.1 (rgk 9 rfl) (rgk 9 rfl) dL_most_93 (by decide) (fun _ => ?_) (fun h => absurd (by decide) h)
  refine fl_iinc (k := 0) (lv' := [(1, iv (wr (9 + 1))), (0, .ref x)]) C.1 dL_most_98 hl rfl (by decide) rfl (fun ls hl => ?_)
  rw [show wr (9 + 1) = (10 : Int) from by decide +kernel] at hl
  refine fl_goto (tgt := 53) C.1 dL_most_101 (by decide) ?_
  refine lv_iload_n C.1.1 C.1.2.1 dL_most_53 rfl (lv_at hl 0 rfl) ?_
  refine fl_bipush C.1 dL_most_54 (by decide) ?_
  refine fl_icmp_ge (tgt := 104) C.1 (rgk 10 rfl) (rgk 13 rfl) dL_most_56 (by decide) (fun h => absurd h (by decide)) (fun _ => ?_)
  refine lv_aload_n C.1.1 C.1.2.1 dL_most_59 rfl (lv_at hl 1 rfl) ?_
  refine lv_iload_n C.1.1 C.1.2.1 dL_most_60 rfl (lv_at hl 0 rfl) ?_
  refine fl_bipush C.1 dL_most_61 (by decide) ?_
  refine h_irem (z := 1) C.1 (by decide) (by decide) (by decide) dL_most_63 ?_
  refine j_input hst C (by exact ⟨(Nat.le_of_ble_eq_true rfl), (Nat.le_of_ble_eq_true rfl)⟩) hI hl.1 (rgk 1 rfl) fSf28 (Nat.le_of_ble_eq_true rfl) ⟨(Nat.le_of_ble_eq_true rfl), (Nat.le_of_ble_eq_true rfl)⟩ dL_most_64 (fun H locs hI _ => ?_)
  refine fl_iconst C.1 dL_most_67 ?_
  refine fl_icmp_ne (tgt := 96) C.1 (rgk 1 rfl) (rgk 1 rfl) dL_most_68 (by decide) (fun h => absurd rfl h) (fun _ => ?_)
  refine lv_aload_n C.1.1 C.1.2.1 dL_most_71 rfl (lv_at hl 1 rfl) ?_
  refine fl_iconst C.1 dL_most_72 ?_
  refine fl_iconst C.1 dL_most_73 ?_
  refine lv_iload_n C.1.1 C.1.2.1 dL_most_74 rfl (lv_at hl 0 rfl) ?_
  refine fl_iconst C.1 dL_most_75 ?_
  refine h_irem (z := 2) C.1 (by decide) (by decide) (by decide) dL_most_76 ?_
  refine fl_iconst C.1 dL_most_77 ?_
  refine k_act hst C ⟨(Nat.le_of_ble_eq_true rfl), (Nat.le_of_ble_eq_true rfl)⟩ hI hl.1 (rgk 4 rfl) (rgk 5 rfl) (rgk 2 rfl) (rgk 0 rfl) fSf29 (Nat.le_of_ble_eq_true rfl) ⟨(Nat.le_of_ble_eq_true rfl), (Nat.le_of_ble_eq_true rfl)⟩ dL_most_78 (fun H locs hI _ => ?_)
  refine lv_iload_n C.1.1 C.1.2.1 dL_most_81 rfl (lv_at hl 0 rfl) ?_
  refine fl_bipush C.1 dL_most_82 (by decide) ?_
  refine fl_icmp_ge (tgt := 91) C.1 (rgk 10 rfl) (rgk 12 rfl) dL_most_84 (by decide) (fun h => absurd h (by decide)) (fun _ => ?_)
  refine lv_iload_n C.1.1 C.1.2.1 dL_most_87 rfl (lv_at hl 0 rfl) ?_
  refine fl_goto (tgt := 93) C.1 dL_most_88 (by decide) ?_
  refine fl_icmp_eq (tgt := 98) C.1 (rgk 10 rfl) (rgk 10 rfl) dL_most_93 (by decide) (fun _ => ?_) (fun h => absurd (by decide) h)
  refine fl_iinc (k := 0) (lv' := [(1, iv (wr (10 + 1))), (0, .ref x)]) C.1 dL_most_98 hl rfl (by decide) rfl (fun ls hl => ?_)
  rw [show wr (10 + 1) = (11 : Int) from by decide +kernel] at hl
  refine fl_goto (tgt := 53) C.1 dL_most_101 (by decide) ?_
  refine lv_iload_n C.1.1 C.1.2.1 dL_most_53 rfl (lv_at hl 0 rfl) ?_
  refine fl_bipush C.1 dL_most_54 (by decide) ?_
  refine fl_icmp_ge (tgt := 104) C.1 (rgk 11 rfl) (rgk 13 rfl) dL_most_56 (by decide) (fun h => absurd h (by decide)) (fun _ => ?_)
  refine lv_aload_n C.1.1 C.1.2.1 dL_most_59 rfl (lv_at hl 1 rfl) ?_
  refine lv_iload_n C.1.1 C.1.2.1 dL_most_60 rfl (lv_at hl 0 rfl) ?_
  refine fl_bipush C.1 dL_most_61 (by decide) ?_
  refine h_irem (z := 2) C.1 (by decide) (by decide) (by decide) dL_most_63 ?_
  refine j_input hst C (by exact ⟨(Nat.le_of_ble_eq_true rfl), (Nat.le_of_ble_eq_true rfl)⟩) hI hl.1 (rgk 2 rfl) fSf30 (Nat.le_of_ble_eq_true rfl) ⟨(Nat.le_of_ble_eq_true rfl), (Nat.le_of_ble_eq_true rfl)⟩ dL_most_64 (fun H locs hI _ => ?_)
  refine fl_iconst C.1 dL_most_67 ?_
  refine fl_icmp_ne (tgt := 96) C.1 (rgk 1 rfl) (rgk 1 rfl) dL_most_68 (by decide) (fun h => absurd rfl h) (fun _ => ?_)
  refine lv_aload_n C.1.1 C.1.2.1 dL_most_71 rfl (lv_at hl 1 rfl) ?_
  refine fl_iconst C.1 dL_most_72 ?_
  refine fl_iconst C.1 dL_most_73 ?_
  refine lv_iload_n C.1.1 C.1.2.1 dL_most_74 rfl (lv_at hl 0 rfl) ?_
  refine fl_iconst C.1 dL_most_75 ?_
  refine h_irem (z := 3) C.1 (by decide) (by decide) (by decide) dL_most_76 ?_
  refine fl_iconst C.1 dL_most_77 ?_
  refine k_act hst C ⟨(Nat.le_of_ble_eq_true rfl), (Nat.le_of_ble_eq_true rfl)⟩ hI hl.1 (rgk 4 rfl) (rgk 5 rfl) (rgk 3 rfl) (rgk 0 rfl) fSf31 (Nat.le_of_ble_eq_true rfl) ⟨(Nat.le_of_ble_eq_true rfl), (Nat.le_of_ble_eq_true rfl)⟩ dL_most_78 (fun H locs hI _ => ?_)
  refine lv_iload_n C.1.1 C.1.2.1 dL_most_81 rfl (lv_at hl 0 rfl) ?_
  refine fl_bipush C.1 dL_most_82 (by decide) ?_
  refine fl_icmp_ge (tgt := 91) C.1 (rgk 11 rfl) (rgk 12 rfl) dL_most_84 (by decide) (fun h => absurd h (by decide)) (fun _ => ?_)
  refine lv_iload_n C.1.1 C.1.2.1 dL_most_87 rfl (lv_at hl 0 rfl) ?_
  refine fl_goto (tgt := 93) C.1 dL_most_88 (by decide) ?_
  refine fl_icmp_eq (tgt := 98) C.1 (rgk 11 rfl) (rgk 11 rfl) dL_most_93 (by decide) (fun _ => ?_) (fun h => absurd (by decide) h)
  refine fl_iinc (k := 0) (lv' := [(1, iv (wr (11 + 1))), (0, .ref x)]) C.1 dL_most_98 hl rfl (by decide) rfl (fun ls hl => ?_)
  rw [show wr (11 + 1) = (12 : Int) from by decide +kernel] at hl
  refine fl_goto (tgt := 53) C.1 dL_most_101 (by decide) ?_
  refine lv_iload_n C.1.1 C.1.2.1 dL_most_53 rfl (lv_at hl 0 rfl) ?_
  refine fl_bipush C.1 dL_most_54 (by decide) ?_
  refine fl_icmp_ge (tgt := 104) C.1 (rgk 12 rfl) (rgk 13 rfl) dL_most_56 (by decide) (fun h => absurd h (by decide)) (fun _ => ?_)
  refine lv_aload_n C.1.1 C.1.2.1 dL_most_59 rfl (lv_at hl 1 rfl) ?_
  refine lv_iload_n C.1.1 C.1.2.1 dL_most_60 rfl (lv_at hl 0 rfl) ?_
  refine fl_bipush C.1 dL_most_61 (by decide) ?_
  refine h_irem (z := 3) C.1 (by decide) (by decide) (by decide) dL_most_63 ?_
  refine j_input hst C (by exact ⟨(Nat.le_of_ble_eq_true rfl), (Nat.le_of_ble_eq_true rfl)⟩) hI hl.1 (rgk 3 rfl) fSf32 (Nat.le_of_ble_eq_true rfl) ⟨(Nat.le_of_ble_eq_true rfl), (Nat.le_of_ble_eq_true rfl)⟩ dL_most_64 (fun H locs hI _ => ?_)
  refine fl_iconst C.1 dL_most_67 ?_
  refine fl_icmp_ne (tgt := 96) C.1 (rgk 1 rfl) (rgk 1 rfl) dL_most_68 (by decide) (fun h => absurd rfl h) (fun _ => ?_)
  refine lv_aload_n C.1.1 C.1.2.1 dL_most_71 rfl (lv_at hl 1 rfl) ?_
  refine fl_iconst C.1 dL_most_72 ?_
  refine fl_iconst C.1 dL_most_73 ?_
  refine lv_iload_n C.1.1 C.1.2.1 dL_most_74 rfl (lv_at hl 0 rfl) ?_
  refine fl_iconst C.1 dL_most_75 ?_
  refine h_irem (z := 0) C.1 (by decide) (by decide) (by decide) dL_most_76 ?_
  refine fl_iconst C.1 dL_most_77 ?_
  refine k_act hst C ⟨(Nat.le_of_ble_eq_true rfl), (Nat.le_of_ble_eq_true rfl)⟩ hI hl.1 (rgk 4 rfl) (rgk 5 rfl) (rgk 0 rfl) (rgk 0 rfl) fSf33 (Nat.le_of_ble_eq_true rfl) ⟨(Nat.le_of_ble_eq_true rfl), (Nat.le_of_ble_eq_true rfl)⟩ dL_most_78 (fun H locs hI _ => ?_)
  refine lv_iload_n C.1.1 C.1.2.1 dL_most_81 rfl (lv_at hl 0 rfl) ?_
  refine fl_bipush C.1 dL_most_82 (by decide) ?_
  refine fl_icmp_ge (tgt := 91) C.1 (rgk 12 rfl) (rgk 12 rfl) dL_most_84 (by decide) (fun _ => ?_) (fun h => absurd (by decide) h)
  refine fl_ldc (n := (-7000003)) C.1 aw_803 rfl dL_most_91 ?_
  refine fl_icmp_eq (tgt := 98) C.1 (rgk (-7000003) rfl) (rgk (-7000003) rfl) dL_most_93 (by decide) (fun _ => ?_) (fun h => absurd (by decide) h)
  refine fl_iinc (k := 0) (lv' := [(1, iv (wr (12 + 1))), (0, .ref x)]) C.1 dL_most_98 hl rfl (by decide) rfl (fun ls hl => ?_)
  rw [show wr (12 + 1) = (13 : Int) from by decide +kernel] at hl
  refine fl_goto (tgt := 53) C.1 dL_most_101 (by decide) ?_
  refine lv_iload_n C.1.1 C.1.2.1 dL_most_53 rfl (lv_at hl 0 rfl) ?_
  refine fl_bipush C.1 dL_most_54 (by decide) ?_
  refine fl_icmp_ge (tgt := 104) C.1 (rgk 13 rfl) (rgk 13 rfl) dL_most_56 (by decide) (fun _ => ?_) (fun h => absurd (by decide) h)
  refine fl_iconst C.1 dL_most_104 ?_
  refine lv_istore_n (lv' := [(1, iv 0), (0, .ref x)]) C.1.1 C.1.2.1 dL_most_105 rfl hl (by decide) rfl (fun ls hl => ?_)
  have hI : HI D cy B s.heap H locs x (gEb fB 0) := HI.gE0 hI
  refine lv_iload_n C.1.1 C.1.2.1 dL_most_106 rfl (lv_at hl 0 rfl) ?_
  refine fl_bipush C.1 dL_most_107 (by decide) ?_
  refine fl_icmp_ge (tgt := 150) C.1 (rgk 0 rfl) (rgk 61 rfl) dL_most_109 (by decide) (fun h => absurd h (by decide)) (fun _ => ?_)
  refine lv_aload_n C.1.1 C.1.2.1 dL_most_112 rfl (lv_at hl 1 rfl) ?_
  refine fl_bipush C.1 dL_most_113 (by decide) ?_
  refine lv_iload_n C.1.1 C.1.2.1 dL_most_115 rfl (lv_at hl 0 rfl) ?_
  refine fl_bipush C.1 dL_most_116 (by decide) ?_
  refine h_irem (z := 0) C.1 (by decide) (by decide) (by decide) dL_most_118 ?_
  refine lv_iload_n C.1.1 C.1.2.1 dL_most_119 rfl (lv_at hl 0 rfl) ?_
  refine fl_bipush C.1 dL_most_120 (by decide) ?_
  refine h_irem (z := 0) C.1 (by decide) (by decide) (by decide) dL_most_122 ?_
  refine fl_iconst C.1 dL_most_123 ?_
  refine k_act (v := 0) (S' := (gEb fB 1)) hst C ⟨(Nat.le_of_ble_eq_true rfl), (Nat.le_of_ble_eq_true rfl)⟩ hI hl.1 (rgk 8 rfl) (rgk 0 rfl) (rgk 0 rfl) (rgk 0 rfl) (gE_step (k := 0) (by decide)) (Nat.le_of_ble_eq_true rfl) ⟨(Nat.le_of_ble_eq_true rfl), (Nat.le_of_ble_eq_true rfl)⟩ dL_most_124 (fun H locs hI _ => ?_)
  refine lv_iload_n C.1.1 C.1.2.1 dL_most_127 rfl (lv_at hl 0 rfl) ?_
  refine fl_bipush C.1 dL_most_128 (by decide) ?_
  refine fl_icmp_ge (tgt := 137) C.1 (rgk 0 rfl) (rgk 60 rfl) dL_most_130 (by decide) (fun h => absurd h (by decide)) (fun _ => ?_)
  refine lv_iload_n C.1.1 C.1.2.1 dL_most_133 rfl (lv_at hl 0 rfl) ?_
  refine fl_goto (tgt := 139) C.1 dL_most_134 (by decide) ?_
  refine fl_icmp_eq (tgt := 144) C.1 (rgk 0 rfl) (rgk 0 rfl) dL_most_139 (by decide) (fun _ => ?_) (fun h => absurd (by decide) h)
  refine fl_iinc (k := 0) (lv' := [(1, iv (wr (0 + 1))), (0, .ref x)]) C.1 dL_most_144 hl rfl (by decide) rfl (fun ls hl => ?_)
  rw [show wr (0 + 1) = (1 : Int) from by decide +kernel] at hl
  refine fl_goto (tgt := 106) C.1 dL_most_147 (by decide) ?_
  refine lv_iload_n C.1.1 C.1.2.1 dL_most_106 rfl (lv_at hl 0 rfl) ?_
  refine fl_bipush C.1 dL_most_107 (by decide) ?_
  refine fl_icmp_ge (tgt := 150) C.1 (rgk 1 rfl) (rgk 61 rfl) dL_most_109 (by decide) (fun h => absurd h (by decide)) (fun _ => ?_)
  refine lv_aload_n C.1.1 C.1.2.1 dL_most_112 rfl (lv_at hl 1 rfl) ?_
  refine fl_bipush C.1 dL_most_113 (by decide) ?_
  refine lv_iload_n C.1.1 C.1.2.1 dL_most_115 rfl (lv_at hl 0 rfl) ?_
  refine fl_bipush C.1 dL_most_116 (by decide) ?_
  refine h_irem (z := 1) C.1 (by decide) (by decide) (by decide) dL_most_118 ?_
  refine lv_iload_n C.1.1 C.1.2.1 dL_most_119 rfl (lv_at hl 0 rfl) ?_
  refine fl_bipush C.1 dL_most_120 (by decide) ?_
  refine h_irem (z := 1) C.1 (by decide) (by decide) (by decide) dL_most_122 ?_
  refine fl_iconst C.1 dL_most_123 ?_
  refine k_act (v := 1) (S' := (gEb fB 2)) hst C ⟨(Nat.le_of_ble_eq_true rfl), (Nat.le_of_ble_eq_true rfl)⟩ hI hl.1 (rgk 8 rfl) (rgk 1 rfl) (rgk 1 rfl) (rgk 0 rfl) (gE_step (k := 1) (by decide)) (Nat.le_of_ble_eq_true rfl) ⟨(Nat.le_of_ble_eq_true rfl), (Nat.le_of_ble_eq_true rfl)⟩ dL_most_124 (fun H locs hI _ => ?_)
  refine lv_iload_n C.1.1 C.1.2.1 dL_most_127 rfl (lv_at hl 0 rfl) ?_
  refine fl_bipush C.1 dL_most_128 (by decide) ?_
  refine fl_icmp_ge (tgt := 137) C.1 (rgk 1 rfl) (rgk 60 rfl) dL_most_130 (by decide) (fun h => absurd h (by decide)) (fun _ => ?_)
  refine lv_iload_n C.1.1 C.1.2.1 dL_most_133 rfl (lv_at hl 0 rfl) ?_
  refine fl_goto (tgt := 139) C.1 dL_most_134 (by decide) ?_
  refine fl_icmp_eq (tgt := 144) C.1 (rgk 1 rfl) (rgk 1 rfl) dL_most_139 (by decide) (fun _ => ?_) (fun h => absurd (by decide) h)
  refine fl_iinc (k := 0) (lv' := [(1, iv (wr (1 + 1))), (0, .ref x)]) C.1 dL_most_144 hl rfl (by decide) rfl (fun ls hl => ?_)
  rw [show wr (1 + 1) = (2 : Int) from by decide +kernel] at hl
  refine fl_goto (tgt := 106) C.1 dL_most_147 (by decide) ?_
  refine lv_iload_n C.1.1 C.1.2.1 dL_most_106 rfl (lv_at hl 0 rfl) ?_
  refine fl_bipush C.1 dL_most_107 (by decide) ?_
  refine fl_icmp_ge (tgt := 150) C.1 (rgk 2 rfl) (rgk 61 rfl) dL_most_109 (by decide) (fun h => absurd h (by decide)) (fun _ => ?_)
  refine lv_aload_n C.1.1 C.1.2.1 dL_most_112 rfl (lv_at hl 1 rfl) ?_
  refine fl_bipush C.1 dL_most_113 (by decide) ?_
  refine lv_iload_n C.1.1 C.1.2.1 dL_most_115 rfl (lv_at hl 0 rfl) ?_
  refine fl_bipush C.1 dL_most_116 (by decide) ?_
  refine h_irem (z := 2) C.1 (by decide) (by decide) (by decide) dL_most_118 ?_
  refine lv_iload_n C.1.1 C.1.2.1 dL_most_119 rfl (lv_at hl 0 rfl) ?_
  refine fl_bipush C.1 dL_most_120 (by decide) ?_
  refine h_irem (z := 2) C.1 (by decide) (by decide) (by decide) dL_most_122 ?_
  refine fl_iconst C.1 dL_most_123 ?_
  refine k_act (v := 2) (S' := (gEb fB 3)) hst C ⟨(Nat.le_of_ble_eq_true rfl), (Nat.le_of_ble_eq_true rfl)⟩ hI hl.1 (rgk 8 rfl) (rgk 2 rfl) (rgk 2 rfl) (rgk 0 rfl) (gE_step (k := 2) (by decide)) (Nat.le_of_ble_eq_true rfl) ⟨(Nat.le_of_ble_eq_true rfl), (Nat.le_of_ble_eq_true rfl)⟩ dL_most_124 (fun H locs hI _ => ?_)
  refine lv_iload_n C.1.1 C.1.2.1 dL_most_127 rfl (lv_at hl 0 rfl) ?_
  refine fl_bipush C.1 dL_most_128 (by decide) ?_
  refine fl_icmp_ge (tgt := 137) C.1 (rgk 2 rfl) (rgk 60 rfl) dL_most_130 (by decide) (fun h => absurd h (by decide)) (fun _ => ?_)
  refine lv_iload_n C.1.1 C.1.2.1 dL_most_133 rfl (lv_at hl 0 rfl) ?_
  refine fl_goto (tgt := 139) C.1 dL_most_134 (by decide) ?_
  refine fl_icmp_eq (tgt := 144) C.1 (rgk 2 rfl) (rgk 2 rfl) dL_most_139 (by decide) (fun _ => ?_) (fun h => absurd (by decide) h)
  refine fl_iinc (k := 0) (lv' := [(1, iv (wr (2 + 1))), (0, .ref x)]) C.1 dL_most_144 hl rfl (by decide) rfl (fun ls hl => ?_)
  rw [show wr (2 + 1) = (3 : Int) from by decide +kernel] at hl
  refine fl_goto (tgt := 106) C.1 dL_most_147 (by decide) ?_
  refine lv_iload_n C.1.1 C.1.2.1 dL_most_106 rfl (lv_at hl 0 rfl) ?_
  refine fl_bipush C.1 dL_most_107 (by decide) ?_
  refine fl_icmp_ge (tgt := 150) C.1 (rgk 3 rfl) (rgk 61 rfl) dL_most_109 (by decide) (fun h => absurd h (by decide)) (fun _ => ?_)
  refine lv_aload_n C.1.1 C.1.2.1 dL_most_112 rfl (lv_at hl 1 rfl) ?_
  refine fl_bipush C.1 dL_most_113 (by decide) ?_
  refine lv_iload_n C.1.1 C.1.2.1 dL_most_115 rfl (lv_at hl 0 rfl) ?_
  refine fl_bipush C.1 dL_most_116 (by decide) ?_
  refine h_irem (z := 3) C.1 (by decide) (by decide) (by decide) dL_most_118 ?_
  refine lv_iload_n C.1.1 C.1.2.1 dL_most_119 rfl (lv_at hl 0 rfl) ?_
  refine fl_bipush C.1 dL_most_120 (by decide) ?_
  refine h_irem (z := 3) C.1 (by decide) (by decide) (by decide) dL_most_122 ?_
  refine fl_iconst C.1 dL_most_123 ?_
  refine k_act (v := 3) (S' := (gEb fB 4)) hst C ⟨(Nat.le_of_ble_eq_true rfl), (Nat.le_of_ble_eq_true rfl)⟩ hI hl.1 (rgk 8 rfl) (rgk 3 rfl) (rgk 3 rfl) (rgk 0 rfl) (gE_step (k := 3) (by decide)) (Nat.le_of_ble_eq_true rfl) ⟨(Nat.le_of_ble_eq_true rfl), (Nat.le_of_ble_eq_true rfl)⟩ dL_most_124 (fun H locs hI _ => ?_)
  refine lv_iload_n C.1.1 C.1.2.1 dL_most_127 rfl (lv_at hl 0 rfl) ?_
  refine fl_bipush C.1 dL_most_128 (by decide) ?_
  refine fl_icmp_ge (tgt := 137) C.1 (rgk 3 rfl) (rgk 60 rfl) dL_most_130 (by decide) (fun h => absurd h (by decide)) (fun _ => ?_)
  refine lv_iload_n C.1.1 C.1.2.1 dL_most_133 rfl (lv_at hl 0 rfl) ?_
  refine fl_goto (tgt := 139) C.1 dL_most_134 (by decide) ?_
  refine fl_icmp_eq (tgt := 144) C.1 (rgk 3 rfl) (rgk 3 rfl) dL_most_139 (by decide) (fun _ => ?_) (fun h => absurd (by decide) h)
  refine fl_iinc (k := 0) (lv' := [(1, iv (wr (3 + 1))), (0, .ref x)]) C.1 dL_most_144 hl rfl (by decide) rfl (fun ls hl => ?_)
  rw [show wr (3 + 1) = (4 : Int) from by decide +kernel] at hl
  refine fl_goto (tgt := 106) C.1 dL_most_147 (by decide) ?_
  refine lv_iload_n C.1.1 C.1.2.1 dL_most_106 rfl (lv_at hl 0 rfl) ?_
  refine fl_bipush C.1 dL_most_107 (by decide) ?_
  refine fl_icmp_ge (tgt := 150) C.1 (rgk 4 rfl) (rgk 61 rfl) dL_most_109 (by decide) (fun h => absurd h (by decide)) (fun _ => ?_)
  refine lv_aload_n C.1.1 C.1.2.1 dL_most_112 rfl (lv_at hl 1 rfl) ?_
  refine fl_bipush C.1 dL_most_113 (by decide) ?_
  refine lv_iload_n C.1.1 C.1.2.1 dL_most_115 rfl (lv_at hl 0 rfl) ?_
  refine fl_bipush C.1 dL_most_116 (by decide) ?_
  refine h_irem (z := 4) C.1 (by decide) (by decide) (by decide) dL_most_118 ?_
  refine lv_iload_n C.1.1 C.1.2.1 dL_most_119 rfl (lv_at hl 0 rfl) ?_
  refine fl_bipush C.1 dL_most_120 (by decide) ?_
  refine h_irem (z := 4) C.1 (by decide) (by decide) (by decide) dL_most_122 ?_
  refine fl_iconst C.1 dL_most_123 ?_
  refine k_act (v := 4) (S' := (gEb fB 5)) hst C ⟨(Nat.le_of_ble_eq_true rfl), (Nat.le_of_ble_eq_true rfl)⟩ hI hl.1 (rgk 8 rfl) (rgk 4 rfl) (rgk 4 rfl) (rgk 0 rfl) (gE_step (k := 4) (by decide)) (Nat.le_of_ble_eq_true rfl) ⟨(Nat.le_of_ble_eq_true rfl), (Nat.le_of_ble_eq_true rfl)⟩ dL_most_124 (fun H locs hI _ => ?_)
  refine lv_iload_n C.1.1 C.1.2.1 dL_most_127 rfl (lv_at hl 0 rfl) ?_
  refine fl_bipush C.1 dL_most_128 (by decide) ?_
  refine fl_icmp_ge (tgt := 137) C.1 (rgk 4 rfl) (rgk 60 rfl) dL_most_130 (by decide) (fun h => absurd h (by decide)) (fun _ => ?_)
  refine lv_iload_n C.1.1 C.1.2.1 dL_most_133 rfl (lv_at hl 0 rfl) ?_
  refine fl_goto (tgt := 139) C.1 dL_most_134 (by decide) ?_
  refine fl_icmp_eq (tgt := 144) C.1 (rgk 4 rfl) (rgk 4 rfl) dL_most_139 (by decide) (fun _ => ?_) (fun h => absurd (by decide) h)
  refine fl_iinc (k := 0) (lv' := [(1, iv (wr (4 + 1))), (0, .ref x)]) C.1 dL_most_144 hl rfl (by decide) rfl (fun ls hl => ?_)
  rw [show wr (4 + 1) = (5 : Int) from by decide +kernel] at hl
  refine fl_goto (tgt := 106) C.1 dL_most_147 (by decide) ?_
  refine lv_iload_n C.1.1 C.1.2.1 dL_most_106 rfl (lv_at hl 0 rfl) ?_
  refine fl_bipush C.1 dL_most_107 (by decide) ?_
  refine fl_icmp_ge (tgt := 150) C.1 (rgk 5 rfl) (rgk 61 rfl) dL_most_109 (by decide) (fun h => absurd h (by decide)) (fun _ => ?_)
  refine lv_aload_n C.1.1 C.1.2.1 dL_most_112 rfl (lv_at hl 1 rfl) ?_
  refine fl_bipush C.1 dL_most_113 (by decide) ?_
  refine lv_iload_n C.1.1 C.1.2.1 dL_most_115 rfl (lv_at hl 0 rfl) ?_
  refine fl_bipush C.1 dL_most_116 (by decide) ?_
  refine h_irem (z := 5) C.1 (by decide) (by decide) (by decide) dL_most_118 ?_
  refine lv_iload_n C.1.1 C.1.2.1 dL_most_119 rfl (lv_at hl 0 rfl) ?_
  refine fl_bipush C.1 dL_most_120 (by decide) ?_
  refine h_irem (z := 5) C.1 (by decide) (by decide) (by decide) dL_most_122 ?_
  refine fl_iconst C.1 dL_most_123 ?_
  refine k_act (v := 5) (S' := (gEb fB 6)) hst C ⟨(Nat.le_of_ble_eq_true rfl), (Nat.le_of_ble_eq_true rfl)⟩ hI hl.1 (rgk 8 rfl) (rgk 5 rfl) (rgk 5 rfl) (rgk 0 rfl) (gE_step (k := 5) (by decide)) (Nat.le_of_ble_eq_true rfl) ⟨(Nat.le_of_ble_eq_true rfl), (Nat.le_of_ble_eq_true rfl)⟩ dL_most_124 (fun H locs hI _ => ?_)
  refine lv_iload_n C.1.1 C.1.2.1 dL_most_127 rfl (lv_at hl 0 rfl) ?_
  refine fl_bipush C.1 dL_most_128 (by decide) ?_
  refine fl_icmp_ge (tgt := 137) C.1 (rgk 5 rfl) (rgk 60 rfl) dL_most_130 (by decide) (fun h => absurd h (by decide)) (fun _ => ?_)
  refine lv_iload_n C.1.1 C.1.2.1 dL_most_133 rfl (lv_at hl 0 rfl) ?_
  refine fl_goto (tgt := 139) C.1 dL_most_134 (by decide) ?_
  refine fl_icmp_eq (tgt := 144) C.1 (rgk 5 rfl) (rgk 5 rfl) dL_most_139 (by decide) (fun _ => ?_) (fun h => absurd (by decide) h)
  refine fl_iinc (k := 0) (lv' := [(1, iv (wr (5 + 1))), (0, .ref x)]) C.1 dL_most_144 hl rfl (by decide) rfl (fun ls hl => ?_)
  rw [show wr (5 + 1) = (6 : Int) from by decide +kernel] at hl
  refine fl_goto (tgt := 106) C.1 dL_most_147 (by decide) ?_
  refine lv_iload_n C.1.1 C.1.2.1 dL_most_106 rfl (lv_at hl 0 rfl) ?_
  refine fl_bipush C.1 dL_most_107 (by decide) ?_
  refine fl_icmp_ge (tgt := 150) C.1 (rgk 6 rfl) (rgk 61 rfl) dL_most_109 (by decide) (fun h => absurd h (by decide)) (fun _ => ?_)
  refine lv_aload_n C.1.1 C.1.2.1 dL_most_112 rfl (lv_at hl 1 rfl) ?_
  refine fl_bipush C.1 dL_most_113 (by decide) ?_
  refine lv_iload_n C.1.1 C.1.2.1 dL_most_115 rfl (lv_at hl 0 rfl) ?_
  refine fl_bipush C.1 dL_most_116 (by decide) ?_
  refine h_irem (z := 6) C.1 (by decide) (by decide) (by decide) dL_most_118 ?_
  refine lv_iload_n C.1.1 C.1.2.1 dL_most_119 rfl (lv_at hl 0 rfl) ?_
  refine fl_bipush C.1 dL_most_120 (by decide) ?_
  refine h_irem (z := 0) C.1 (by decide) (by decide) (by decide) dL_most_122 ?_
  refine fl_iconst C.1 dL_most_123 ?_
  refine k_act (v := 6) (S' := (gEb fB 7)) hst C ⟨(Nat.le_of_ble_eq_true rfl), (Nat.le_of_ble_eq_true rfl)⟩ hI hl.1 (rgk 8 rfl) (rgk 6 rfl) (rgk 0 rfl) (rgk 0 rfl) (gE_step (k := 6) (by decide)) (Nat.le_of_ble_eq_true rfl) ⟨(Nat.le_of_ble_eq_true rfl), (Nat.le_of_ble_eq_true rfl)⟩ dL_most_124 (fun H locs hI _ => ?_)
  refine lv_iload_n C.1.1 C.1.2.1 dL_most_127 rfl (lv_at hl 0 rfl) ?_
  refine fl_bipush C.1 dL_most_128 (by decide) ?_
  refine fl_icmp_ge (tgt := 137) C.1 (rgk 6 rfl) (rgk 60 rfl) dL_most_130 (by decide) (fun h => absurd h (by decide)) (fun _ => ?_)
  refine lv_iload_n C.1.1 C.1.2.1 dL_most_133 rfl (lv_at hl 0 rfl) ?_
  refine fl_goto (tgt := 139) C.1 dL_most_134 (by decide) ?_
  refine fl_icmp_eq (tgt := 144) C.1 (rgk 6 rfl) (rgk 6 rfl) dL_most_139 (by decide) (fun _ => ?_) (fun h => absurd (by decide) h)
  refine fl_iinc (k := 0) (lv' := [(1, iv (wr (6 + 1))), (0, .ref x)]) C.1 dL_most_144 hl rfl (by decide) rfl (fun ls hl => ?_)
  rw [show wr (6 + 1) = (7 : Int) from by decide +kernel] at hl
  refine fl_goto (tgt := 106) C.1 dL_most_147 (by decide) ?_
  refine lv_iload_n C.1.1 C.1.2.1 dL_most_106 rfl (lv_at hl 0 rfl) ?_
  refine fl_bipush C.1 dL_most_107 (by decide) ?_
  refine fl_icmp_ge (tgt := 150) C.1 (rgk 7 rfl) (rgk 61 rfl) dL_most_109 (by decide) (fun h => absurd h (by decide)) (fun _ => ?_)
  refine lv_aload_n C.1.1 C.1.2.1 dL_most_112 rfl (lv_at hl 1 rfl) ?_
  refine fl_bipush C.1 dL_most_113 (by decide) ?_
  refine lv_iload_n C.1.1 C.1.2.1 dL_most_115 rfl (lv_at hl 0 rfl) ?_
  refine fl_bipush C.1 dL_most_116 (by decide) ?_
  refine h_irem (z := 7) C.1 (by decide) (by decide) (by decide) dL_most_118 ?_
  refine lv_iload_n C.1.1 C.1.2.1 dL_most_119 rfl (lv_at hl 0 rfl) ?_
  refine fl_bipush C.1 dL_most_120 (by decide) ?_
  refine h_irem (z := 1) C.1 (by decide) (by decide) (by decide) dL_most_122 ?_
  refine fl_iconst C.1 dL_most_123 ?_
  refine k_act (v := 7) (S' := (gEb fB 8)) hst C ⟨(Nat.le_of_ble_eq_true rfl), (Nat.le_of_ble_eq_true rfl)⟩ hI hl.1 (rgk 8 rfl) (rgk 7 rfl) (rgk 1 rfl) (rgk 0 rfl) (gE_step (k := 7) (by decide)) (Nat.le_of_ble_eq_true rfl) ⟨(Nat.le_of_ble_eq_true rfl), (Nat.le_of_ble_eq_true rfl)⟩ dL_most_124 (fun H locs hI _ => ?_)
  refine lv_iload_n C.1.1 C.1.2.1 dL_most_127 rfl (lv_at hl 0 rfl) ?_
  refine fl_bipush C.1 dL_most_128 (by decide) ?_
  refine fl_icmp_ge (tgt := 137) C.1 (rgk 7 rfl) (rgk 60 rfl) dL_most_130 (by decide) (fun h => absurd h (by decide)) (fun _ => ?_)
  refine lv_iload_n C.1.1 C.1.2.1 dL_most_133 rfl (lv_at hl 0 rfl) ?_
  refine fl_goto (tgt := 139) C.1 dL_most_134 (by decide) ?_
  refine fl_icmp_eq (tgt := 144) C.1 (rgk 7 rfl) (rgk 7 rfl) dL_most_139 (by decide) (fun _ => ?_) (fun h => absurd (by decide) h)
  refine fl_iinc (k := 0) (lv' := [(1, iv (wr (7 + 1))), (0, .ref x)]) C.1 dL_most_144 hl rfl (by decide) rfl (fun ls hl => ?_)
  rw [show wr (7 + 1) = (8 : Int) from by decide +kernel] at hl
  refine fl_goto (tgt := 106) C.1 dL_most_147 (by decide) ?_
  refine lv_iload_n C.1.1 C.1.2.1 dL_most_106 rfl (lv_at hl 0 rfl) ?_
  refine fl_bipush C.1 dL_most_107 (by decide) ?_
  refine fl_icmp_ge (tgt := 150) C.1 (rgk 8 rfl) (rgk 61 rfl) dL_most_109 (by decide) (fun h => absurd h (by decide)) (fun _ => ?_)
  refine lv_aload_n C.1.1 C.1.2.1 dL_most_112 rfl (lv_at hl 1 rfl) ?_
  refine fl_bipush C.1 dL_most_113 (by decide) ?_
  refine lv_iload_n C.1.1 C.1.2.1 dL_most_115 rfl (lv_at hl 0 rfl) ?_
  refine fl_bipush C.1 dL_most_116 (by decide) ?_
  refine h_irem (z := 0) C.1 (by decide) (by decide) (by decide) dL_most_118 ?_
  refine lv_iload_n C.1.1 C.1.2.1 dL_most_119 rfl (lv_at hl 0 rfl) ?_
  refine fl_bipush C.1 dL_most_120 (by decide) ?_
  refine h_irem (z := 2) C.1 (by decide) (by decide) (by decide) dL_most_122 ?_
  refine fl_iconst C.1 dL_most_123 ?_
  refine k_act (v := 8) (S' := (gEb fB 9)) hst C ⟨(Nat.le_of_ble_eq_true rfl), (Nat.le_of_ble_eq_true rfl)⟩ hI hl.1 (rgk 8 rfl) (rgk 0 rfl) (rgk 2 rfl) (rgk 0 rfl) (gE_step (k := 8) (by decide)) (Nat.le_of_ble_eq_true rfl) ⟨(Nat.le_of_ble_eq_true rfl), (Nat.le_of_ble_eq_true rfl)⟩ dL_most_124 (fun H locs hI _ => ?_)
  refine lv_iload_n C.1.1 C.1.2.1 dL_most_127 rfl (lv_at hl 0 rfl) ?_
  refine fl_bipush C.1 dL_most_128 (by decide) ?_
  refine fl_icmp_ge (tgt := 137) C.1 (rgk 8 rfl) (rgk 60 rfl) dL_most_130 (by decide) (fun h => absurd h (by decide)) (fun _ => ?_)
  refine lv_iload_n C.1.1 C.1.2.1 dL_most_133 rfl (lv_at hl 0 rfl) ?_
  refine fl_goto (tgt := 139) C.1 dL_most_134 (by decide) ?_
  refine fl_icmp_eq (tgt := 144) C.1 (rgk 8 rfl) (rgk 8 rfl) dL_most_139 (by decide) (fun _ => ?_) (fun h => absurd (by decide) h)
  refine fl_iinc (k := 0) (lv' := [(1, iv (wr (8 + 1))), (0, .ref x)]) C.1 dL_most_144 hl rfl (by decide) rfl (fun ls hl => ?_)
  rw [show wr (8 + 1) = (9 : Int) from by decide +kernel] at hl
  refine fl_goto (tgt := 106) C.1 dL_most_147 (by decide) ?_
  refine lv_iload_n C.1.1 C.1.2.1 dL_most_106 rfl (lv_at hl 0 rfl) ?_
  refine fl_bipush C.1 dL_most_107 (by decide) ?_
  refine fl_icmp_ge (tgt := 150) C.1 (rgk 9 rfl) (rgk 61 rfl) dL_most_109 (by decide) (fun h => absurd h (by decide)) (fun _ => ?_)
  refine lv_aload_n C.1.1 C.1.2.1 dL_most_112 rfl (lv_at hl 1 rfl) ?_
  refine fl_bipush C.1 dL_most_113 (by decide) ?_
  refine lv_iload_n C.1.1 C.1.2.1 dL_most_115 rfl (lv_at hl 0 rfl) ?_
  refine fl_bipush C.1 dL_most_116 (by decide) ?_
  refine h_irem (z := 1) C.1 (by decide) (by decide) (by decide) dL_most_118 ?_
  refine lv_iload_n C.1.1 C.1.2.1 dL_most_119 rfl (lv_at hl 0 rfl) ?_
  refine fl_bipush C.1 dL_most_120 (by decide) ?_
  refine h_irem (z := 3) C.1 (by decide) (by decide) (by decide) dL_most_122 ?_
  refine fl_iconst C.1 dL_most_123 ?_
  refine k_act (v := 9) (S' := (gEb fB 10)) hst C ⟨(Nat.le_of_ble_eq_true rfl), (Nat.le_of_ble_eq_true rfl)⟩ hI hl.1 (rgk 8 rfl) (rgk 1 rfl) (rgk 3 rfl) (rgk 0 rfl) (gE_step (k := 9) (by decide)) (Nat.le_of_ble_eq_true rfl) ⟨(Nat.le_of_ble_eq_true rfl), (Nat.le_of_ble_eq_true rfl)⟩ dL_most_124 (fun H locs hI _ => ?_)
  refine lv_iload_n C.1.1 C.1.2.1 dL_most_127 rfl (lv_at hl 0 rfl) ?_
  refine fl_bipush C.1 dL_most_128 (by decide) ?_
  refine fl_icmp_ge (tgt := 137) C.1 (rgk 9 rfl) (rgk 60 rfl) dL_most_130 (by decide) (fun h => absurd h (by decide)) (fun _ => ?_)
  refine lv_iload_n C.1.1 C.1.2.1 dL_most_133 rfl (lv_at hl 0 rfl) ?_
  refine fl_goto (tgt := 139) C.1 dL_most_134 (by decide) ?_
  refine fl_icmp_eq (tgt := 144) C.1 (rgk 9 rfl) (rgk 9 rfl) dL_most_139 (by decide) (fun _ => ?_) (fun h => absurd (by decide) h)
  refine fl_iinc (k := 0) (lv' := [(1, iv (wr (9 + 1))), (0, .ref x)]) C.1 dL_most_144 hl rfl (by decide) rfl (fun ls hl => ?_)
  rw [show wr (9 + 1) = (10 : Int) from by decide +kernel] at hl
  refine fl_goto (tgt := 106) C.1 dL_most_147 (by decide) ?_
  refine lv_iload_n C.1.1 C.1.2.1 dL_most_106 rfl (lv_at hl 0 rfl) ?_
  refine fl_bipush C.1 dL_most_107 (by decide) ?_
  refine fl_icmp_ge (tgt := 150) C.1 (rgk 10 rfl) (rgk 61 rfl) dL_most_109 (by decide) (fun h => absurd h (by decide)) (fun _ => ?_)
  refine lv_aload_n C.1.1 C.1.2.1 dL_most_112 rfl (lv_at hl 1 rfl) ?_
  refine fl_bipush C.1 dL_most_113 (by decide) ?_
  refine lv_iload_n C.1.1 C.1.2.1 dL_most_115 rfl (lv_at hl 0 rfl) ?_
  refine fl_bipush C.1 dL_most_116 (by decide) ?_
  refine h_irem (z := 2) C.1 (by decide) (by decide) (by decide) dL_most_118 ?_
  refine lv_iload_n C.1.1 C.1.2.1 dL_most_119 rfl (lv_at hl 0 rfl) ?_
  refine fl_bipush C.1 dL_most_120 (by decide) ?_
  refine h_irem (z := 4) C.1 (by decide) (by decide) (by decide) dL_most_122 ?_
  refine fl_iconst C.1 dL_most_123 ?_
  refine k_act (v := 10) (S' := (gEb fB 11)) hst C ⟨(Nat.le_of_ble_eq_true rfl), (Nat.le_of_ble_eq_true rfl)⟩ hI hl.1 (rgk 8 rfl) (rgk 2 rfl) (rgk 4 rfl) (rgk 0 rfl) (gE_step (k := 10) (by decide)) (Nat.le_of_ble_eq_true rfl) ⟨(Nat.le_of_ble_eq_true rfl), (Nat.le_of_ble_eq_true rfl)⟩ dL_most_124 (fun H locs hI _ => ?_)
  refine lv_iload_n C.1.1 C.1.2.1 dL_most_127 rfl (lv_at hl 0 rfl) ?_
  refine fl_bipush C.1 dL_most_128 (by decide) ?_
  refine fl_icmp_ge (tgt := 137) C.1 (rgk 10 rfl) (rgk 60 rfl) dL_most_130 (by decide) (fun h => absurd h (by decide)) (fun _ => ?_)
  refine lv_iload_n C.1.1 C.1.2.1 dL_most_133 rfl (lv_at hl 0 rfl) ?_
  refine fl_goto (tgt := 139) C.1 dL_most_134 (by decide) ?_
  refine fl_icmp_eq (tgt := 144) C.1 (rgk 10 rfl) (rgk 10 rfl) dL_most_139 (by decide) (fun _ => ?_) (fun h => absurd (by decide) h)
  refine fl_iinc (k := 0) (lv' := [(1, iv (wr (10 + 1))), (0, .ref x)]) C.1 dL_most_144 hl rfl (by decide) rfl (fun ls hl => ?_)
  rw [show wr (10 + 1) = (11 : Int) from by decide +kernel] at hl
  refine fl_goto (tgt := 106) C.1 dL_most_147 (by decide) ?_
  refine lv_iload_n C.1.1 C.1.2.1 dL_most_106 rfl (lv_at hl 0 rfl) ?_
  refine fl_bipush C.1 dL_most_107 (by decide) ?_
  refine fl_icmp_ge (tgt := 150) C.1 (rgk 11 rfl) (rgk 61 rfl) dL_most_109 (by decide) (fun h => absurd h (by decide)) (fun _ => ?_)
  refine lv_aload_n C.1.1 C.1.2.1 dL_most_112 rfl (lv_at hl 1 rfl) ?_
  refine fl_bipush C.1 dL_most_113 (by decide) ?_
  refine lv_iload_n C.1.1 C.1.2.1 dL_most_115 rfl (lv_at hl 0 rfl) ?_
  refine fl_bipush C.1 dL_most_116 (by decide) ?_
  refine h_irem (z := 3) C.1 (by decide) (by decide) (by decide) dL_most_118 ?_
  refine lv_iload_n C.1.1 C.1.2.1 dL_most_119 rfl (lv_at hl 0 rfl) ?_
  refine fl_bipush C.1 dL_most_120 (by decide) ?_
  refine h_irem (z := 5) C.1 (by decide) (by decide) (by decide) dL_most_122 ?_
  refine fl_iconst C.1 dL_most_123 ?_
  refine k_act (v := 11) (S' := (gEb fB 12)) hst C ⟨(Nat.le_of_ble_eq_true rfl), (Nat.le_of_ble_eq_true rfl)⟩ hI hl.1 (rgk 8 rfl) (rgk 3 rfl) (rgk 5 rfl) (rgk 0 rfl) (gE_step (k := 11) (by decide)) (Nat.le_of_ble_eq_true rfl) ⟨(Nat.le_of_ble_eq_true rfl), (Nat.le_of_ble_eq_true rfl)⟩ dL_most_124 (fun H locs hI _ => ?_)
  refine lv_iload_n C.1.1 C.1.2.1 dL_most_127 rfl (lv_at hl 0 rfl) ?_
  refine fl_bipush C.1 dL_most_128 (by decide) ?_
  refine fl_icmp_ge (tgt := 137) C.1 (rgk 11 rfl) (rgk 60 rfl) dL_most_130 (by decide) (fun h => absurd h (by decide)) (fun _ => ?_)
  refine lv_iload_n C.1.1 C.1.2.1 dL_most_133 rfl (lv_at hl 0 rfl) ?_
  refine fl_goto (tgt := 139) C.1 dL_most_134 (by decide) ?_
  refine fl_icmp_eq (tgt := 144) C.1 (rgk 11 rfl) (rgk 11 rfl) dL_most_139 (by decide) (fun _ => ?_) (fun h => absurd (by decide) h)
  refine fl_iinc (k := 0) (lv' := [(1, iv (wr (11 + 1))), (0, .ref x)]) C.1 dL_most_144 hl rfl (by decide) rfl (fun ls hl => ?_)
  rw [show wr (11 + 1) = (12 : Int) from by decide +kernel] at hl
  refine fl_goto (tgt := 106) C.1 dL_most_147 (by decide) ?_
  refine lv_iload_n C.1.1 C.1.2.1 dL_most_106 rfl (lv_at hl 0 rfl) ?_
  refine fl_bipush C.1 dL_most_107 (by decide) ?_
  refine fl_icmp_ge (tgt := 150) C.1 (rgk 12 rfl) (rgk 61 rfl) dL_most_109 (by decide) (fun h => absurd h (by decide)) (fun _ => ?_)
  refine lv_aload_n C.1.1 C.1.2.1 dL_most_112 rfl (lv_at hl 1 rfl) ?_
  refine fl_bipush C.1 dL_most_113 (by decide) ?_
  refine lv_iload_n C.1.1 C.1.2.1 dL_most_115 rfl (lv_at hl 0 rfl) ?_
  refine fl_bipush C.1 dL_most_116 (by decide) ?_
  refine h_irem (z := 4) C.1 (by decide) (by decide) (by decide) dL_most_118 ?_
  refine lv_iload_n C.1.1 C.1.2.1 dL_most_119 rfl (lv_at hl 0 rfl) ?_
  refine fl_bipush C.1 dL_most_120 (by decide) ?_
  refine h_irem (z := 0) C.1 (by decide) (by decide) (by decide) dL_most_122 ?_
  refine fl_iconst C.1 dL_most_123 ?_
  refine k_act (v := 12) (S' := (gEb fB 13)) hst C ⟨(Nat.le_of_ble_eq_true rfl), (Nat.le_of_ble_eq_true rfl)⟩ hI hl.1 (rgk 8 rfl) (rgk 4 rfl) (rgk 0 rfl) (rgk 0 rfl) (gE_step (k := 12) (by decide)) (Nat.le_of_ble_eq_true rfl) ⟨(Nat.le_of_ble_eq_true rfl), (Nat.le_of_ble_eq_true rfl)⟩ dL_most_124 (fun H locs hI _ => ?_)
  refine lv_iload_n C.1.1 C.1.2.1 dL_most_127 rfl (lv_at hl 0 rfl) ?_
  refine fl_bipush C.1 dL_most_128 (by decide) ?_
  refine fl_icmp_ge (tgt := 137) C.1 (rgk 12 rfl) (rgk 60 rfl) dL_most_130 (by decide) (fun h => absurd h (by decide)) (fun _ => ?_)
  refine lv_iload_n C.1.1 C.1.2.1 dL_most_133 rfl (lv_at hl 0 rfl) ?_
  refine fl_goto (tgt := 139) C.1 dL_most_134 (by decide) ?_
  refine fl_icmp_eq (tgt := 144) C.1 (rgk 12 rfl) (rgk 12 rfl) dL_most_139 (by decide) (fun _ => ?_) (fun h => absurd (by decide) h)
  refine fl_iinc (k := 0) (lv' := [(1, iv (wr (12 + 1))), (0, .ref x)]) C.1 dL_most_144 hl rfl (by decide) rfl (fun ls hl => ?_)
  rw [show wr (12 + 1) = (13 : Int) from by decide +kernel] at hl
  refine fl_goto (tgt := 106) C.1 dL_most_147 (by decide) ?_
  refine lv_iload_n C.1.1 C.1.2.1 dL_most_106 rfl (lv_at hl 0 rfl) ?_
  refine fl_bipush C.1 dL_most_107 (by decide) ?_
  refine fl_icmp_ge (tgt := 150) C.1 (rgk 13 rfl) (rgk 61 rfl) dL_most_109 (by decide) (fun h => absurd h (by decide)) (fun _ => ?_)
  refine lv_aload_n C.1.1 C.1.2.1 dL_most_112 rfl (lv_at hl 1 rfl) ?_
  refine fl_bipush C.1 dL_most_113 (by decide) ?_
  refine lv_iload_n C.1.1 C.1.2.1 dL_most_115 rfl (lv_at hl 0 rfl) ?_
  refine fl_bipush C.1 dL_most_116 (by decide) ?_
  refine h_irem (z := 5) C.1 (by decide) (by decide) (by decide) dL_most_118 ?_
  refine lv_iload_n C.1.1 C.1.2.1 dL_most_119 rfl (lv_at hl 0 rfl) ?_
  refine fl_bipush C.1 dL_most_120 (by decide) ?_
  refine h_irem (z := 1) C.1 (by decide) (by decide) (by decide) dL_most_122 ?_
  refine fl_iconst C.1 dL_most_123 ?_
  refine k_act (v := 13) (S' := (gEb fB 14)) hst C ⟨(Nat.le_of_ble_eq_true rfl), (Nat.le_of_ble_eq_true rfl)⟩ hI hl.1 (rgk 8 rfl) (rgk 5 rfl) (rgk 1 rfl) (rgk 0 rfl) (gE_step (k := 13) (by decide)) (Nat.le_of_ble_eq_true rfl) ⟨(Nat.le_of_ble_eq_true rfl), (Nat.le_of_ble_eq_true rfl)⟩ dL_most_124 (fun H locs hI _ => ?_)
  refine lv_iload_n C.1.1 C.1.2.1 dL_most_127 rfl (lv_at hl 0 rfl) ?_
  refine fl_bipush C.1 dL_most_128 (by decide) ?_
  refine fl_icmp_ge (tgt := 137) C.1 (rgk 13 rfl) (rgk 60 rfl) dL_most_130 (by decide) (fun h => absurd h (by decide)) (fun _ => ?_)
  refine lv_iload_n C.1.1 C.1.2.1 dL_most_133 rfl (lv_at hl 0 rfl) ?_
  refine fl_goto (tgt := 139) C.1 dL_most_134 (by decide) ?_
  refine fl_icmp_eq (tgt := 144) C.1 (rgk 13 rfl) (rgk 13 rfl) dL_most_139 (by decide) (fun _ => ?_) (fun h => absurd (by decide) h)
  refine fl_iinc (k := 0) (lv' := [(1, iv (wr (13 + 1))), (0, .ref x)]) C.1 dL_most_144 hl rfl (by decide) rfl (fun ls hl => ?_)
  rw [show wr (13 + 1) = (14 : Int) from by decide +kernel] at hl
  refine fl_goto (tgt := 106) C.1 dL_most_147 (by decide) ?_
  refine lv_iload_n C.1.1 C.1.2.1 dL_most_106 rfl (lv_at hl 0 rfl) ?_
  refine fl_bipush C.1 dL_most_107 (by decide) ?_
  refine fl_icmp_ge (tgt := 150) C.1 (rgk 14 rfl) (rgk 61 rfl) dL_most_109 (by decide) (fun h => absurd h (by decide)) (fun _ => ?_)
  refine lv_aload_n C.1.1 C.1.2.1 dL_most_112 rfl (lv_at hl 1 rfl) ?_
  refine fl_bipush C.1 dL_most_113 (by decide) ?_
  refine lv_iload_n C.1.1 C.1.2.1 dL_most_115 rfl (lv_at hl 0 rfl) ?_
  refine fl_bipush C.1 dL_most_116 (by decide) ?_
  refine h_irem (z := 6) C.1 (by decide) (by decide) (by decide) dL_most_118 ?_
  refine lv_iload_n C.1.1 C.1.2.1 dL_most_119 rfl (lv_at hl 0 rfl) ?_
  refine fl_bipush C.1 dL_most_120 (by decide) ?_
  refine h_irem (z := 2) C.1 (by decide) (by decide) (by decide) dL_most_122 ?_
  refine fl_iconst C.1 dL_most_123 ?_
  refine k_act (v := 14) (S' := (gEb fB 15)) hst C ⟨(Nat.le_of_ble_eq_true rfl), (Nat.le_of_ble_eq_true rfl)⟩ hI hl.1 (rgk 8 rfl) (rgk 6 rfl) (rgk 2 rfl) (rgk 0 rfl) (gE_step (k := 14) (by decide)) (Nat.le_of_ble_eq_true rfl) ⟨(Nat.le_of_ble_eq_true rfl), (Nat.le_of_ble_eq_true rfl)⟩ dL_most_124 (fun H locs hI _ => ?_)
  refine lv_iload_n C.1.1 C.1.2.1 dL_most_127 rfl (lv_at hl 0 rfl) ?_
  refine fl_bipush C.1 dL_most_128 (by decide) ?_
  refine fl_icmp_ge (tgt := 137) C.1 (rgk 14 rfl) (rgk 60 rfl) dL_most_130 (by decide) (fun h => absurd h (by decide)) (fun _ => ?_)
  refine lv_iload_n C.1.1 C.1.2.1 dL_most_133 rfl (lv_at hl 0 rfl) ?_
  refine fl_goto (tgt := 139) C.1 dL_most_134 (by decide) ?_
  refine fl_icmp_eq (tgt := 144) C.1 (rgk 14 rfl) (rgk 14 rfl) dL_most_139 (by decide) (fun _ => ?_) (fun h => absurd (by decide) h)
  exact W.widen (Nat.le_of_ble_eq_true rfl) (Nat.le_of_ble_eq_true rfl) (kk H locs ls hI hl)
set_option maxRecDepth 100000 in
set_option maxHeartbeats 4000000 in
theorem w_most_2 (hst : l.stackTraces = false) (C : LC p s m meth c D cy B cL_most 2) (kk : ∀ (H : Heap) (locs : List Loc) (ls : Array Slot), HI D cy B s.heap H locs x (gEb fB 39) → lv_has ls 2 [(1, iv 38), (0, .ref x)] → W p l e rm_L_most s m args below meth c H locs 580 122049 Q (F0 m 144 ls [])) : ∀ (H : Heap) (locs : List Loc) (ls : Array Slot), HI D cy B s.heap H locs x (gEb fB 15) → lv_has ls 2 [(1, iv 14), (0, .ref x)] → W p l e rm_L_most s m args below meth c H locs 364 72585 Q (F0 m 144 ls []) := by
  intro H locs ls hI hl
  refine fl_iinc (k := 0) (lv' := [(1, iv (wr (14 + 1))), (0, .ref x)]) C.1 dL_most_144 hl rfl (by decide) rfl (fun ls hl => ?_)
  rw [show wr (14 + 1) = (15 : Int) from by decide +kernel] at hl
  refine fl_goto (tgt := 106) C.1 dL_most_147 (by decide) ?_
  refine lv_iload_n C.1.1 C.1.2.1 dL_most_106 rfl (lv_at hl 0 rfl) ?_
  refine fl_bipush C.1 dL_most_107 (by decide) ?_
  refine fl_icmp_ge (tgt := 150) C.1 (rgk 15 rfl) (rgk 61 rfl) dL_most_109 (by decide) (fun h => absurd h (by decide)) (fun _ => ?_)
  refine lv_aload_n C.1.1 C.1.2.1 dL_most_112 rfl (lv_at hl 1 rfl) ?_
  refine fl_bipush C.1 dL_most_113 (by decide) ?_
  refine lv_iload_n C.1.1 C.1.2.1 dL_most_115 rfl (lv_at hl 0 rfl) ?_
  refine fl_bipush C.1 dL_most_116 (by decide) ?_
  refine h_irem (z := 7) C.1 (by decide) (by decide) (by decide) dL_most_118 ?_
  refine lv_iload_n C.1.1 C.1.2.1 dL_most_119 rfl (lv_at hl 0 rfl) ?_
  refine fl_bipush C.1 dL_most_120 (by decide) ?_
  refine h_irem (z := 3) C.1 (by decide) (by decide) (by decide) dL_most_122 ?_
  refine fl_iconst C.1 dL_most_123 ?_
  refine k_act (v := 15) (S' := (gEb fB 16)) hst C ⟨(Nat.le_of_ble_eq_true rfl), (Nat.le_of_ble_eq_true rfl)⟩ hI hl.1 (rgk 8 rfl) (rgk 7 rfl) (rgk 3 rfl) (rgk 0 rfl) (gE_step (k := 15) (by decide)) (Nat.le_of_ble_eq_true rfl) ⟨(Nat.le_of_ble_eq_true rfl), (Nat.le_of_ble_eq_true rfl)⟩ dL_most_124 (fun H locs hI _ => ?_)
  refine lv_iload_n C.1.1 C.1.2.1 dL_most_127 rfl (lv_at hl 0 rfl) ?_
  refine fl_bipush C.1 dL_most_128 (by decide) ?_
  refine fl_icmp_ge (tgt := 137) C.1 (rgk 15 rfl) (rgk 60 rfl) dL_most_130 (by decide) (fun h => absurd h (by decide)) (fun _ => ?_)
  refine lv_iload_n C.1.1 C.1.2.1 dL_most_133 rfl (lv_at hl 0 rfl) ?_
  refine fl_goto (tgt := 139) C.1 dL_most_134 (by decide) ?_
  refine fl_icmp_eq (tgt := 144) C.1 (rgk 15 rfl) (rgk 15 rfl) dL_most_139 (by decide) (fun _ => ?_) (fun h => absurd (by decide) h)
  refine fl_iinc (k := 0) (lv' := [(1, iv (wr (15 + 1))), (0, .ref x)]) C.1 dL_most_144 hl rfl (by decide) rfl (fun ls hl => ?_)
  rw [show wr (15 + 1) = (16 : Int) from by decide +kernel] at hl
  refine fl_goto (tgt := 106) C.1 dL_most_147 (by decide) ?_
  refine lv_iload_n C.1.1 C.1.2.1 dL_most_106 rfl (lv_at hl 0 rfl) ?_
  refine fl_bipush C.1 dL_most_107 (by decide) ?_
  refine fl_icmp_ge (tgt := 150) C.1 (rgk 16 rfl) (rgk 61 rfl) dL_most_109 (by decide) (fun h => absurd h (by decide)) (fun _ => ?_)
  refine lv_aload_n C.1.1 C.1.2.1 dL_most_112 rfl (lv_at hl 1 rfl) ?_
  refine fl_bipush C.1 dL_most_113 (by decide) ?_
  refine lv_iload_n C.1.1 C.1.2.1 dL_most_115 rfl (lv_at hl 0 rfl) ?_
  refine fl_bipush C.1 dL_most_116 (by decide) ?_
  refine h_irem (z := 0) C.1 (by decide) (by decide) (by decide) dL_most_118 ?_
  refine lv_iload_n C.1.1 C.1.2.1 dL_most_119 rfl (lv_at hl 0 rfl) ?_
  refine fl_bipush C.1 dL_most_120 (by decide) ?_
  refine h_irem (z := 4) C.1 (by decide) (by decide) (by decide) dL_most_122 ?_
  refine fl_iconst C.1 dL_most_123 ?_
  refine k_act (v := 16) (S' := (gEb fB 17)) hst C ⟨(Nat.le_of_ble_eq_true rfl), (Nat.le_of_ble_eq_true rfl)⟩ hI hl.1 (rgk 8 rfl) (rgk 0 rfl) (rgk 4 rfl) (rgk 0 rfl) (gE_step (k := 16) (by decide)) (Nat.le_of_ble_eq_true rfl) ⟨(Nat.le_of_ble_eq_true rfl), (Nat.le_of_ble_eq_true rfl)⟩ dL_most_124 (fun H locs hI _ => ?_)
  refine lv_iload_n C.1.1 C.1.2.1 dL_most_127 rfl (lv_at hl 0 rfl) ?_
  refine fl_bipush C.1 dL_most_128 (by decide) ?_
  refine fl_icmp_ge (tgt := 137) C.1 (rgk 16 rfl) (rgk 60 rfl) dL_most_130 (by decide) (fun h => absurd h (by decide)) (fun _ => ?_)
  refine lv_iload_n C.1.1 C.1.2.1 dL_most_133 rfl (lv_at hl 0 rfl) ?_
  refine fl_goto (tgt := 139) C.1 dL_most_134 (by decide) ?_
  refine fl_icmp_eq (tgt := 144) C.1 (rgk 16 rfl) (rgk 16 rfl) dL_most_139 (by decide) (fun _ => ?_) (fun h => absurd (by decide) h)
  refine fl_iinc (k := 0) (lv' := [(1, iv (wr (16 + 1))), (0, .ref x)]) C.1 dL_most_144 hl rfl (by decide) rfl (fun ls hl => ?_)
  rw [show wr (16 + 1) = (17 : Int) from by decide +kernel] at hl
  refine fl_goto (tgt := 106) C.1 dL_most_147 (by decide) ?_
  refine lv_iload_n C.1.1 C.1.2.1 dL_most_106 rfl (lv_at hl 0 rfl) ?_
  refine fl_bipush C.1 dL_most_107 (by decide) ?_
  refine fl_icmp_ge (tgt := 150) C.1 (rgk 17 rfl) (rgk 61 rfl) dL_most_109 (by decide) (fun h => absurd h (by decide)) (fun _ => ?_)
  refine lv_aload_n C.1.1 C.1.2.1 dL_most_112 rfl (lv_at hl 1 rfl) ?_
  refine fl_bipush C.1 dL_most_113 (by decide) ?_
  refine lv_iload_n C.1.1 C.1.2.1 dL_most_115 rfl (lv_at hl 0 rfl) ?_
  refine fl_bipush C.1 dL_most_116 (by decide) ?_
  refine h_irem (z := 1) C.1 (by decide) (by decide) (by decide) dL_most_118 ?_
  refine lv_iload_n C.1.1 C.1.2.1 dL_most_119 rfl (lv_at hl 0 rfl) ?_
  refine fl_bipush C.1 dL_most_120 (by decide) ?_
  refine h_irem (z := 5) C.1 (by decide) (by decide) (by decide) dL_most_122 ?_
  refine fl_iconst C.1 dL_most_123 ?_
  refine k_act (v := 17) (S' := (gEb fB 18)) hst C ⟨(Nat.le_of_ble_eq_true rfl), (Nat.le_of_ble_eq_true rfl)⟩ hI hl.1 (rgk 8 rfl) (rgk 1 rfl) (rgk 5 rfl) (rgk 0 rfl) (gE_step (k := 17) (by decide)) (Nat.le_of_ble_eq_true rfl) ⟨(Nat.le_of_ble_eq_true rfl), (Nat.le_of_ble_eq_true rfl)⟩ dL_most_124 (fun H locs hI _ => ?_)
  refine lv_iload_n C.1.1 C.1.2.1 dL_most_127 rfl (lv_at hl 0 rfl) ?_
  refine fl_bipush C.1 dL_most_128 (by decide) ?_
  refine fl_icmp_ge (tgt := 137) C.1 (rgk 17 rfl) (rgk 60 rfl) dL_most_130 (by decide) (fun h => absurd h (by decide)) (fun _ => ?_)
  refine lv_iload_n C.1.1 C.1.2.1 dL_most_133 rfl (lv_at hl 0 rfl) ?_
  refine fl_goto (tgt := 139) C.1 dL_most_134 (by decide) ?_
  refine fl_icmp_eq (tgt := 144) C.1 (rgk 17 rfl) (rgk 17 rfl) dL_most_139 (by decide) (fun _ => ?_) (fun h => absurd (by decide) h)
  refine fl_iinc (k := 0) (lv' := [(1, iv (wr (17 + 1))), (0, .ref x)]) C.1 dL_most_144 hl rfl (by decide) rfl (fun ls hl => ?_)
  rw [show wr (17 + 1) = (18 : Int) from by decide +kernel] at hl
  refine fl_goto (tgt := 106) C.1 dL_most_147 (by decide) ?_
  refine lv_iload_n C.1.1 C.1.2.1 dL_most_106 rfl (lv_at hl 0 rfl) ?_
  refine fl_bipush C.1 dL_most_107 (by decide) ?_
  refine fl_icmp_ge (tgt := 150) C.1 (rgk 18 rfl) (rgk 61 rfl) dL_most_109 (by decide) (fun h => absurd h (by decide)) (fun _ => ?_)
  refine lv_aload_n C.1.1 C.1.2.1 dL_most_112 rfl (lv_at hl 1 rfl) ?_
  refine fl_bipush C.1 dL_most_113 (by decide) ?_
  refine lv_iload_n C.1.1 C.1.2.1 dL_most_115 rfl (lv_at hl 0 rfl) ?_
  refine fl_bipush C.1 dL_most_116 (by decide) ?_
  refine h_irem (z := 2) C.1 (by decide) (by decide) (by decide) dL_most_118 ?_
  refine lv_iload_n C.1.1 C.1.2.1 dL_most_119 rfl (lv_at hl 0 rfl) ?_
  refine fl_bipush C.1 dL_most_120 (by decide) ?_
  refine h_irem (z := 0) C.1 (by decide) (by decide) (by decide) dL_most_122 ?_
  refine fl_iconst C.1 dL_most_123 ?_
  refine k_act (v := 18) (S' := (gEb fB 19)) hst C ⟨(Nat.le_of_ble_eq_true rfl), (Nat.le_of_ble_eq_true rfl)⟩ hI hl.1 (rgk 8 rfl) (rgk 2 rfl) (rgk 0 rfl) (rgk 0 rfl) (gE_step (k := 18) (by decide)) (Nat.le_of_ble_eq_true rfl) ⟨(Nat.le_of_ble_eq_true rfl), (Nat.le_of_ble_eq_true rfl)⟩ dL_most_124 (fun H locs hI _ => ?_)
  refine lv_iload_n C.1.1 C.1.2.1 dL_most_127 rfl (lv_at hl 0 rfl) ?_
  refine fl_bipush C.1 dL_most_128 (by decide) ?_
  refine fl_icmp_ge (tgt := 137) C.1 (rgk 18 rfl) (rgk 60 rfl) dL_most_130 (by decide) (fun h => absurd h (by decide)) (fun _ => ?_)
  refine lv_iload_n C.1.1 C.1.2.1 dL_most_133 rfl (lv_at hl 0 rfl) ?_
  refine fl_goto (tgt := 139) C.1 dL_most_134 (by decide) ?_
  refine fl_icmp_eq (tgt := 144) C.1 (rgk 18 rfl) (rgk 18 rfl) dL_most_139 (by decide) (fun _ => ?_) (fun h => absurd (by decide) h)
  refine fl_iinc (k := 0) (lv' := [(1, iv (wr (18 + 1))), (0, .ref x)]) C.1 dL_most_144 hl rfl (by decide) rfl (fun ls hl => ?_)
  rw [show wr (18 + 1) = (19 : Int) from by decide +kernel] at hl
  refine fl_goto (tgt := 106) C.1 dL_most_147 (by decide) ?_
  refine lv_iload_n C.1.1 C.1.2.1 dL_most_106 rfl (lv_at hl 0 rfl) ?_
  refine fl_bipush C.1 dL_most_107 (by decide) ?_
  refine fl_icmp_ge (tgt := 150) C.1 (rgk 19 rfl) (rgk 61 rfl) dL_most_109 (by decide) (fun h => absurd h (by decide)) (fun _ => ?_)
  refine lv_aload_n C.1.1 C.1.2.1 dL_most_112 rfl (lv_at hl 1 rfl) ?_
  refine fl_bipush C.1 dL_most_113 (by decide) ?_
  refine lv_iload_n C.1.1 C.1.2.1 dL_most_115 rfl (lv_at hl 0 rfl) ?_
  refine fl_bipush C.1 dL_most_116 (by decide) ?_
  refine h_irem (z := 3) C.1 (by decide) (by decide) (by decide) dL_most_118 ?_
  refine lv_iload_n C.1.1 C.1.2.1 dL_most_119 rfl (lv_at hl 0 rfl) ?_
  refine fl_bipush C.1 dL_most_120 (by decide) ?_
  refine h_irem (z := 1) C.1 (by decide) (by decide) (by decide) dL_most_122 ?_
  refine fl_iconst C.1 dL_most_123 ?_
  refine k_act (v := 19) (S' := (gEb fB 20)) hst C ⟨(Nat.le_of_ble_eq_true rfl), (Nat.le_of_ble_eq_true rfl)⟩ hI hl.1 (rgk 8 rfl) (rgk 3 rfl) (rgk 1 rfl) (rgk 0 rfl) (gE_step (k := 19) (by decide)) (Nat.le_of_ble_eq_true rfl) ⟨(Nat.le_of_ble_eq_true rfl), (Nat.le_of_ble_eq_true rfl)⟩ dL_most_124 (fun H locs hI _ => ?_)
  refine lv_iload_n C.1.1 C.1.2.1 dL_most_127 rfl (lv_at hl 0 rfl) ?_
  refine fl_bipush C.1 dL_most_128 (by decide) ?_
  refine fl_icmp_ge (tgt := 137) C.1 (rgk 19 rfl) (rgk 60 rfl) dL_most_130 (by decide) (fun h => absurd h (by decide)) (fun _ => ?_)
  refine lv_iload_n C.1.1 C.1.2.1 dL_most_133 rfl (lv_at hl 0 rfl) ?_
  refine fl_goto (tgt := 139) C.1 dL_most_134 (by decide) ?_
  refine fl_icmp_eq (tgt := 144) C.1 (rgk 19 rfl) (rgk 19 rfl) dL_most_139 (by decide) (fun _ => ?_) (fun h => absurd (by decide) h)
  refine fl_iinc (k := 0) (lv' := [(1, iv (wr (19 + 1))), (0, .ref x)]) C.1 dL_most_144 hl rfl (by decide) rfl (fun ls hl => ?_)
  rw [show wr (19 + 1) = (20 : Int) from by decide +kernel] at hl
  refine fl_goto (tgt := 106) C.1 dL_most_147 (by decide) ?_
  refine lv_iload_n C.1.1 C.1.2.1 dL_most_106 rfl (lv_at hl 0 rfl) ?_
  refine fl_bipush C.1 dL_most_107 (by decide) ?_
  refine fl_icmp_ge (tgt := 150) C.1 (rgk 20 rfl) (rgk 61 rfl) dL_most_109 (by decide) (fun h => absurd h (by decide)) (fun _ => ?_)
  refine lv_aload_n C.1.1 C.1.2.1 dL_most_112 rfl (lv_at hl 1 rfl) ?_
  refine fl_bipush C.1 dL_most_113 (by decide) ?_
  refine lv_iload_n C.1.1 C.1.2.1 dL_most_115 rfl (lv_at hl 0 rfl) ?_
  refine fl_bipush C.1 dL_most_116 (by decide) ?_
  refine h_irem (z := 4) C.1 (by decide) (by decide) (by decide) dL_most_118 ?_
  refine lv_iload_n C.1.1 C.1.2.1 dL_most_119 rfl (lv_at hl 0 rfl) ?_
  refine fl_bipush C.1 dL_most_120 (by decide) ?_
  refine h_irem (z := 2) C.1 (by decide) (by decide) (by decide) dL_most_122 ?_
  refine fl_iconst C.1 dL_most_123 ?_
  refine k_act (v := 20) (S' := (gEb fB 21)) hst C ⟨(Nat.le_of_ble_eq_true rfl), (Nat.le_of_ble_eq_true rfl)⟩ hI hl.1 (rgk 8 rfl) (rgk 4 rfl) (rgk 2 rfl) (rgk 0 rfl) (gE_step (k := 20) (by decide)) (Nat.le_of_ble_eq_true rfl) ⟨(Nat.le_of_ble_eq_true rfl), (Nat.le_of_ble_eq_true rfl)⟩ dL_most_124 (fun H locs hI _ => ?_)
  refine lv_iload_n C.1.1 C.1.2.1 dL_most_127 rfl (lv_at hl 0 rfl) ?_
  refine fl_bipush C.1 dL_most_128 (by decide) ?_
  refine fl_icmp_ge (tgt := 137) C.1 (rgk 20 rfl) (rgk 60 rfl) dL_most_130 (by decide) (fun h => absurd h (by decide)) (fun _ => ?_)
  refine lv_iload_n C.1.1 C.1.2.1 dL_most_133 rfl (lv_at hl 0 rfl) ?_
  refine fl_goto (tgt := 139) C.1 dL_most_134 (by decide) ?_
  refine fl_icmp_eq (tgt := 144) C.1 (rgk 20 rfl) (rgk 20 rfl) dL_most_139 (by decide) (fun _ => ?_) (fun h => absurd (by decide) h)
  refine fl_iinc (k := 0) (lv' := [(1, iv (wr (20 + 1))), (0, .ref x)]) C.1 dL_most_144 hl rfl (by decide) rfl (fun ls hl => ?_)
  rw [show wr (20 + 1) = (21 : Int) from by decide +kernel] at hl
  refine fl_goto (tgt := 106) C.1 dL_most_147 (by decide) ?_
  refine lv_iload_n C.1.1 C.1.2.1 dL_most_106 rfl (lv_at hl 0 rfl) ?_
  refine fl_bipush C.1 dL_most_107 (by decide) ?_
  refine fl_icmp_ge (tgt := 150) C.1 (rgk 21 rfl) (rgk 61 rfl) dL_most_109 (by decide) (fun h => absurd h (by decide)) (fun _ => ?_)
  refine lv_aload_n C.1.1 C.1.2.1 dL_most_112 rfl (lv_at hl 1 rfl) ?_
  refine fl_bipush C.1 dL_most_113 (by decide) ?_
  refine lv_iload_n C.1.1 C.1.2.1 dL_most_115 rfl (lv_at hl 0 rfl) ?_
  refine fl_bipush C.1 dL_most_116 (by decide) ?_
  refine h_irem (z := 5) C.1 (by decide) (by decide) (by decide) dL_most_118 ?_
  refine lv_iload_n C.1.1 C.1.2.1 dL_most_119 rfl (lv_at hl 0 rfl) ?_
  refine fl_bipush C.1 dL_most_120 (by decide) ?_
  refine h_irem (z := 3) C.1 (by decide) (by decide) (by decide) dL_most_122 ?_
  refine fl_iconst C.1 dL_most_123 ?_
  refine k_act (v := 21) (S' := (gEb fB 22)) hst C ⟨(Nat.le_of_ble_eq_true rfl), (Nat.le_of_ble_eq_true rfl)⟩ hI hl.1 (rgk 8 rfl) (rgk 5 rfl) (rgk 3 rfl) (rgk 0 rfl) (gE_step (k := 21) (by decide)) (Nat.le_of_ble_eq_true rfl) ⟨(Nat.le_of_ble_eq_true rfl), (Nat.le_of_ble_eq_true rfl)⟩ dL_most_124 (fun H locs hI _ => ?_)
  refine lv_iload_n C.1.1 C.1.2.1 dL_most_127 rfl (lv_at hl 0 rfl) ?_
  refine fl_bipush C.1 dL_most_128 (by decide) ?_
  refine fl_icmp_ge (tgt := 137) C.1 (rgk 21 rfl) (rgk 60 rfl) dL_most_130 (by decide) (fun h => absurd h (by decide)) (fun _ => ?_)
  refine lv_iload_n C.1.1 C.1.2.1 dL_most_133 rfl (lv_at hl 0 rfl) ?_
  refine fl_goto (tgt := 139) C.1 dL_most_134 (by decide) ?_
  refine fl_icmp_eq (tgt := 144) C.1 (rgk 21 rfl) (rgk 21 rfl) dL_most_139 (by decide) (fun _ => ?_) (fun h => absurd (by decide) h)
  refine fl_iinc (k := 0) (lv' := [(1, iv (wr (21 + 1))), (0, .ref x)]) C.1 dL_most_144 hl rfl (by decide) rfl (fun ls hl => ?_)
  rw [show wr (21 + 1) = (22 : Int) from by decide +kernel] at hl
  refine fl_goto (tgt := 106) C.1 dL_most_147 (by decide) ?_
  refine lv_iload_n C.1.1 C.1.2.1 dL_most_106 rfl (lv_at hl 0 rfl) ?_
  refine fl_bipush C.1 dL_most_107 (by decide) ?_
  refine fl_icmp_ge (tgt := 150) C.1 (rgk 22 rfl) (rgk 61 rfl) dL_most_109 (by decide) (fun h => absurd h (by decide)) (fun _ => ?_)
  refine lv_aload_n C.1.1 C.1.2.1 dL_most_112 rfl (lv_at hl 1 rfl) ?_
  refine fl_bipush C.1 dL_most_113 (by decide) ?_
  refine lv_iload_n C.1.1 C.1.2.1 dL_most_115 rfl (lv_at hl 0 rfl) ?_
  refine fl_bipush C.1 dL_most_116 (by decide) ?_
  refine h_irem (z := 6) C.1 (by decide) (by decide) (by decide) dL_most_118 ?_
  refine lv_iload_n C.1.1 C.1.2.1 dL_most_119 rfl (lv_at hl 0 rfl) ?_
  refine fl_bipush C.1 dL_most_120 (by decide) ?_
  refine h_irem (z := 4) C.1 (by decide) (by decide) (by decide) dL_most_122 ?_
  refine fl_iconst C.1 dL_most_123 ?_
  refine k_act (v := 22) (S' := (gEb fB 23)) hst C ⟨(Nat.le_of_ble_eq_true rfl), (Nat.le_of_ble_eq_true rfl)⟩ hI hl.1 (rgk 8 rfl) (rgk 6 rfl) (rgk 4 rfl) (rgk 0 rfl) (gE_step (k := 22) (by decide)) (Nat.le_of_ble_eq_true rfl) ⟨(Nat.le_of_ble_eq_true rfl), (Nat.le_of_ble_eq_true rfl)⟩ dL_most_124 (fun H locs hI _ => ?_)
  refine lv_iload_n C.1.1 C.1.2.1 dL_most_127 rfl (lv_at hl 0 rfl) ?_
  refine fl_bipush C.1 dL_most_128 (by decide) ?_
  refine fl_icmp_ge (tgt := 137) C.1 (rgk 22 rfl) (rgk 60 rfl) dL_most_130 (by decide) (fun h => absurd h (by decide)) (fun _ => ?_)
  refine lv_iload_n C.1.1 C.1.2.1 dL_most_133 rfl (lv_at hl 0 rfl) ?_
  refine fl_goto (tgt := 139) C.1 dL_most_134 (by decide) ?_
  refine fl_icmp_eq (tgt := 144) C.1 (rgk 22 rfl) (rgk 22 rfl) dL_most_139 (by decide) (fun _ => ?_) (fun h => absurd (by decide) h)
  refine fl_iinc (k := 0) (lv' := [(1, iv (wr (22 + 1))), (0, .ref x)]) C.1 dL_most_144 hl rfl (by decide) rfl (fun ls hl => ?_)
  rw [show wr (22 + 1) = (23 : Int) from by decide +kernel] at hl
  refine fl_goto (tgt := 106) C.1 dL_most_147 (by decide) ?_
  refine lv_iload_n C.1.1 C.1.2.1 dL_most_106 rfl (lv_at hl 0 rfl) ?_
  refine fl_bipush C.1 dL_most_107 (by decide) ?_
  refine fl_icmp_ge (tgt := 150) C.1 (rgk 23 rfl) (rgk 61 rfl) dL_most_109 (by decide) (fun h => absurd h (by decide)) (fun _ => ?_)
  refine lv_aload_n C.1.1 C.1.2.1 dL_most_112 rfl (lv_at hl 1 rfl) ?_
  refine fl_bipush C.1 dL_most_113 (by decide) ?_
  refine lv_iload_n C.1.1 C.1.2.1 dL_most_115 rfl (lv_at hl 0 rfl) ?_
  refine fl_bipush C.1 dL_most_116 (by decide) ?_
  refine h_irem (z := 7) C.1 (by decide) (by decide) (by decide) dL_most_118 ?_
  refine lv_iload_n C.1.1 C.1.2.1 dL_most_119 rfl (lv_at hl 0 rfl) ?_
  refine fl_bipush C.1 dL_most_120 (by decide) ?_
  refine h_irem (z := 5) C.1 (by decide) (by decide) (by decide) dL_most_122 ?_
  refine fl_iconst C.1 dL_most_123 ?_
  refine k_act (v := 23) (S' := (gEb fB 24)) hst C ⟨(Nat.le_of_ble_eq_true rfl), (Nat.le_of_ble_eq_true rfl)⟩ hI hl.1 (rgk 8 rfl) (rgk 7 rfl) (rgk 5 rfl) (rgk 0 rfl) (gE_step (k := 23) (by decide)) (Nat.le_of_ble_eq_true rfl) ⟨(Nat.le_of_ble_eq_true rfl), (Nat.le_of_ble_eq_true rfl)⟩ dL_most_124 (fun H locs hI _ => ?_)
  refine lv_iload_n C.1.1 C.1.2.1 dL_most_127 rfl (lv_at hl 0 rfl) ?_
  refine fl_bipush C.1 dL_most_128 (by decide) ?_
  refine fl_icmp_ge (tgt := 137) C.1 (rgk 23 rfl) (rgk 60 rfl) dL_most_130 (by decide) (fun h => absurd h (by decide)) (fun _ => ?_)
  refine lv_iload_n C.1.1 C.1.2.1 dL_most_133 rfl (lv_at hl 0 rfl) ?_
  refine fl_goto (tgt := 139) C.1 dL_most_134 (by decide) ?_
  refine fl_icmp_eq (tgt := 144) C.1 (rgk 23 rfl) (rgk 23 rfl) dL_most_139 (by decide) (fun _ => ?_) (fun h => absurd (by decide) h)
  refine fl_iinc (k := 0) (lv' := [(1, iv (wr (23 + 1))), (0, .ref x)]) C.1 dL_most_144 hl rfl (by decide) rfl (fun ls hl => ?_)
  rw [show wr (23 + 1) = (24 : Int) from by decide +kernel] at hl
  refine fl_goto (tgt := 106) C.1 dL_most_147 (by decide) ?_
  refine lv_iload_n C.1.1 C.1.2.1 dL_most_106 rfl (lv_at hl 0 rfl) ?_
  refine fl_bipush C.1 dL_most_107 (by decide) ?_
  refine fl_icmp_ge (tgt := 150) C.1 (rgk 24 rfl) (rgk 61 rfl) dL_most_109 (by decide) (fun h => absurd h (by decide)) (fun _ => ?_)
  refine lv_aload_n C.1.1 C.1.2.1 dL_most_112 rfl (lv_at hl 1 rfl) ?_
  refine fl_bipush C.1 dL_most_113 (by decide) ?_
  refine lv_iload_n C.1.1 C.1.2.1 dL_most_115 rfl (lv_at hl 0 rfl) ?_
  refine fl_bipush C.1 dL_most_116 (by decide) ?_
  refine h_irem (z := 0) C.1 (by decide) (by decide) (by decide) dL_most_118 ?_
  refine lv_iload_n C.1.1 C.1.2.1 dL_most_119 rfl (lv_at hl 0 rfl) ?_
  refine fl_bipush C.1 dL_most_120 (by decide) ?_
  refine h_irem (z := 0) C.1 (by decide) (by decide) (by decide) dL_most_122 ?_
  refine fl_iconst C.1 dL_most_123 ?_
  refine k_act (v := 24) (S' := (gEb fB 25)) hst C ⟨(Nat.le_of_ble_eq_true rfl), (Nat.le_of_ble_eq_true rfl)⟩ hI hl.1 (rgk 8 rfl) (rgk 0 rfl) (rgk 0 rfl) (rgk 0 rfl) (gE_step (k := 24) (by decide)) (Nat.le_of_ble_eq_true rfl) ⟨(Nat.le_of_ble_eq_true rfl), (Nat.le_of_ble_eq_true rfl)⟩ dL_most_124 (fun H locs hI _ => ?_)
  refine lv_iload_n C.1.1 C.1.2.1 dL_most_127 rfl (lv_at hl 0 rfl) ?_
  refine fl_bipush C.1 dL_most_128 (by decide) ?_
  refine fl_icmp_ge (tgt := 137) C.1 (rgk 24 rfl) (rgk 60 rfl) dL_most_130 (by decide) (fun h => absurd h (by decide)) (fun _ => ?_)
  refine lv_iload_n C.1.1 C.1.2.1 dL_most_133 rfl (lv_at hl 0 rfl) ?_
  refine fl_goto (tgt := 139) C.1 dL_most_134 (by decide) ?_
  refine fl_icmp_eq (tgt := 144) C.1 (rgk 24 rfl) (rgk 24 rfl) dL_most_139 (by decide) (fun _ => ?_) (fun h => absurd (by decide) h)
  refine fl_iinc (k := 0) (lv' := [(1, iv (wr (24 + 1))), (0, .ref x)]) C.1 dL_most_144 hl rfl (by decide) rfl (fun ls hl => ?_)
  rw [show wr (24 + 1) = (25 : Int) from by decide +kernel] at hl
  refine fl_goto (tgt := 106) C.1 dL_most_147 (by decide) ?_
  refine lv_iload_n C.1.1 C.1.2.1 dL_most_106 rfl (lv_at hl 0 rfl) ?_
  refine fl_bipush C.1 dL_most_107 (by decide) ?_
  refine fl_icmp_ge (tgt := 150) C.1 (rgk 25 rfl) (rgk 61 rfl) dL_most_109 (by decide) (fun h => absurd h (by decide)) (fun _ => ?_)
  refine lv_aload_n C.1.1 C.1.2.1 dL_most_112 rfl (lv_at hl 1 rfl) ?_
  refine fl_bipush C.1 dL_most_113 (by decide) ?_
  refine lv_iload_n C.1.1 C.1.2.1 dL_most_115 rfl (lv_at hl 0 rfl) ?_
  refine fl_bipush C.1 dL_most_116 (by decide) ?_
  refine h_irem (z := 1) C.1 (by decide) (by decide) (by decide) dL_most_118 ?_
  refine lv_iload_n C.1.1 C.1.2.1 dL_most_119 rfl (lv_at hl 0 rfl) ?_
  refine fl_bipush C.1 dL_most_120 (by decide) ?_
  refine h_irem (z := 1) C.1 (by decide) (by decide) (by decide) dL_most_122 ?_
  refine fl_iconst C.1 dL_most_123 ?_
  refine k_act (v := 25) (S' := (gEb fB 26)) hst C ⟨(Nat.le_of_ble_eq_true rfl), (Nat.le_of_ble_eq_true rfl)⟩ hI hl.1 (rgk 8 rfl) (rgk 1 rfl) (rgk 1 rfl) (rgk 0 rfl) (gE_step (k := 25) (by decide)) (Nat.le_of_ble_eq_true rfl) ⟨(Nat.le_of_ble_eq_true rfl), (Nat.le_of_ble_eq_true rfl)⟩ dL_most_124 (fun H locs hI _ => ?_)
  refine lv_iload_n C.1.1 C.1.2.1 dL_most_127 rfl (lv_at hl 0 rfl) ?_
  refine fl_bipush C.1 dL_most_128 (by decide) ?_
  refine fl_icmp_ge (tgt := 137) C.1 (rgk 25 rfl) (rgk 60 rfl) dL_most_130 (by decide) (fun h => absurd h (by decide)) (fun _ => ?_)
  refine lv_iload_n C.1.1 C.1.2.1 dL_most_133 rfl (lv_at hl 0 rfl) ?_
  refine fl_goto (tgt := 139) C.1 dL_most_134 (by decide) ?_
  refine fl_icmp_eq (tgt := 144) C.1 (rgk 25 rfl) (rgk 25 rfl) dL_most_139 (by decide) (fun _ => ?_) (fun h => absurd (by decide) h)
  refine fl_iinc (k := 0) (lv' := [(1, iv (wr (25 + 1))), (0, .ref x)]) C.1 dL_most_144 hl rfl (by decide) rfl (fun ls hl => ?_)
  rw [show wr (25 + 1) = (26 : Int) from by decide +kernel] at hl
  refine fl_goto (tgt := 106) C.1 dL_most_147 (by decide) ?_
  refine lv_iload_n C.1.1 C.1.2.1 dL_most_106 rfl (lv_at hl 0 rfl) ?_
  refine fl_bipush C.1 dL_most_107 (by decide) ?_
  refine fl_icmp_ge (tgt := 150) C.1 (rgk 26 rfl) (rgk 61 rfl) dL_most_109 (by decide) (fun h => absurd h (by decide)) (fun _ => ?_)
  refine lv_aload_n C.1.1 C.1.2.1 dL_most_112 rfl (lv_at hl 1 rfl) ?_
  refine fl_bipush C.1 dL_most_113 (by decide) ?_
  refine lv_iload_n C.1.1 C.1.2.1 dL_most_115 rfl (lv_at hl 0 rfl) ?_
  refine fl_bipush C.1 dL_most_116 (by decide) ?_
  refine h_irem (z := 2) C.1 (by decide) (by decide) (by decide) dL_most_118 ?_
  refine lv_iload_n C.1.1 C.1.2.1 dL_most_119 rfl (lv_at hl 0 rfl) ?_
  refine fl_bipush C.1 dL_most_120 (by decide) ?_
  refine h_irem (z := 2) C.1 (by decide) (by decide) (by decide) dL_most_122 ?_
  refine fl_iconst C.1 dL_most_123 ?_
  refine k_act (v := 26) (S' := (gEb fB 27)) hst C ⟨(Nat.le_of_ble_eq_true rfl), (Nat.le_of_ble_eq_true rfl)⟩ hI hl.1 (rgk 8 rfl) (rgk 2 rfl) (rgk 2 rfl) (rgk 0 rfl) (gE_step (k := 26) (by decide)) (Nat.le_of_ble_eq_true rfl) ⟨(Nat.le_of_ble_eq_true rfl), (Nat.le_of_ble_eq_true rfl)⟩ dL_most_124 (fun H locs hI _ => ?_)
  refine lv_iload_n C.1.1 C.1.2.1 dL_most_127 rfl (lv_at hl 0 rfl) ?_
  refine fl_bipush C.1 dL_most_128 (by decide) ?_
  refine fl_icmp_ge (tgt := 137) C.1 (rgk 26 rfl) (rgk 60 rfl) dL_most_130 (by decide) (fun h => absurd h (by decide)) (fun _ => ?_)
  refine lv_iload_n C.1.1 C.1.2.1 dL_most_133 rfl (lv_at hl 0 rfl) ?_
  refine fl_goto (tgt := 139) C.1 dL_most_134 (by decide) ?_
  refine fl_icmp_eq (tgt := 144) C.1 (rgk 26 rfl) (rgk 26 rfl) dL_most_139 (by decide) (fun _ => ?_) (fun h => absurd (by decide) h)
  refine fl_iinc (k := 0) (lv' := [(1, iv (wr (26 + 1))), (0, .ref x)]) C.1 dL_most_144 hl rfl (by decide) rfl (fun ls hl => ?_)
  rw [show wr (26 + 1) = (27 : Int) from by decide +kernel] at hl
  refine fl_goto (tgt := 106) C.1 dL_most_147 (by decide) ?_
  refine lv_iload_n C.1.1 C.1.2.1 dL_most_106 rfl (lv_at hl 0 rfl) ?_
  refine fl_bipush C.1 dL_most_107 (by decide) ?_
  refine fl_icmp_ge (tgt := 150) C.1 (rgk 27 rfl) (rgk 61 rfl) dL_most_109 (by decide) (fun h => absurd h (by decide)) (fun _ => ?_)
  refine lv_aload_n C.1.1 C.1.2.1 dL_most_112 rfl (lv_at hl 1 rfl) ?_
  refine fl_bipush C.1 dL_most_113 (by decide) ?_
  refine lv_iload_n C.1.1 C.1.2.1 dL_most_115 rfl (lv_at hl 0 rfl) ?_
  refine fl_bipush C.1 dL_most_116 (by decide) ?_
  refine h_irem (z := 3) C.1 (by decide) (by decide) (by decide) dL_most_118 ?_
  refine lv_iload_n C.1.1 C.1.2.1 dL_most_119 rfl (lv_at hl 0 rfl) ?_
  refine fl_bipush C.1 dL_most_120 (by decide) ?_
  refine h_irem (z := 3) C.1 (by decide) (by decide) (by decide) dL_most_122 ?_
  refine fl_iconst C.1 dL_most_123 ?_
  refine k_act (v := 27) (S' := (gEb fB 28)) hst C ⟨(Nat.le_of_ble_eq_true rfl), (Nat.le_of_ble_eq_true rfl)⟩ hI hl.1 (rgk 8 rfl) (rgk 3 rfl) (rgk 3 rfl) (rgk 0 rfl) (gE_step (k := 27) (by decide)) (Nat.le_of_ble_eq_true rfl) ⟨(Nat.le_of_ble_eq_true rfl), (Nat.le_of_ble_eq_true rfl)⟩ dL_most_124 (fun H locs hI _ => ?_)
  refine lv_iload_n C.1.1 C.1.2.1 dL_most_127 rfl (lv_at hl 0 rfl) ?_
  refine fl_bipush C.1 dL_most_128 (by decide) ?_
  refine fl_icmp_ge (tgt := 137) C.1 (rgk 27 rfl) (rgk 60 rfl) dL_most_130 (by decide) (fun h => absurd h (by decide)) (fun _ => ?_)
  refine lv_iload_n C.1.1 C.1.2.1 dL_most_133 rfl (lv_at hl 0 rfl) ?_
  refine fl_goto (tgt := 139) C.1 dL_most_134 (by decide) ?_
  refine fl_icmp_eq (tgt := 144) C.1 (rgk 27 rfl) (rgk 27 rfl) dL_most_139 (by decide) (fun _ => ?_) (fun h => absurd (by decide) h)
  refine fl_iinc (k := 0) (lv' := [(1, iv (wr (27 + 1))), (0, .ref x)]) C.1 dL_most_144 hl rfl (by decide) rfl (fun ls hl => ?_)
  rw [show wr (27 + 1) = (28 : Int) from by decide +kernel] at hl
  refine fl_goto (tgt := 106) C.1 dL_most_147 (by decide) ?_
  refine lv_iload_n C.1.1 C.1.2.1 dL_most_106 rfl (lv_at hl 0 rfl) ?_
  refine fl_bipush C.1 dL_most_107 (by decide) ?_
  refine fl_icmp_ge (tgt := 150) C.1 (rgk 28 rfl) (rgk 61 rfl) dL_most_109 (by decide) (fun h => absurd h (by decide)) (fun _ => ?_)
  refine lv_aload_n C.1.1 C.1.2.1 dL_most_112 rfl (lv_at hl 1 rfl) ?_
  refine fl_bipush C.1 dL_most_113 (by decide) ?_
  refine lv_iload_n C.1.1 C.1.2.1 dL_most_115 rfl (lv_at hl 0 rfl) ?_
  refine fl_bipush C.1 dL_most_116 (by decide) ?_
  refine h_irem (z := 4) C.1 (by decide) (by decide) (by decide) dL_most_118 ?_
  refine lv_iload_n C.1.1 C.1.2.1 dL_most_119 rfl (lv_at hl 0 rfl) ?_
  refine fl_bipush C.1 dL_most_120 (by decide) ?_
  refine h_irem (z := 4) C.1 (by decide) (by decide) (by decide) dL_most_122 ?_
  refine fl_iconst C.1 dL_most_123 ?_
  refine k_act (v := 28) (S' := (gEb fB 29)) hst C ⟨(Nat.le_of_ble_eq_true rfl), (Nat.le_of_ble_eq_true rfl)⟩ hI hl.1 (rgk 8 rfl) (rgk 4 rfl) (rgk 4 rfl) (rgk 0 rfl) (gE_step (k := 28) (by decide)) (Nat.le_of_ble_eq_true rfl) ⟨(Nat.le_of_ble_eq_true rfl), (Nat.le_of_ble_eq_true rfl)⟩ dL_most_124 (fun H locs hI _ => ?_)
  refine lv_iload_n C.1.1 C.1.2.1 dL_most_127 rfl (lv_at hl 0 rfl) ?_
  refine fl_bipush C.1 dL_most_128 (by decide) ?_
  refine fl_icmp_ge (tgt := 137) C.1 (rgk 28 rfl) (rgk 60 rfl) dL_most_130 (by decide) (fun h => absurd h (by decide)) (fun _ => ?_)
  refine lv_iload_n C.1.1 C.1.2.1 dL_most_133 rfl (lv_at hl 0 rfl) ?_
  refine fl_goto (tgt := 139) C.1 dL_most_134 (by decide) ?_
  refine fl_icmp_eq (tgt := 144) C.1 (rgk 28 rfl) (rgk 28 rfl) dL_most_139 (by decide) (fun _ => ?_) (fun h => absurd (by decide) h)
  refine fl_iinc (k := 0) (lv' := [(1, iv (wr (28 + 1))), (0, .ref x)]) C.1 dL_most_144 hl rfl (by decide) rfl (fun ls hl => ?_)
  rw [show wr (28 + 1) = (29 : Int) from by decide +kernel] at hl
  refine fl_goto (tgt := 106) C.1 dL_most_147 (by decide) ?_
  refine lv_iload_n C.1.1 C.1.2.1 dL_most_106 rfl (lv_at hl 0 rfl) ?_
  refine fl_bipush C.1 dL_most_107 (by decide) ?_
  refine fl_icmp_ge (tgt := 150) C.1 (rgk 29 rfl) (rgk 61 rfl) dL_most_109 (by decide) (fun h => absurd h (by decide)) (fun _ => ?_)
  refine lv_aload_n C.1.1 C.1.2.1 dL_most_112 rfl (lv_at hl 1 rfl) ?_
  refine fl_bipush C.1 dL_most_113 (by decide) ?_
  refine lv_iload_n C.1.1 C.1.2.1 dL_most_115 rfl (lv_at hl 0 rfl) ?_
  refine fl_bipush C.1 dL_most_116 (by decide) ?_
  refine h_irem (z := 5) C.1 (by decide) (by decide) (by decide) dL_most_118 ?_
  refine lv_iload_n C.1.1 C.1.2.1 dL_most_119 rfl (lv_at hl 0 rfl) ?_
  refine fl_bipush C.1 dL_most_120 (by decide) ?_
  refine h_irem (z := 5) C.1 (by decide) (by decide) (by decide) dL_most_122 ?_
  refine fl_iconst C.1 dL_most_123 ?_
  refine k_act (v := 29) (S' := (gEb fB 30)) hst C ⟨(Nat.le_of_ble_eq_true rfl), (Nat.le_of_ble_eq_true rfl)⟩ hI hl.1 (rgk 8 rfl) (rgk 5 rfl) (rgk 5 rfl) (rgk 0 rfl) (gE_step (k := 29) (by decide)) (Nat.le_of_ble_eq_true rfl) ⟨(Nat.le_of_ble_eq_true rfl), (Nat.le_of_ble_eq_true rfl)⟩ dL_most_124 (fun H locs hI _ => ?_)
  refine lv_iload_n C.1.1 C.1.2.1 dL_most_127 rfl (lv_at hl 0 rfl) ?_
  refine fl_bipush C.1 dL_most_128 (by decide) ?_
  refine fl_icmp_ge (tgt := 137) C.1 (rgk 29 rfl) (rgk 60 rfl) dL_most_130 (by decide) (fun h => absurd h (by decide)) (fun _ => ?_)
  refine lv_iload_n C.1.1 C.1.2.1 dL_most_133 rfl (lv_at hl 0 rfl) ?_
  refine fl_goto (tgt := 139) C.1 dL_most_134 (by decide) ?_
  refine fl_icmp_eq (tgt := 144) C.1 (rgk 29 rfl) (rgk 29 rfl) dL_most_139 (by decide) (fun _ => ?_) (fun h => absurd (by decide) h)
  refine fl_iinc (k := 0) (lv' := [(1, iv (wr (29 + 1))), (0, .ref x)]) C.1 dL_most_144 hl rfl (by decide) rfl (fun ls hl => ?_)
  rw [show wr (29 + 1) = (30 : Int) from by decide +kernel] at hl
  refine fl_goto (tgt := 106) C.1 dL_most_147 (by decide) ?_
  refine lv_iload_n C.1.1 C.1.2.1 dL_most_106 rfl (lv_at hl 0 rfl) ?_
  refine fl_bipush C.1 dL_most_107 (by decide) ?_
  refine fl_icmp_ge (tgt := 150) C.1 (rgk 30 rfl) (rgk 61 rfl) dL_most_109 (by decide) (fun h => absurd h (by decide)) (fun _ => ?_)
  refine lv_aload_n C.1.1 C.1.2.1 dL_most_112 rfl (lv_at hl 1 rfl) ?_
  refine fl_bipush C.1 dL_most_113 (by decide) ?_
  refine lv_iload_n C.1.1 C.1.2.1 dL_most_115 rfl (lv_at hl 0 rfl) ?_
  refine fl_bipush C.1 dL_most_116 (by decide) ?_
  refine h_irem (z := 6) C.1 (by decide) (by decide) (by decide) dL_most_118 ?_
  refine lv_iload_n C.1.1 C.1.2.1 dL_most_119 rfl (lv_at hl 0 rfl) ?_
  refine fl_bipush C.1 dL_most_120 (by decide) ?_
  refine h_irem (z := 0) C.1 (by decide) (by decide) (by decide) dL_most_122 ?_
  refine fl_iconst C.1 dL_most_123 ?_
  refine k_act (v := 30) (S' := (gEb fB 31)) hst C ⟨(Nat.le_of_ble_eq_true rfl), (Nat.le_of_ble_eq_true rfl)⟩ hI hl.1 (rgk 8 rfl) (rgk 6 rfl) (rgk 0 rfl) (rgk 0 rfl) (gE_step (k := 30) (by decide)) (Nat.le_of_ble_eq_true rfl) ⟨(Nat.le_of_ble_eq_true rfl), (Nat.le_of_ble_eq_true rfl)⟩ dL_most_124 (fun H locs hI _ => ?_)
  refine lv_iload_n C.1.1 C.1.2.1 dL_most_127 rfl (lv_at hl 0 rfl) ?_
  refine fl_bipush C.1 dL_most_128 (by decide) ?_
  refine fl_icmp_ge (tgt := 137) C.1 (rgk 30 rfl) (rgk 60 rfl) dL_most_130 (by decide) (fun h => absurd h (by decide)) (fun _ => ?_)
  refine lv_iload_n C.1.1 C.1.2.1 dL_most_133 rfl (lv_at hl 0 rfl) ?_
  refine fl_goto (tgt := 139) C.1 dL_most_134 (by decide) ?_
  refine fl_icmp_eq (tgt := 144) C.1 (rgk 30 rfl) (rgk 30 rfl) dL_most_139 (by decide) (fun _ => ?_) (fun h => absurd (by decide) h)
  refine fl_iinc (k := 0) (lv' := [(1, iv (wr (30 + 1))), (0, .ref x)]) C.1 dL_most_144 hl rfl (by decide) rfl (fun ls hl => ?_)
  rw [show wr (30 + 1) = (31 : Int) from by decide +kernel] at hl
  refine fl_goto (tgt := 106) C.1 dL_most_147 (by decide) ?_
  refine lv_iload_n C.1.1 C.1.2.1 dL_most_106 rfl (lv_at hl 0 rfl) ?_
  refine fl_bipush C.1 dL_most_107 (by decide) ?_
  refine fl_icmp_ge (tgt := 150) C.1 (rgk 31 rfl) (rgk 61 rfl) dL_most_109 (by decide) (fun h => absurd h (by decide)) (fun _ => ?_)
  refine lv_aload_n C.1.1 C.1.2.1 dL_most_112 rfl (lv_at hl 1 rfl) ?_
  refine fl_bipush C.1 dL_most_113 (by decide) ?_
  refine lv_iload_n C.1.1 C.1.2.1 dL_most_115 rfl (lv_at hl 0 rfl) ?_
  refine fl_bipush C.1 dL_most_116 (by decide) ?_
  refine h_irem (z := 7) C.1 (by decide) (by decide) (by decide) dL_most_118 ?_
  refine lv_iload_n C.1.1 C.1.2.1 dL_most_119 rfl (lv_at hl 0 rfl) ?_
  refine fl_bipush C.1 dL_most_120 (by decide) ?_
  refine h_irem (z := 1) C.1 (by decide) (by decide) (by decide) dL_most_122 ?_
  refine fl_iconst C.1 dL_most_123 ?_
  refine k_act (v := 31) (S' := (gEb fB 32)) hst C ⟨(Nat.le_of_ble_eq_true rfl), (Nat.le_of_ble_eq_true rfl)⟩ hI hl.1 (rgk 8 rfl) (rgk 7 rfl) (rgk 1 rfl) (rgk 0 rfl) (gE_step (k := 31) (by decide)) (Nat.le_of_ble_eq_true rfl) ⟨(Nat.le_of_ble_eq_true rfl), (Nat.le_of_ble_eq_true rfl)⟩ dL_most_124 (fun H locs hI _ => ?_)
  refine lv_iload_n C.1.1 C.1.2.1 dL_most_127 rfl (lv_at hl 0 rfl) ?_
  refine fl_bipush C.1 dL_most_128 (by decide) ?_
  refine fl_icmp_ge (tgt := 137) C.1 (rgk 31 rfl) (rgk 60 rfl) dL_most_130 (by decide) (fun h => absurd h (by decide)) (fun _ => ?_)
  refine lv_iload_n C.1.1 C.1.2.1 dL_most_133 rfl (lv_at hl 0 rfl) ?_
  refine fl_goto (tgt := 139) C.1 dL_most_134 (by decide) ?_
  refine fl_icmp_eq (tgt := 144) C.1 (rgk 31 rfl) (rgk 31 rfl) dL_most_139 (by decide) (fun _ => ?_) (fun h => absurd (by decide) h)
  refine fl_iinc (k := 0) (lv' := [(1, iv (wr (31 + 1))), (0, .ref x)]) C.1 dL_most_144 hl rfl (by decide) rfl (fun ls hl => ?_)
  rw [show wr (31 + 1) = (32 : Int) from by decide +kernel] at hl
  refine fl_goto (tgt := 106) C.1 dL_most_147 (by decide) ?_
  refine lv_iload_n C.1.1 C.1.2.1 dL_most_106 rfl (lv_at hl 0 rfl) ?_
  refine fl_bipush C.1 dL_most_107 (by decide) ?_
  refine fl_icmp_ge (tgt := 150) C.1 (rgk 32 rfl) (rgk 61 rfl) dL_most_109 (by decide) (fun h => absurd h (by decide)) (fun _ => ?_)
  refine lv_aload_n C.1.1 C.1.2.1 dL_most_112 rfl (lv_at hl 1 rfl) ?_
  refine fl_bipush C.1 dL_most_113 (by decide) ?_
  refine lv_iload_n C.1.1 C.1.2.1 dL_most_115 rfl (lv_at hl 0 rfl) ?_
  refine fl_bipush C.1 dL_most_116 (by decide) ?_
  refine h_irem (z := 0) C.1 (by decide) (by decide) (by decide) dL_most_118 ?_
  refine lv_iload_n C.1.1 C.1.2.1 dL_most_119 rfl (lv_at hl 0 rfl) ?_
  refine fl_bipush C.1 dL_most_120 (by decide) ?_
  refine h_irem (z := 2) C.1 (by decide) (by decide) (by decide) dL_most_122 ?_
  refine fl_iconst C.1 dL_most_123 ?_
  refine k_act (v := 32) (S' := (gEb fB 33)) hst C ⟨(Nat.le_of_ble_eq_true rfl), (Nat.le_of_ble_eq_true rfl)⟩ hI hl.1 (rgk 8 rfl) (rgk 0 rfl) (rgk 2 rfl) (rgk 0 rfl) (gE_step (k := 32) (by decide)) (Nat.le_of_ble_eq_true rfl) ⟨(Nat.le_of_ble_eq_true rfl), (Nat.le_of_ble_eq_true rfl)⟩ dL_most_124 (fun H locs hI _ => ?_)
  refine lv_iload_n C.1.1 C.1.2.1 dL_most_127 rfl (lv_at hl 0 rfl) ?_
  refine fl_bipush C.1 dL_most_128 (by decide) ?_
  refine fl_icmp_ge (tgt := 137) C.1 (rgk 32 rfl) (rgk 60 rfl) dL_most_130 (by decide) (fun h => absurd h (by decide)) (fun _ => ?_)
  refine lv_iload_n C.1.1 C.1.2.1 dL_most_133 rfl (lv_at hl 0 rfl) ?_
  refine fl_goto (tgt := 139) C.1 dL_most_134 (by decide) ?_
  refine fl_icmp_eq (tgt := 144) C.1 (rgk 32 rfl) (rgk 32 rfl) dL_most_139 (by decide) (fun _ => ?_) (fun h => absurd (by decide) h)
  refine fl_iinc (k := 0) (lv' := [(1, iv (wr (32 + 1))), (0, .ref x)]) C.1 dL_most_144 hl rfl (by decide) rfl (fun ls hl => ?_)
  rw [show wr (32 + 1) = (33 : Int) from by decide +kernel] at hl
  refine fl_goto (tgt := 106) C.1 dL_most_147 (by decide) ?_
  refine lv_iload_n C.1.1 C.1.2.1 dL_most_106 rfl (lv_at hl 0 rfl) ?_
  refine fl_bipush C.1 dL_most_107 (by decide) ?_
  refine fl_icmp_ge (tgt := 150) C.1 (rgk 33 rfl) (rgk 61 rfl) dL_most_109 (by decide) (fun h => absurd h (by decide)) (fun _ => ?_)
  refine lv_aload_n C.1.1 C.1.2.1 dL_most_112 rfl (lv_at hl 1 rfl) ?_
  refine fl_bipush C.1 dL_most_113 (by decide) ?_
  refine lv_iload_n C.1.1 C.1.2.1 dL_most_115 rfl (lv_at hl 0 rfl) ?_
  refine fl_bipush C.1 dL_most_116 (by decide) ?_
  refine h_irem (z := 1) C.1 (by decide) (by decide) (by decide) dL_most_118 ?_
  refine lv_iload_n C.1.1 C.1.2.1 dL_most_119 rfl (lv_at hl 0 rfl) ?_
  refine fl_bipush C.1 dL_most_120 (by decide) ?_
  refine h_irem (z := 3) C.1 (by decide) (by decide) (by decide) dL_most_122 ?_
  refine fl_iconst C.1 dL_most_123 ?_
  refine k_act (v := 33) (S' := (gEb fB 34)) hst C ⟨(Nat.le_of_ble_eq_true rfl), (Nat.le_of_ble_eq_true rfl)⟩ hI hl.1 (rgk 8 rfl) (rgk 1 rfl) (rgk 3 rfl) (rgk 0 rfl) (gE_step (k := 33) (by decide)) (Nat.le_of_ble_eq_true rfl) ⟨(Nat.le_of_ble_eq_true rfl), (Nat.le_of_ble_eq_true rfl)⟩ dL_most_124 (fun H locs hI _ => ?_)
  refine lv_iload_n C.1.1 C.1.2.1 dL_most_127 rfl (lv_at hl 0 rfl) ?_
  refine fl_bipush C.1 dL_most_128 (by decide) ?_
  refine fl_icmp_ge (tgt := 137) C.1 (rgk 33 rfl) (rgk 60 rfl) dL_most_130 (by decide) (fun h => absurd h (by decide)) (fun _ => ?_)
  refine lv_iload_n C.1.1 C.1.2.1 dL_most_133 rfl (lv_at hl 0 rfl) ?_
  refine fl_goto (tgt := 139) C.1 dL_most_134 (by decide) ?_
  refine fl_icmp_eq (tgt := 144) C.1 (rgk 33 rfl) (rgk 33 rfl) dL_most_139 (by decide) (fun _ => ?_) (fun h => absurd (by decide) h)
  refine fl_iinc (k := 0) (lv' := [(1, iv (wr (33 + 1))), (0, .ref x)]) C.1 dL_most_144 hl rfl (by decide) rfl (fun ls hl => ?_)
  rw [show wr (33 + 1) = (34 : Int) from by decide +kernel] at hl
  refine fl_goto (tgt := 106) C.1 dL_most_147 (by decide) ?_
  refine lv_iload_n C.1.1 C.1.2.1 dL_most_106 rfl (lv_at hl 0 rfl) ?_
  refine fl_bipush C.1 dL_most_107 (by decide) ?_
  refine fl_icmp_ge (tgt := 150) C.1 (rgk 34 rfl) (rgk 61 rfl) dL_most_109 (by decide) (fun h => absurd h (by decide)) (fun _ => ?_)
  refine lv_aload_n C.1.1 C.1.2.1 dL_most_112 rfl (lv_at hl 1 rfl) ?_
  refine fl_bipush C.1 dL_most_113 (by decide) ?_
  refine lv_iload_n C.1.1 C.1.2.1 dL_most_115 rfl (lv_at hl 0 rfl) ?_
  refine fl_bipush C.1 dL_most_116 (by decide) ?_
  refine h_irem (z := 2) C.1 (by decide) (by decide) (by decide) dL_most_118 ?_
  refine lv_iload_n C.1.1 C.1.2.1 dL_most_119 rfl (lv_at hl 0 rfl) ?_
  refine fl_bipush C.1 dL_most_120 (by decide) ?_
  refine h_irem (z := 4) C.1 (by decide) (by decide) (by decide) dL_most_122 ?_
  refine fl_iconst C.1 dL_most_123 ?_
  refine k_act (v := 34) (S' := (gEb fB 35)) hst C ⟨(Nat.le_of_ble_eq_true rfl), (Nat.le_of_ble_eq_true rfl)⟩ hI hl.1 (rgk 8 rfl) (rgk 2 rfl) (rgk 4 rfl) (rgk 0 rfl) (gE_step (k := 34) (by decide)) (Nat.le_of_ble_eq_true rfl) ⟨(Nat.le_of_ble_eq_true rfl), (Nat.le_of_ble_eq_true rfl)⟩ dL_most_124 (fun H locs hI _ => ?_)
  refine lv_iload_n C.1.1 C.1.2.1 dL_most_127 rfl (lv_at hl 0 rfl) ?_
  refine fl_bipush C.1 dL_most_128 (by decide) ?_
  refine fl_icmp_ge (tgt := 137) C.1 (rgk 34 rfl) (rgk 60 rfl) dL_most_130 (by decide) (fun h => absurd h (by decide)) (fun _ => ?_)
  refine lv_iload_n C.1.1 C.1.2.1 dL_most_133 rfl (lv_at hl 0 rfl) ?_
  refine fl_goto (tgt := 139) C.1 dL_most_134 (by decide) ?_
  refine fl_icmp_eq (tgt := 144) C.1 (rgk 34 rfl) (rgk 34 rfl) dL_most_139 (by decide) (fun _ => ?_) (fun h => absurd (by decide) h)
  refine fl_iinc (k := 0) (lv' := [(1, iv (wr (34 + 1))), (0, .ref x)]) C.1 dL_most_144 hl rfl (by decide) rfl (fun ls hl => ?_)
  rw [show wr (34 + 1) = (35 : Int) from by decide +kernel] at hl
  refine fl_goto (tgt := 106) C.1 dL_most_147 (by decide) ?_
  refine lv_iload_n C.1.1 C.1.2.1 dL_most_106 rfl (lv_at hl 0 rfl) ?_
  refine fl_bipush C.1 dL_most_107 (by decide) ?_
  refine fl_icmp_ge (tgt := 150) C.1 (rgk 35 rfl) (rgk 61 rfl) dL_most_109 (by decide) (fun h => absurd h (by decide)) (fun _ => ?_)
  refine lv_aload_n C.1.1 C.1.2.1 dL_most_112 rfl (lv_at hl 1 rfl) ?_
  refine fl_bipush C.1 dL_most_113 (by decide) ?_
  refine lv_iload_n C.1.1 C.1.2.1 dL_most_115 rfl (lv_at hl 0 rfl) ?_
  refine fl_bipush C.1 dL_most_116 (by decide) ?_
  refine h_irem (z := 3) C.1 (by decide) (by decide) (by decide) dL_most_118 ?_
  refine lv_iload_n C.1.1 C.1.2.1 dL_most_119 rfl (lv_at hl 0 rfl) ?_
  refine fl_bipush C.1 dL_most_120 (by decide) ?_
  refine h_irem (z := 5) C.1 (by decide) (by decide) (by decide) dL_most_122 ?_
  refine fl_iconst C.1 dL_most_123 ?_
  refine k_act (v := 35) (S' := (gEb fB 36)) hst C ⟨(Nat.le_of_ble_eq_true rfl), (Nat.le_of_ble_eq_true rfl)⟩ hI hl.1 (rgk 8 rfl) (rgk 3 rfl) (rgk 5 rfl) (rgk 0 rfl) (gE_step (k := 35) (by decide)) (Nat.le_of_ble_eq_true rfl) ⟨(Nat.le_of_ble_eq_true rfl), (Nat.le_of_ble_eq_true rfl)⟩ dL_most_124 (fun H locs hI _ => ?_)
  refine lv_iload_n C.1.1 C.1.2.1 dL_most_127 rfl (lv_at hl 0 rfl) ?_
  refine fl_bipush C.1 dL_most_128 (by decide) ?_
  refine fl_icmp_ge (tgt := 137) C.1 (rgk 35 rfl) (rgk 60 rfl) dL_most_130 (by decide) (fun h => absurd h (by decide)) (fun _ => ?_)
  refine lv_iload_n C.1.1 C.1.2.1 dL_most_133 rfl (lv_at hl 0 rfl) ?_
  refine fl_goto (tgt := 139) C.1 dL_most_134 (by decide) ?_
  refine fl_icmp_eq (tgt := 144) C.1 (rgk 35 rfl) (rgk 35 rfl) dL_most_139 (by decide) (fun _ => ?_) (fun h => absurd (by decide) h)
  refine fl_iinc (k := 0) (lv' := [(1, iv (wr (35 + 1))), (0, .ref x)]) C.1 dL_most_144 hl rfl (by decide) rfl (fun ls hl => ?_)
  rw [show wr (35 + 1) = (36 : Int) from by decide +kernel] at hl
  refine fl_goto (tgt := 106) C.1 dL_most_147 (by decide) ?_
  refine lv_iload_n C.1.1 C.1.2.1 dL_most_106 rfl (lv_at hl 0 rfl) ?_
  refine fl_bipush C.1 dL_most_107 (by decide) ?_
  refine fl_icmp_ge (tgt := 150) C.1 (rgk 36 rfl) (rgk 61 rfl) dL_most_109 (by decide) (fun h => absurd h (by decide)) (fun _ => ?_)
  refine lv_aload_n C.1.1 C.1.2.1 dL_most_112 rfl (lv_at hl 1 rfl) ?_
  refine fl_bipush C.1 dL_most_113 (by decide) ?_
  refine lv_iload_n C.1.1 C.1.2.1 dL_most_115 rfl (lv_at hl 0 rfl) ?_
  refine fl_bipush C.1 dL_most_116 (by decide) ?_
  refine h_irem (z := 4) C.1 (by decide) (by decide) (by decide) dL_most_118 ?_
  refine lv_iload_n C.1.1 C.1.2.1 dL_most_119 rfl (lv_at hl 0 rfl) ?_
  refine fl_bipush C.1 dL_most_120 (by decide) ?_
  refine h_irem (z := 0) C.1 (by decide) (by decide) (by decide) dL_most_122 ?_
  refine fl_iconst C.1 dL_most_123 ?_
  refine k_act (v := 36) (S' := (gEb fB 37)) hst C ⟨(Nat.le_of_ble_eq_true rfl), (Nat.le_of_ble_eq_true rfl)⟩ hI hl.1 (rgk 8 rfl) (rgk 4 rfl) (rgk 0 rfl) (rgk 0 rfl) (gE_step (k := 36) (by decide)) (Nat.le_of_ble_eq_true rfl) ⟨(Nat.le_of_ble_eq_true rfl), (Nat.le_of_ble_eq_true rfl)⟩ dL_most_124 (fun H locs hI _ => ?_)
  refine lv_iload_n C.1.1 C.1.2.1 dL_most_127 rfl (lv_at hl 0 rfl) ?_
  refine fl_bipush C.1 dL_most_128 (by decide) ?_
  refine fl_icmp_ge (tgt := 137) C.1 (rgk 36 rfl) (rgk 60 rfl) dL_most_130 (by decide) (fun h => absurd h (by decide)) (fun _ => ?_)
  refine lv_iload_n C.1.1 C.1.2.1 dL_most_133 rfl (lv_at hl 0 rfl) ?_
  refine fl_goto (tgt := 139) C.1 dL_most_134 (by decide) ?_
  refine fl_icmp_eq (tgt := 144) C.1 (rgk 36 rfl) (rgk 36 rfl) dL_most_139 (by decide) (fun _ => ?_) (fun h => absurd (by decide) h)
  refine fl_iinc (k := 0) (lv' := [(1, iv (wr (36 + 1))), (0, .ref x)]) C.1 dL_most_144 hl rfl (by decide) rfl (fun ls hl => ?_)
  rw [show wr (36 + 1) = (37 : Int) from by decide +kernel] at hl
  refine fl_goto (tgt := 106) C.1 dL_most_147 (by decide) ?_
  refine lv_iload_n C.1.1 C.1.2.1 dL_most_106 rfl (lv_at hl 0 rfl) ?_
  refine fl_bipush C.1 dL_most_107 (by decide) ?_
  refine fl_icmp_ge (tgt := 150) C.1 (rgk 37 rfl) (rgk 61 rfl) dL_most_109 (by decide) (fun h => absurd h (by decide)) (fun _ => ?_)
  refine lv_aload_n C.1.1 C.1.2.1 dL_most_112 rfl (lv_at hl 1 rfl) ?_
  refine fl_bipush C.1 dL_most_113 (by decide) ?_
  refine lv_iload_n C.1.1 C.1.2.1 dL_most_115 rfl (lv_at hl 0 rfl) ?_
  refine fl_bipush C.1 dL_most_116 (by decide) ?_
  refine h_irem (z := 5) C.1 (by decide) (by decide) (by decide) dL_most_118 ?_
  refine lv_iload_n C.1.1 C.1.2.1 dL_most_119 rfl (lv_at hl 0 rfl) ?_
  refine fl_bipush C.1 dL_most_120 (by decide) ?_
  refine h_irem (z := 1) C.1 (by decide) (by decide) (by decide) dL_most_122 ?_
  refine fl_iconst C.1 dL_most_123 ?_
  refine k_act (v := 37) (S' := (gEb fB 38)) hst C ⟨(Nat.le_of_ble_eq_true rfl), (Nat.le_of_ble_eq_true rfl)⟩ hI hl.1 (rgk 8 rfl) (rgk 5 rfl) (rgk 1 rfl) (rgk 0 rfl) (gE_step (k := 37) (by decide)) (Nat.le_of_ble_eq_true rfl) ⟨(Nat.le_of_ble_eq_true rfl), (Nat.le_of_ble_eq_true rfl)⟩ dL_most_124 (fun H locs hI _ => ?_)
  refine lv_iload_n C.1.1 C.1.2.1 dL_most_127 rfl (lv_at hl 0 rfl) ?_
  refine fl_bipush C.1 dL_most_128 (by decide) ?_
  refine fl_icmp_ge (tgt := 137) C.1 (rgk 37 rfl) (rgk 60 rfl) dL_most_130 (by decide) (fun h => absurd h (by decide)) (fun _ => ?_)
  refine lv_iload_n C.1.1 C.1.2.1 dL_most_133 rfl (lv_at hl 0 rfl) ?_
  refine fl_goto (tgt := 139) C.1 dL_most_134 (by decide) ?_
  refine fl_icmp_eq (tgt := 144) C.1 (rgk 37 rfl) (rgk 37 rfl) dL_most_139 (by decide) (fun _ => ?_) (fun h => absurd (by decide) h)
  refine fl_iinc (k := 0) (lv' := [(1, iv (wr (37 + 1))), (0, .ref x)]) C.1 dL_most_144 hl rfl (by decide) rfl (fun ls hl => ?_)
  rw [show wr (37 + 1) = (38 : Int) from by decide +kernel] at hl
  refine fl_goto (tgt := 106) C.1 dL_most_147 (by decide) ?_
  refine lv_iload_n C.1.1 C.1.2.1 dL_most_106 rfl (lv_at hl 0 rfl) ?_
  refine fl_bipush C.1 dL_most_107 (by decide) ?_
  refine fl_icmp_ge (tgt := 150) C.1 (rgk 38 rfl) (rgk 61 rfl) dL_most_109 (by decide) (fun h => absurd h (by decide)) (fun _ => ?_)
  refine lv_aload_n C.1.1 C.1.2.1 dL_most_112 rfl (lv_at hl 1 rfl) ?_
  refine fl_bipush C.1 dL_most_113 (by decide) ?_
  refine lv_iload_n C.1.1 C.1.2.1 dL_most_115 rfl (lv_at hl 0 rfl) ?_
  refine fl_bipush C.1 dL_most_116 (by decide) ?_
  refine h_irem (z := 6) C.1 (by decide) (by decide) (by decide) dL_most_118 ?_
  refine lv_iload_n C.1.1 C.1.2.1 dL_most_119 rfl (lv_at hl 0 rfl) ?_
  refine fl_bipush C.1 dL_most_120 (by decide) ?_
  refine h_irem (z := 2) C.1 (by decide) (by decide) (by decide) dL_most_122 ?_
  refine fl_iconst C.1 dL_most_123 ?_
  refine k_act (v := 38) (S' := (gEb fB 39)) hst C ⟨(Nat.le_of_ble_eq_true rfl), (Nat.le_of_ble_eq_true rfl)⟩ hI hl.1 (rgk 8 rfl) (rgk 6 rfl) (rgk 2 rfl) (rgk 0 rfl) (gE_step (k := 38) (by decide)) (Nat.le_of_ble_eq_true rfl) ⟨(Nat.le_of_ble_eq_true rfl), (Nat.le_of_ble_eq_true rfl)⟩ dL_most_124 (fun H locs hI _ => ?_)
  refine lv_iload_n C.1.1 C.1.2.1 dL_most_127 rfl (lv_at hl 0 rfl) ?_
  refine fl_bipush C.1 dL_most_128 (by decide) ?_
  refine fl_icmp_ge (tgt := 137) C.1 (rgk 38 rfl) (rgk 60 rfl) dL_most_130 (by decide) (fun h => absurd h (by decide)) (fun _ => ?_)
  refine lv_iload_n C.1.1 C.1.2.1 dL_most_133 rfl (lv_at hl 0 rfl) ?_
  refine fl_goto (tgt := 139) C.1 dL_most_134 (by decide) ?_
  refine fl_icmp_eq (tgt := 144) C.1 (rgk 38 rfl) (rgk 38 rfl) dL_most_139 (by decide) (fun _ => ?_) (fun h => absurd (by decide) h)
  exact W.widen (Nat.le_of_ble_eq_true rfl) (Nat.le_of_ble_eq_true rfl) (kk H locs ls hI hl)
set_option maxRecDepth 100000 in
set_option maxHeartbeats 4000000 in
theorem w_most_3 (hst : l.stackTraces = false) (C : LC p s m meth c D cy B cL_most 2) (kk : ∀ (H : Heap) (locs : List Loc) (ls : Array Slot), HI D cy B s.heap H locs x (gJb fB 2) → lv_has ls 2 [(1, iv 1), (0, .ref x)] → W p l e rm_L_most s m args below meth c H locs 778 167391 Q (F0 m 168 ls [])) : ∀ (H : Heap) (locs : List Loc) (ls : Array Slot), HI D cy B s.heap H locs x (gEb fB 39) → lv_has ls 2 [(1, iv 38), (0, .ref x)] → W p l e rm_L_most s m args below meth c H locs 580 122049 Q (F0 m 144 ls []) := by
  intro H locs ls hI hl
  refine fl_iinc (k := 0) (lv' := [(1, iv (wr (38 + 1))), (0, .ref x)]) C.1 dL_most_144 hl rfl (by decide) rfl (fun ls hl => ?_)
  rw [show wr (38 + 1) = (39 : Int) from by decide +kernel] at hl
  refine fl_goto (tgt := 106) C.1 dL_most_147 (by decide) ?_
  refine lv_iload_n C.1.1 C.1.2.1 dL_most_106 rfl (lv_at hl 0 rfl) ?_
  refine fl_bipush C.1 dL_most_107 (by decide) ?_
  refine fl_icmp_ge (tgt := 150) C.1 (rgk 39 rfl) (rgk 61 rfl) dL_most_109 (by decide) (fun h => absurd h (by decide)) (fun _ => ?_)
  refine lv_aload_n C.1.1 C.1.2.1 dL_most_112 rfl (lv_at hl 1 rfl) ?_
  refine fl_bipush C.1 dL_most_113 (by decide) ?_
  refine lv_iload_n C.1.1 C.1.2.1 dL_most_115 rfl (lv_at hl 0 rfl) ?_
  refine fl_bipush C.1 dL_most_116 (by decide) ?_
  refine h_irem (z := 7) C.1 (by decide) (by decide) (by decide) dL_most_118 ?_
  refine lv_iload_n C.1.1 C.1.2.1 dL_most_119 rfl (lv_at hl 0 rfl) ?_
  refine fl_bipush C.1 dL_most_120 (by decide) ?_
  refine h_irem (z := 3) C.1 (by decide) (by decide) (by decide) dL_most_122 ?_
  refine fl_iconst C.1 dL_most_123 ?_
  refine k_act (v := 39) (S' := (gEb fB 40)) hst C ⟨(Nat.le_of_ble_eq_true rfl), (Nat.le_of_ble_eq_true rfl)⟩ hI hl.1 (rgk 8 rfl) (rgk 7 rfl) (rgk 3 rfl) (rgk 0 rfl) (gE_step (k := 39) (by decide)) (Nat.le_of_ble_eq_true rfl) ⟨(Nat.le_of_ble_eq_true rfl), (Nat.le_of_ble_eq_true rfl)⟩ dL_most_124 (fun H locs hI _ => ?_)
  refine lv_iload_n C.1.1 C.1.2.1 dL_most_127 rfl (lv_at hl 0 rfl) ?_
  refine fl_bipush C.1 dL_most_128 (by decide) ?_
  refine fl_icmp_ge (tgt := 137) C.1 (rgk 39 rfl) (rgk 60 rfl) dL_most_130 (by decide) (fun h => absurd h (by decide)) (fun _ => ?_)
  refine lv_iload_n C.1.1 C.1.2.1 dL_most_133 rfl (lv_at hl 0 rfl) ?_
  refine fl_goto (tgt := 139) C.1 dL_most_134 (by decide) ?_
  refine fl_icmp_eq (tgt := 144) C.1 (rgk 39 rfl) (rgk 39 rfl) dL_most_139 (by decide) (fun _ => ?_) (fun h => absurd (by decide) h)
  refine fl_iinc (k := 0) (lv' := [(1, iv (wr (39 + 1))), (0, .ref x)]) C.1 dL_most_144 hl rfl (by decide) rfl (fun ls hl => ?_)
  rw [show wr (39 + 1) = (40 : Int) from by decide +kernel] at hl
  refine fl_goto (tgt := 106) C.1 dL_most_147 (by decide) ?_
  refine lv_iload_n C.1.1 C.1.2.1 dL_most_106 rfl (lv_at hl 0 rfl) ?_
  refine fl_bipush C.1 dL_most_107 (by decide) ?_
  refine fl_icmp_ge (tgt := 150) C.1 (rgk 40 rfl) (rgk 61 rfl) dL_most_109 (by decide) (fun h => absurd h (by decide)) (fun _ => ?_)
  refine lv_aload_n C.1.1 C.1.2.1 dL_most_112 rfl (lv_at hl 1 rfl) ?_
  refine fl_bipush C.1 dL_most_113 (by decide) ?_
  refine lv_iload_n C.1.1 C.1.2.1 dL_most_115 rfl (lv_at hl 0 rfl) ?_
  refine fl_bipush C.1 dL_most_116 (by decide) ?_
  refine h_irem (z := 0) C.1 (by decide) (by decide) (by decide) dL_most_118 ?_
  refine lv_iload_n C.1.1 C.1.2.1 dL_most_119 rfl (lv_at hl 0 rfl) ?_
  refine fl_bipush C.1 dL_most_120 (by decide) ?_
  refine h_irem (z := 4) C.1 (by decide) (by decide) (by decide) dL_most_122 ?_
  refine fl_iconst C.1 dL_most_123 ?_
  refine k_act (v := 40) (S' := (gEb fB 41)) hst C ⟨(Nat.le_of_ble_eq_true rfl), (Nat.le_of_ble_eq_true rfl)⟩ hI hl.1 (rgk 8 rfl) (rgk 0 rfl) (rgk 4 rfl) (rgk 0 rfl) (gE_step (k := 40) (by decide)) (Nat.le_of_ble_eq_true rfl) ⟨(Nat.le_of_ble_eq_true rfl), (Nat.le_of_ble_eq_true rfl)⟩ dL_most_124 (fun H locs hI _ => ?_)
  refine lv_iload_n C.1.1 C.1.2.1 dL_most_127 rfl (lv_at hl 0 rfl) ?_
  refine fl_bipush C.1 dL_most_128 (by decide) ?_
  refine fl_icmp_ge (tgt := 137) C.1 (rgk 40 rfl) (rgk 60 rfl) dL_most_130 (by decide) (fun h => absurd h (by decide)) (fun _ => ?_)
  refine lv_iload_n C.1.1 C.1.2.1 dL_most_133 rfl (lv_at hl 0 rfl) ?_
  refine fl_goto (tgt := 139) C.1 dL_most_134 (by decide) ?_
  refine fl_icmp_eq (tgt := 144) C.1 (rgk 40 rfl) (rgk 40 rfl) dL_most_139 (by decide) (fun _ => ?_) (fun h => absurd (by decide) h)
  refine fl_iinc (k := 0) (lv' := [(1, iv (wr (40 + 1))), (0, .ref x)]) C.1 dL_most_144 hl rfl (by decide) rfl (fun ls hl => ?_)
  rw [show wr (40 + 1) = (41 : Int) from by decide +kernel] at hl
  refine fl_goto (tgt := 106) C.1 dL_most_147 (by decide) ?_
  refine lv_iload_n C.1.1 C.1.2.1 dL_most_106 rfl (lv_at hl 0 rfl) ?_
  refine fl_bipush C.1 dL_most_107 (by decide) ?_
  refine fl_icmp_ge (tgt := 150) C.1 (rgk 41 rfl) (rgk 61 rfl) dL_most_109 (by decide) (fun h => absurd h (by decide)) (fun _ => ?_)
  refine lv_aload_n C.1.1 C.1.2.1 dL_most_112 rfl (lv_at hl 1 rfl) ?_
  refine fl_bipush C.1 dL_most_113 (by decide) ?_
  refine lv_iload_n C.1.1 C.1.2.1 dL_most_115 rfl (lv_at hl 0 rfl) ?_
  refine fl_bipush C.1 dL_most_116 (by decide) ?_
  refine h_irem (z := 1) C.1 (by decide) (by decide) (by decide) dL_most_118 ?_
  refine lv_iload_n C.1.1 C.1.2.1 dL_most_119 rfl (lv_at hl 0 rfl) ?_
  refine fl_bipush C.1 dL_most_120 (by decide) ?_
  refine h_irem (z := 5) C.1 (by decide) (by decide) (by decide) dL_most_122 ?_
  refine fl_iconst C.1 dL_most_123 ?_
  refine k_act (v := 41) (S' := (gEb fB 42)) hst C ⟨(Nat.le_of_ble_eq_true rfl), (Nat.le_of_ble_eq_true rfl)⟩ hI hl.1 (rgk 8 rfl) (rgk 1 rfl) (rgk 5 rfl) (rgk 0 rfl) (gE_step (k := 41) (by decide)) (Nat.le_of_ble_eq_true rfl) ⟨(Nat.le_of_ble_eq_true rfl), (Nat.le_of_ble_eq_true rfl)⟩ dL_most_124 (fun H locs hI _ => ?_)
  refine lv_iload_n C.1.1 C.1.2.1 dL_most_127 rfl (lv_at hl 0 rfl) ?_
  refine fl_bipush C.1 dL_most_128 (by decide) ?_
  refine fl_icmp_ge (tgt := 137) C.1 (rgk 41 rfl) (rgk 60 rfl) dL_most_130 (by decide) (fun h => absurd h (by decide)) (fun _ => ?_)
  refine lv_iload_n C.1.1 C.1.2.1 dL_most_133 rfl (lv_at hl 0 rfl) ?_
  refine fl_goto (tgt := 139) C.1 dL_most_134 (by decide) ?_
  refine fl_icmp_eq (tgt := 144) C.1 (rgk 41 rfl) (rgk 41 rfl) dL_most_139 (by decide) (fun _ => ?_) (fun h => absurd (by decide) h)
  refine fl_iinc (k := 0) (lv' := [(1, iv (wr (41 + 1))), (0, .ref x)]) C.1 dL_most_144 hl rfl (by decide) rfl (fun ls hl => ?_)
  rw [show wr (41 + 1) = (42 : Int) from by decide +kernel] at hl
  refine fl_goto (tgt := 106) C.1 dL_most_147 (by decide) ?_
  refine lv_iload_n C.1.1 C.1.2.1 dL_most_106 rfl (lv_at hl 0 rfl) ?_
  refine fl_bipush C.1 dL_most_107 (by decide) ?_
  refine fl_icmp_ge (tgt := 150) C.1 (rgk 42 rfl) (rgk 61 rfl) dL_most_109 (by decide) (fun h => absurd h (by decide)) (fun _ => ?_)
  refine lv_aload_n C.1.1 C.1.2.1 dL_most_112 rfl (lv_at hl 1 rfl) ?_
  refine fl_bipush C.1 dL_most_113 (by decide) ?_
  refine lv_iload_n C.1.1 C.1.2.1 dL_most_115 rfl (lv_at hl 0 rfl) ?_
  refine fl_bipush C.1 dL_most_116 (by decide) ?_
  refine h_irem (z := 2) C.1 (by decide) (by decide) (by decide) dL_most_118 ?_
  refine lv_iload_n C.1.1 C.1.2.1 dL_most_119 rfl (lv_at hl 0 rfl) ?_
  refine fl_bipush C.1 dL_most_120 (by decide) ?_
  refine h_irem (z := 0) C.1 (by decide) (by decide) (by decide) dL_most_122 ?_
  refine fl_iconst C.1 dL_most_123 ?_
  refine k_act (v := 42) (S' := (gEb fB 43)) hst C ⟨(Nat.le_of_ble_eq_true rfl), (Nat.le_of_ble_eq_true rfl)⟩ hI hl.1 (rgk 8 rfl) (rgk 2 rfl) (rgk 0 rfl) (rgk 0 rfl) (gE_step (k := 42) (by decide)) (Nat.le_of_ble_eq_true rfl) ⟨(Nat.le_of_ble_eq_true rfl), (Nat.le_of_ble_eq_true rfl)⟩ dL_most_124 (fun H locs hI _ => ?_)
  refine lv_iload_n C.1.1 C.1.2.1 dL_most_127 rfl (lv_at hl 0 rfl) ?_
  refine fl_bipush C.1 dL_most_128 (by decide) ?_
  refine fl_icmp_ge (tgt := 137) C.1 (rgk 42 rfl) (rgk 60 rfl) dL_most_130 (by decide) (fun h => absurd h (by decide)) (fun _ => ?_)
  refine lv_iload_n C.1.1 C.1.2.1 dL_most_133 rfl (lv_at hl 0 rfl) ?_
  refine fl_goto (tgt := 139) C.1 dL_most_134 (by decide) ?_
  refine fl_icmp_eq (tgt := 144) C.1 (rgk 42 rfl) (rgk 42 rfl) dL_most_139 (by decide) (fun _ => ?_) (fun h => absurd (by decide) h)
  refine fl_iinc (k := 0) (lv' := [(1, iv (wr (42 + 1))), (0, .ref x)]) C.1 dL_most_144 hl rfl (by decide) rfl (fun ls hl => ?_)
  rw [show wr (42 + 1) = (43 : Int) from by decide +kernel] at hl
  refine fl_goto (tgt := 106) C.1 dL_most_147 (by decide) ?_
  refine lv_iload_n C.1.1 C.1.2.1 dL_most_106 rfl (lv_at hl 0 rfl) ?_
  refine fl_bipush C.1 dL_most_107 (by decide) ?_
  refine fl_icmp_ge (tgt := 150) C.1 (rgk 43 rfl) (rgk 61 rfl) dL_most_109 (by decide) (fun h => absurd h (by decide)) (fun _ => ?_)
  refine lv_aload_n C.1.1 C.1.2.1 dL_most_112 rfl (lv_at hl 1 rfl) ?_
  refine fl_bipush C.1 dL_most_113 (by decide) ?_
  refine lv_iload_n C.1.1 C.1.2.1 dL_most_115 rfl (lv_at hl 0 rfl) ?_
  refine fl_bipush C.1 dL_most_116 (by decide) ?_
  refine h_irem (z := 3) C.1 (by decide) (by decide) (by decide) dL_most_118 ?_
  refine lv_iload_n C.1.1 C.1.2.1 dL_most_119 rfl (lv_at hl 0 rfl) ?_
  refine fl_bipush C.1 dL_most_120 (by decide) ?_
  refine h_irem (z := 1) C.1 (by decide) (by decide) (by decide) dL_most_122 ?_
  refine fl_iconst C.1 dL_most_123 ?_
  refine k_act (v := 43) (S' := (gEb fB 44)) hst C ⟨(Nat.le_of_ble_eq_true rfl), (Nat.le_of_ble_eq_true rfl)⟩ hI hl.1 (rgk 8 rfl) (rgk 3 rfl) (rgk 1 rfl) (rgk 0 rfl) (gE_step (k := 43) (by decide)) (Nat.le_of_ble_eq_true rfl) ⟨(Nat.le_of_ble_eq_true rfl), (Nat.le_of_ble_eq_true rfl)⟩ dL_most_124 (fun H locs hI _ => ?_)
  refine lv_iload_n C.1.1 C.1.2.1 dL_most_127 rfl (lv_at hl 0 rfl) ?_
  refine fl_bipush C.1 dL_most_128 (by decide) ?_
  refine fl_icmp_ge (tgt := 137) C.1 (rgk 43 rfl) (rgk 60 rfl) dL_most_130 (by decide) (fun h => absurd h (by decide)) (fun _ => ?_)
  refine lv_iload_n C.1.1 C.1.2.1 dL_most_133 rfl (lv_at hl 0 rfl) ?_
  refine fl_goto (tgt := 139) C.1 dL_most_134 (by decide) ?_
  refine fl_icmp_eq (tgt := 144) C.1 (rgk 43 rfl) (rgk 43 rfl) dL_most_139 (by decide) (fun _ => ?_) (fun h => absurd (by decide) h)
  refine fl_iinc (k := 0) (lv' := [(1, iv (wr (43 + 1))), (0, .ref x)]) C.1 dL_most_144 hl rfl (by decide) rfl (fun ls hl => ?_)
  rw [show wr (43 + 1) = (44 : Int) from by decide +kernel] at hl
  refine fl_goto (tgt := 106) C.1 dL_most_147 (by decide) ?_
  refine lv_iload_n C.1.1 C.1.2.1 dL_most_106 rfl (lv_at hl 0 rfl) ?_
  refine fl_bipush C.1 dL_most_107 (by decide) ?_
  refine fl_icmp_ge (tgt := 150) C.1 (rgk 44 rfl) (rgk 61 rfl) dL_most_109 (by decide) (fun h => absurd h (by decide)) (fun _ => ?_)
  refine lv_aload_n C.1.1 C.1.2.1 dL_most_112 rfl (lv_at hl 1 rfl) ?_
  refine fl_bipush C.1 dL_most_113 (by decide) ?_
  refine lv_iload_n C.1.1 C.1.2.1 dL_most_115 rfl (lv_at hl 0 rfl) ?_
  refine fl_bipush C.1 dL_most_116 (by decide) ?_
  refine h_irem (z := 4) C.1 (by decide) (by decide) (by decide) dL_most_118 ?_
  refine lv_iload_n C.1.1 C.1.2.1 dL_most_119 rfl (lv_at hl 0 rfl) ?_
  refine fl_bipush C.1 dL_most_120 (by decide) ?_
  refine h_irem (z := 2) C.1 (by decide) (by decide) (by decide) dL_most_122 ?_
  refine fl_iconst C.1 dL_most_123 ?_
  refine k_act (v := 44) (S' := (gEb fB 45)) hst C ⟨(Nat.le_of_ble_eq_true rfl), (Nat.le_of_ble_eq_true rfl)⟩ hI hl.1 (rgk 8 rfl) (rgk 4 rfl) (rgk 2 rfl) (rgk 0 rfl) (gE_step (k := 44) (by decide)) (Nat.le_of_ble_eq_true rfl) ⟨(Nat.le_of_ble_eq_true rfl), (Nat.le_of_ble_eq_true rfl)⟩ dL_most_124 (fun H locs hI _ => ?_)
  refine lv_iload_n C.1.1 C.1.2.1 dL_most_127 rfl (lv_at hl 0 rfl) ?_
  refine fl_bipush C.1 dL_most_128 (by decide) ?_
  refine fl_icmp_ge (tgt := 137) C.1 (rgk 44 rfl) (rgk 60 rfl) dL_most_130 (by decide) (fun h => absurd h (by decide)) (fun _ => ?_)
  refine lv_iload_n C.1.1 C.1.2.1 dL_most_133 rfl (lv_at hl 0 rfl) ?_
  refine fl_goto (tgt := 139) C.1 dL_most_134 (by decide) ?_
  refine fl_icmp_eq (tgt := 144) C.1 (rgk 44 rfl) (rgk 44 rfl) dL_most_139 (by decide) (fun _ => ?_) (fun h => absurd (by decide) h)
  refine fl_iinc (k := 0) (lv' := [(1, iv (wr (44 + 1))), (0, .ref x)]) C.1 dL_most_144 hl rfl (by decide) rfl (fun ls hl => ?_)
  rw [show wr (44 + 1) = (45 : Int) from by decide +kernel] at hl
  refine fl_goto (tgt := 106) C.1 dL_most_147 (by decide) ?_
  refine lv_iload_n C.1.1 C.1.2.1 dL_most_106 rfl (lv_at hl 0 rfl) ?_
  refine fl_bipush C.1 dL_most_107 (by decide) ?_
  refine fl_icmp_ge (tgt := 150) C.1 (rgk 45 rfl) (rgk 61 rfl) dL_most_109 (by decide) (fun h => absurd h (by decide)) (fun _ => ?_)
  refine lv_aload_n C.1.1 C.1.2.1 dL_most_112 rfl (lv_at hl 1 rfl) ?_
  refine fl_bipush C.1 dL_most_113 (by decide) ?_
  refine lv_iload_n C.1.1 C.1.2.1 dL_most_115 rfl (lv_at hl 0 rfl) ?_
  refine fl_bipush C.1 dL_most_116 (by decide) ?_
  refine h_irem (z := 5) C.1 (by decide) (by decide) (by decide) dL_most_118 ?_
  refine lv_iload_n C.1.1 C.1.2.1 dL_most_119 rfl (lv_at hl 0 rfl) ?_
  refine fl_bipush C.1 dL_most_120 (by decide) ?_
  refine h_irem (z := 3) C.1 (by decide) (by decide) (by decide) dL_most_122 ?_
  refine fl_iconst C.1 dL_most_123 ?_
  refine k_act (v := 45) (S' := (gEb fB 46)) hst C ⟨(Nat.le_of_ble_eq_true rfl), (Nat.le_of_ble_eq_true rfl)⟩ hI hl.1 (rgk 8 rfl) (rgk 5 rfl) (rgk 3 rfl) (rgk 0 rfl) (gE_step (k := 45) (by decide)) (Nat.le_of_ble_eq_true rfl) ⟨(Nat.le_of_ble_eq_true rfl), (Nat.le_of_ble_eq_true rfl)⟩ dL_most_124 (fun H locs hI _ => ?_)
  refine lv_iload_n C.1.1 C.1.2.1 dL_most_127 rfl (lv_at hl 0 rfl) ?_
  refine fl_bipush C.1 dL_most_128 (by decide) ?_
  refine fl_icmp_ge (tgt := 137) C.1 (rgk 45 rfl) (rgk 60 rfl) dL_most_130 (by decide) (fun h => absurd h (by decide)) (fun _ => ?_)
  refine lv_iload_n C.1.1 C.1.2.1 dL_most_133 rfl (lv_at hl 0 rfl) ?_
  refine fl_goto (tgt := 139) C.1 dL_most_134 (by decide) ?_
  refine fl_icmp_eq (tgt := 144) C.1 (rgk 45 rfl) (rgk 45 rfl) dL_most_139 (by decide) (fun _ => ?_) (fun h => absurd (by decide) h)
  refine fl_iinc (k := 0) (lv' := [(1, iv (wr (45 + 1))), (0, .ref x)]) C.1 dL_most_144 hl rfl (by decide) rfl (fun ls hl => ?_)
  rw [show wr (45 + 1) = (46 : Int) from by decide +kernel] at hl
  refine fl_goto (tgt := 106) C.1 dL_most_147 (by decide) ?_
  refine lv_iload_n C.1.1 C.1.2.1 dL_most_106 rfl (lv_at hl 0 rfl) ?_
  refine fl_bipush C.1 dL_most_107 (by decide) ?_
  refine fl_icmp_ge (tgt := 150) C.1 (rgk 46 rfl) (rgk 61 rfl) dL_most_109 (by decide) (fun h => absurd h (by decide)) (fun _ => ?_)
  refine lv_aload_n C.1.1 C.1.2.1 dL_most_112 rfl (lv_at hl 1 rfl) ?_
  refine fl_bipush C.1 dL_most_113 (by decide) ?_
  refine lv_iload_n C.1.1 C.1.2.1 dL_most_115 rfl (lv_at hl 0 rfl) ?_
  refine fl_bipush C.1 dL_most_116 (by decide) ?_
  refine h_irem (z := 6) C.1 (by decide) (by decide) (by decide) dL_most_118 ?_
  refine lv_iload_n C.1.1 C.1.2.1 dL_most_119 rfl (lv_at hl 0 rfl) ?_
  refine fl_bipush C.1 dL_most_120 (by decide) ?_
  refine h_irem (z := 4) C.1 (by decide) (by decide) (by decide) dL_most_122 ?_
  refine fl_iconst C.1 dL_most_123 ?_
  refine k_act (v := 46) (S' := (gEb fB 47)) hst C ⟨(Nat.le_of_ble_eq_true rfl), (Nat.le_of_ble_eq_true rfl)⟩ hI hl.1 (rgk 8 rfl) (rgk 6 rfl) (rgk 4 rfl) (rgk 0 rfl) (gE_step (k := 46) (by decide)) (Nat.le_of_ble_eq_true rfl) ⟨(Nat.le_of_ble_eq_true rfl), (Nat.le_of_ble_eq_true rfl)⟩ dL_most_124 (fun H locs hI _ => ?_)
  refine lv_iload_n C.1.1 C.1.2.1 dL_most_127 rfl (lv_at hl 0 rfl) ?_
  refine fl_bipush C.1 dL_most_128 (by decide) ?_
  refine fl_icmp_ge (tgt := 137) C.1 (rgk 46 rfl) (rgk 60 rfl) dL_most_130 (by decide) (fun h => absurd h (by decide)) (fun _ => ?_)
  refine lv_iload_n C.1.1 C.1.2.1 dL_most_133 rfl (lv_at hl 0 rfl) ?_
  refine fl_goto (tgt := 139) C.1 dL_most_134 (by decide) ?_
  refine fl_icmp_eq (tgt := 144) C.1 (rgk 46 rfl) (rgk 46 rfl) dL_most_139 (by decide) (fun _ => ?_) (fun h => absurd (by decide) h)
  refine fl_iinc (k := 0) (lv' := [(1, iv (wr (46 + 1))), (0, .ref x)]) C.1 dL_most_144 hl rfl (by decide) rfl (fun ls hl => ?_)
  rw [show wr (46 + 1) = (47 : Int) from by decide +kernel] at hl
  refine fl_goto (tgt := 106) C.1 dL_most_147 (by decide) ?_
  refine lv_iload_n C.1.1 C.1.2.1 dL_most_106 rfl (lv_at hl 0 rfl) ?_
  refine fl_bipush C.1 dL_most_107 (by decide) ?_
  refine fl_icmp_ge (tgt := 150) C.1 (rgk 47 rfl) (rgk 61 rfl) dL_most_109 (by decide) (fun h => absurd h (by decide)) (fun _ => ?_)
  refine lv_aload_n C.1.1 C.1.2.1 dL_most_112 rfl (lv_at hl 1 rfl) ?_
  refine fl_bipush C.1 dL_most_113 (by decide) ?_
  refine lv_iload_n C.1.1 C.1.2.1 dL_most_115 rfl (lv_at hl 0 rfl) ?_
  refine fl_bipush C.1 dL_most_116 (by decide) ?_
  refine h_irem (z := 7) C.1 (by decide) (by decide) (by decide) dL_most_118 ?_
  refine lv_iload_n C.1.1 C.1.2.1 dL_most_119 rfl (lv_at hl 0 rfl) ?_
  refine fl_bipush C.1 dL_most_120 (by decide) ?_
  refine h_irem (z := 5) C.1 (by decide) (by decide) (by decide) dL_most_122 ?_
  refine fl_iconst C.1 dL_most_123 ?_
  refine k_act (v := 47) (S' := (gEb fB 48)) hst C ⟨(Nat.le_of_ble_eq_true rfl), (Nat.le_of_ble_eq_true rfl)⟩ hI hl.1 (rgk 8 rfl) (rgk 7 rfl) (rgk 5 rfl) (rgk 0 rfl) (gE_step (k := 47) (by decide)) (Nat.le_of_ble_eq_true rfl) ⟨(Nat.le_of_ble_eq_true rfl), (Nat.le_of_ble_eq_true rfl)⟩ dL_most_124 (fun H locs hI _ => ?_)
  refine lv_iload_n C.1.1 C.1.2.1 dL_most_127 rfl (lv_at hl 0 rfl) ?_
  refine fl_bipush C.1 dL_most_128 (by decide) ?_
  refine fl_icmp_ge (tgt := 137) C.1 (rgk 47 rfl) (rgk 60 rfl) dL_most_130 (by decide) (fun h => absurd h (by decide)) (fun _ => ?_)
  refine lv_iload_n C.1.1 C.1.2.1 dL_most_133 rfl (lv_at hl 0 rfl) ?_
  refine fl_goto (tgt := 139) C.1 dL_most_134 (by decide) ?_
  refine fl_icmp_eq (tgt := 144) C.1 (rgk 47 rfl) (rgk 47 rfl) dL_most_139 (by decide) (fun _ => ?_) (fun h => absurd (by decide) h)
  refine fl_iinc (k := 0) (lv' := [(1, iv (wr (47 + 1))), (0, .ref x)]) C.1 dL_most_144 hl rfl (by decide) rfl (fun ls hl => ?_)
  rw [show wr (47 + 1) = (48 : Int) from by decide +kernel] at hl
  refine fl_goto (tgt := 106) C.1 dL_most_147 (by decide) ?_
  refine lv_iload_n C.1.1 C.1.2.1 dL_most_106 rfl (lv_at hl 0 rfl) ?_
  refine fl_bipush C.1 dL_most_107 (by decide) ?_
  refine fl_icmp_ge (tgt := 150) C.1 (rgk 48 rfl) (rgk 61 rfl) dL_most_109 (by decide) (fun h => absurd h (by decide)) (fun _ => ?_)
  refine lv_aload_n C.1.1 C.1.2.1 dL_most_112 rfl (lv_at hl 1 rfl) ?_
  refine fl_bipush C.1 dL_most_113 (by decide) ?_
  refine lv_iload_n C.1.1 C.1.2.1 dL_most_115 rfl (lv_at hl 0 rfl) ?_
  refine fl_bipush C.1 dL_most_116 (by decide) ?_
  refine h_irem (z := 0) C.1 (by decide) (by decide) (by decide) dL_most_118 ?_
  refine lv_iload_n C.1.1 C.1.2.1 dL_most_119 rfl (lv_at hl 0 rfl) ?_
  refine fl_bipush C.1 dL_most_120 (by decide) ?_
  refine h_irem (z := 0) C.1 (by decide) (by decide) (by decide) dL_most_122 ?_
  refine fl_iconst C.1 dL_most_123 ?_
  refine k_act (v := 48) (S' := (gEb fB 49)) hst C ⟨(Nat.le_of_ble_eq_true rfl), (Nat.le_of_ble_eq_true rfl)⟩ hI hl.1 (rgk 8 rfl) (rgk 0 rfl) (rgk 0 rfl) (rgk 0 rfl) (gE_step (k := 48) (by decide)) (Nat.le_of_ble_eq_true rfl) ⟨(Nat.le_of_ble_eq_true rfl), (Nat.le_of_ble_eq_true rfl)⟩ dL_most_124 (fun H locs hI _ => ?_)
  refine lv_iload_n C.1.1 C.1.2.1 dL_most_127 rfl (lv_at hl 0 rfl) ?_
  refine fl_bipush C.1 dL_most_128 (by decide) ?_
  refine fl_icmp_ge (tgt := 137) C.1 (rgk 48 rfl) (rgk 60 rfl) dL_most_130 (by decide) (fun h => absurd h (by decide)) (fun _ => ?_)
  refine lv_iload_n C.1.1 C.1.2.1 dL_most_133 rfl (lv_at hl 0 rfl) ?_
  refine fl_goto (tgt := 139) C.1 dL_most_134 (by decide) ?_
  refine fl_icmp_eq (tgt := 144) C.1 (rgk 48 rfl) (rgk 48 rfl) dL_most_139 (by decide) (fun _ => ?_) (fun h => absurd (by decide) h)
  refine fl_iinc (k := 0) (lv' := [(1, iv (wr (48 + 1))), (0, .ref x)]) C.1 dL_most_144 hl rfl (by decide) rfl (fun ls hl => ?_)
  rw [show wr (48 + 1) = (49 : Int) from by decide +kernel] at hl
  refine fl_goto (tgt := 106) C.1 dL_most_147 (by decide) ?_
  refine lv_iload_n C.1.1 C.1.2.1 dL_most_106 rfl (lv_at hl 0 rfl) ?_
  refine fl_bipush C.1 dL_most_107 (by decide) ?_
  refine fl_icmp_ge (tgt := 150) C.1 (rgk 49 rfl) (rgk 61 rfl) dL_most_109 (by decide) (fun h => absurd h (by decide)) (fun _ => ?_)
  refine lv_aload_n C.1.1 C.1.2.1 dL_most_112 rfl (lv_at hl 1 rfl) ?_
  refine fl_bipush C.1 dL_most_113 (by decide) ?_
  refine lv_iload_n C.1.1 C.1.2.1 dL_most_115 rfl (lv_at hl 0 rfl) ?_
  refine fl_bipush C.1 dL_most_116 (by decide) ?_
  refine h_irem (z := 1) C.1 (by decide) (by decide) (by decide) dL_most_118 ?_
  refine lv_iload_n C.1.1 C.1.2.1 dL_most_119 rfl (lv_at hl 0 rfl) ?_
  refine fl_bipush C.1 dL_most_120 (by decide) ?_
  refine h_irem (z := 1) C.1 (by decide) (by decide) (by decide) dL_most_122 ?_
  refine fl_iconst C.1 dL_most_123 ?_
  refine k_act (v := 49) (S' := (gEb fB 50)) hst C ⟨(Nat.le_of_ble_eq_true rfl), (Nat.le_of_ble_eq_true rfl)⟩ hI hl.1 (rgk 8 rfl) (rgk 1 rfl) (rgk 1 rfl) (rgk 0 rfl) (gE_step (k := 49) (by decide)) (Nat.le_of_ble_eq_true rfl) ⟨(Nat.le_of_ble_eq_true rfl), (Nat.le_of_ble_eq_true rfl)⟩ dL_most_124 (fun H locs hI _ => ?_)
  refine lv_iload_n C.1.1 C.1.2.1 dL_most_127 rfl (lv_at hl 0 rfl) ?_
  refine fl_bipush C.1 dL_most_128 (by decide) ?_
  refine fl_icmp_ge (tgt := 137) C.1 (rgk 49 rfl) (rgk 60 rfl) dL_most_130 (by decide) (fun h => absurd h (by decide)) (fun _ => ?_)
  refine lv_iload_n C.1.1 C.1.2.1 dL_most_133 rfl (lv_at hl 0 rfl) ?_
  refine fl_goto (tgt := 139) C.1 dL_most_134 (by decide) ?_
  refine fl_icmp_eq (tgt := 144) C.1 (rgk 49 rfl) (rgk 49 rfl) dL_most_139 (by decide) (fun _ => ?_) (fun h => absurd (by decide) h)
  refine fl_iinc (k := 0) (lv' := [(1, iv (wr (49 + 1))), (0, .ref x)]) C.1 dL_most_144 hl rfl (by decide) rfl (fun ls hl => ?_)
  rw [show wr (49 + 1) = (50 : Int) from by decide +kernel] at hl
  refine fl_goto (tgt := 106) C.1 dL_most_147 (by decide) ?_
  refine lv_iload_n C.1.1 C.1.2.1 dL_most_106 rfl (lv_at hl 0 rfl) ?_
  refine fl_bipush C.1 dL_most_107 (by decide) ?_
  refine fl_icmp_ge (tgt := 150) C.1 (rgk 50 rfl) (rgk 61 rfl) dL_most_109 (by decide) (fun h => absurd h (by decide)) (fun _ => ?_)
  refine lv_aload_n C.1.1 C.1.2.1 dL_most_112 rfl (lv_at hl 1 rfl) ?_
  refine fl_bipush C.1 dL_most_113 (by decide) ?_
  refine lv_iload_n C.1.1 C.1.2.1 dL_most_115 rfl (lv_at hl 0 rfl) ?_
  refine fl_bipush C.1 dL_most_116 (by decide) ?_
  refine h_irem (z := 2) C.1 (by decide) (by decide) (by decide) dL_most_118 ?_
  refine lv_iload_n C.1.1 C.1.2.1 dL_most_119 rfl (lv_at hl 0 rfl) ?_
  refine fl_bipush C.1 dL_most_120 (by decide) ?_
  refine h_irem (z := 2) C.1 (by decide) (by decide) (by decide) dL_most_122 ?_
  refine fl_iconst C.1 dL_most_123 ?_
  refine k_act (v := 50) (S' := (gEb fB 51)) hst C ⟨(Nat.le_of_ble_eq_true rfl), (Nat.le_of_ble_eq_true rfl)⟩ hI hl.1 (rgk 8 rfl) (rgk 2 rfl) (rgk 2 rfl) (rgk 0 rfl) (gE_step (k := 50) (by decide)) (Nat.le_of_ble_eq_true rfl) ⟨(Nat.le_of_ble_eq_true rfl), (Nat.le_of_ble_eq_true rfl)⟩ dL_most_124 (fun H locs hI _ => ?_)
  refine lv_iload_n C.1.1 C.1.2.1 dL_most_127 rfl (lv_at hl 0 rfl) ?_
  refine fl_bipush C.1 dL_most_128 (by decide) ?_
  refine fl_icmp_ge (tgt := 137) C.1 (rgk 50 rfl) (rgk 60 rfl) dL_most_130 (by decide) (fun h => absurd h (by decide)) (fun _ => ?_)
  refine lv_iload_n C.1.1 C.1.2.1 dL_most_133 rfl (lv_at hl 0 rfl) ?_
  refine fl_goto (tgt := 139) C.1 dL_most_134 (by decide) ?_
  refine fl_icmp_eq (tgt := 144) C.1 (rgk 50 rfl) (rgk 50 rfl) dL_most_139 (by decide) (fun _ => ?_) (fun h => absurd (by decide) h)
  refine fl_iinc (k := 0) (lv' := [(1, iv (wr (50 + 1))), (0, .ref x)]) C.1 dL_most_144 hl rfl (by decide) rfl (fun ls hl => ?_)
  rw [show wr (50 + 1) = (51 : Int) from by decide +kernel] at hl
  refine fl_goto (tgt := 106) C.1 dL_most_147 (by decide) ?_
  refine lv_iload_n C.1.1 C.1.2.1 dL_most_106 rfl (lv_at hl 0 rfl) ?_
  refine fl_bipush C.1 dL_most_107 (by decide) ?_
  refine fl_icmp_ge (tgt := 150) C.1 (rgk 51 rfl) (rgk 61 rfl) dL_most_109 (by decide) (fun h => absurd h (by decide)) (fun _ => ?_)
  refine lv_aload_n C.1.1 C.1.2.1 dL_most_112 rfl (lv_at hl 1 rfl) ?_
  refine fl_bipush C.1 dL_most_113 (by decide) ?_
  refine lv_iload_n C.1.1 C.1.2.1 dL_most_115 rfl (lv_at hl 0 rfl) ?_
  refine fl_bipush C.1 dL_most_116 (by decide) ?_
  refine h_irem (z := 3) C.1 (by decide) (by decide) (by decide) dL_most_118 ?_
  refine lv_iload_n C.1.1 C.1.2.1 dL_most_119 rfl (lv_at hl 0 rfl) ?_
  refine fl_bipush C.1 dL_most_120 (by decide) ?_
  refine h_irem (z := 3) C.1 (by decide) (by decide) (by decide) dL_most_122 ?_
  refine fl_iconst C.1 dL_most_123 ?_
  refine k_act (v := 51) (S' := (gEb fB 52)) hst C ⟨(Nat.le_of_ble_eq_true rfl), (Nat.le_of_ble_eq_true rfl)⟩ hI hl.1 (rgk 8 rfl) (rgk 3 rfl) (rgk 3 rfl) (rgk 0 rfl) (gE_step (k := 51) (by decide)) (Nat.le_of_ble_eq_true rfl) ⟨(Nat.le_of_ble_eq_true rfl), (Nat.le_of_ble_eq_true rfl)⟩ dL_most_124 (fun H locs hI _ => ?_)
  refine lv_iload_n C.1.1 C.1.2.1 dL_most_127 rfl (lv_at hl 0 rfl) ?_
  refine fl_bipush C.1 dL_most_128 (by decide) ?_
  refine fl_icmp_ge (tgt := 137) C.1 (rgk 51 rfl) (rgk 60 rfl) dL_most_130 (by decide) (fun h => absurd h (by decide)) (fun _ => ?_)
  refine lv_iload_n C.1.1 C.1.2.1 dL_most_133 rfl (lv_at hl 0 rfl) ?_
  refine fl_goto (tgt := 139) C.1 dL_most_134 (by decide) ?_
  refine fl_icmp_eq (tgt := 144) C.1 (rgk 51 rfl) (rgk 51 rfl) dL_most_139 (by decide) (fun _ => ?_) (fun h => absurd (by decide) h)
  refine fl_iinc (k := 0) (lv' := [(1, iv (wr (51 + 1))), (0, .ref x)]) C.1 dL_most_144 hl rfl (by decide) rfl (fun ls hl => ?_)
  rw [show wr (51 + 1) = (52 : Int) from by decide +kernel] at hl
  refine fl_goto (tgt := 106) C.1 dL_most_147 (by decide) ?_
  refine lv_iload_n C.1.1 C.1.2.1 dL_most_106 rfl (lv_at hl 0 rfl) ?_
  refine fl_bipush C.1 dL_most_107 (by decide) ?_
  refine fl_icmp_ge (tgt := 150) C.1 (rgk 52 rfl) (rgk 61 rfl) dL_most_109 (by decide) (fun h => absurd h (by decide)) (fun _ => ?_)
  refine lv_aload_n C.1.1 C.1.2.1 dL_most_112 rfl (lv_at hl 1 rfl) ?_
  refine fl_bipush C.1 dL_most_113 (by decide) ?_
  refine lv_iload_n C.1.1 C.1.2.1 dL_most_115 rfl (lv_at hl 0 rfl) ?_
  refine fl_bipush C.1 dL_most_116 (by decide) ?_
  refine h_irem (z := 4) C.1 (by decide) (by decide) (by decide) dL_most_118 ?_
  refine lv_iload_n C.1.1 C.1.2.1 dL_most_119 rfl (lv_at hl 0 rfl) ?_
  refine fl_bipush C.1 dL_most_120 (by decide) ?_
  refine h_irem (z := 4) C.1 (by decide) (by decide) (by decide) dL_most_122 ?_
  refine fl_iconst C.1 dL_most_123 ?_
  refine k_act (v := 52) (S' := (gEb fB 53)) hst C ⟨(Nat.le_of_ble_eq_true rfl), (Nat.le_of_ble_eq_true rfl)⟩ hI hl.1 (rgk 8 rfl) (rgk 4 rfl) (rgk 4 rfl) (rgk 0 rfl) (gE_step (k := 52) (by decide)) (Nat.le_of_ble_eq_true rfl) ⟨(Nat.le_of_ble_eq_true rfl), (Nat.le_of_ble_eq_true rfl)⟩ dL_most_124 (fun H locs hI _ => ?_)
  refine lv_iload_n C.1.1 C.1.2.1 dL_most_127 rfl (lv_at hl 0 rfl) ?_
  refine fl_bipush C.1 dL_most_128 (by decide) ?_
  refine fl_icmp_ge (tgt := 137) C.1 (rgk 52 rfl) (rgk 60 rfl) dL_most_130 (by decide) (fun h => absurd h (by decide)) (fun _ => ?_)
  refine lv_iload_n C.1.1 C.1.2.1 dL_most_133 rfl (lv_at hl 0 rfl) ?_
  refine fl_goto (tgt := 139) C.1 dL_most_134 (by decide) ?_
  refine fl_icmp_eq (tgt := 144) C.1 (rgk 52 rfl) (rgk 52 rfl) dL_most_139 (by decide) (fun _ => ?_) (fun h => absurd (by decide) h)
  refine fl_iinc (k := 0) (lv' := [(1, iv (wr (52 + 1))), (0, .ref x)]) C.1 dL_most_144 hl rfl (by decide) rfl (fun ls hl => ?_)
  rw [show wr (52 + 1) = (53 : Int) from by decide +kernel] at hl
  refine fl_goto (tgt := 106) C.1 dL_most_147 (by decide) ?_
  refine lv_iload_n C.1.1 C.1.2.1 dL_most_106 rfl (lv_at hl 0 rfl) ?_
  refine fl_bipush C.1 dL_most_107 (by decide) ?_
  refine fl_icmp_ge (tgt := 150) C.1 (rgk 53 rfl) (rgk 61 rfl) dL_most_109 (by decide) (fun h => absurd h (by decide)) (fun _ => ?_)
  refine lv_aload_n C.1.1 C.1.2.1 dL_most_112 rfl (lv_at hl 1 rfl) ?_
  refine fl_bipush C.1 dL_most_113 (by decide) ?_
  refine lv_iload_n C.1.1 C.1.2.1 dL_most_115 rfl (lv_at hl 0 rfl) ?_
  refine fl_bipush C.1 dL_most_116 (by decide) ?_
  refine h_irem (z := 5) C.1 (by decide) (by decide) (by decide) dL_most_118 ?_
  refine lv_iload_n C.1.1 C.1.2.1 dL_most_119 rfl (lv_at hl 0 rfl) ?_
  refine fl_bipush C.1 dL_most_120 (by decide) ?_
  refine h_irem (z := 5) C.1 (by decide) (by decide) (by decide) dL_most_122 ?_
  refine fl_iconst C.1 dL_most_123 ?_
  refine k_act (v := 53) (S' := (gEb fB 54)) hst C ⟨(Nat.le_of_ble_eq_true rfl), (Nat.le_of_ble_eq_true rfl)⟩ hI hl.1 (rgk 8 rfl) (rgk 5 rfl) (rgk 5 rfl) (rgk 0 rfl) (gE_step (k := 53) (by decide)) (Nat.le_of_ble_eq_true rfl) ⟨(Nat.le_of_ble_eq_true rfl), (Nat.le_of_ble_eq_true rfl)⟩ dL_most_124 (fun H locs hI _ => ?_)
  refine lv_iload_n C.1.1 C.1.2.1 dL_most_127 rfl (lv_at hl 0 rfl) ?_
  refine fl_bipush C.1 dL_most_128 (by decide) ?_
  refine fl_icmp_ge (tgt := 137) C.1 (rgk 53 rfl) (rgk 60 rfl) dL_most_130 (by decide) (fun h => absurd h (by decide)) (fun _ => ?_)
  refine lv_iload_n C.1.1 C.1.2.1 dL_most_133 rfl (lv_at hl 0 rfl) ?_
  refine fl_goto (tgt := 139) C.1 dL_most_134 (by decide) ?_
  refine fl_icmp_eq (tgt := 144) C.1 (rgk 53 rfl) (rgk 53 rfl) dL_most_139 (by decide) (fun _ => ?_) (fun h => absurd (by decide) h)
  refine fl_iinc (k := 0) (lv' := [(1, iv (wr (53 + 1))), (0, .ref x)]) C.1 dL_most_144 hl rfl (by decide) rfl (fun ls hl => ?_)
  rw [show wr (53 + 1) = (54 : Int) from by decide +kernel] at hl
  refine fl_goto (tgt := 106) C.1 dL_most_147 (by decide) ?_
  refine lv_iload_n C.1.1 C.1.2.1 dL_most_106 rfl (lv_at hl 0 rfl) ?_
  refine fl_bipush C.1 dL_most_107 (by decide) ?_
  refine fl_icmp_ge (tgt := 150) C.1 (rgk 54 rfl) (rgk 61 rfl) dL_most_109 (by decide) (fun h => absurd h (by decide)) (fun _ => ?_)
  refine lv_aload_n C.1.1 C.1.2.1 dL_most_112 rfl (lv_at hl 1 rfl) ?_
  refine fl_bipush C.1 dL_most_113 (by decide) ?_
  refine lv_iload_n C.1.1 C.1.2.1 dL_most_115 rfl (lv_at hl 0 rfl) ?_
  refine fl_bipush C.1 dL_most_116 (by decide) ?_
  refine h_irem (z := 6) C.1 (by decide) (by decide) (by decide) dL_most_118 ?_
  refine lv_iload_n C.1.1 C.1.2.1 dL_most_119 rfl (lv_at hl 0 rfl) ?_
  refine fl_bipush C.1 dL_most_120 (by decide) ?_
  refine h_irem (z := 0) C.1 (by decide) (by decide) (by decide) dL_most_122 ?_
  refine fl_iconst C.1 dL_most_123 ?_
  refine k_act (v := 54) (S' := (gEb fB 55)) hst C ⟨(Nat.le_of_ble_eq_true rfl), (Nat.le_of_ble_eq_true rfl)⟩ hI hl.1 (rgk 8 rfl) (rgk 6 rfl) (rgk 0 rfl) (rgk 0 rfl) (gE_step (k := 54) (by decide)) (Nat.le_of_ble_eq_true rfl) ⟨(Nat.le_of_ble_eq_true rfl), (Nat.le_of_ble_eq_true rfl)⟩ dL_most_124 (fun H locs hI _ => ?_)
  refine lv_iload_n C.1.1 C.1.2.1 dL_most_127 rfl (lv_at hl 0 rfl) ?_
  refine fl_bipush C.1 dL_most_128 (by decide) ?_
  refine fl_icmp_ge (tgt := 137) C.1 (rgk 54 rfl) (rgk 60 rfl) dL_most_130 (by decide) (fun h => absurd h (by decide)) (fun _ => ?_)
  refine lv_iload_n C.1.1 C.1.2.1 dL_most_133 rfl (lv_at hl 0 rfl) ?_
  refine fl_goto (tgt := 139) C.1 dL_most_134 (by decide) ?_
  refine fl_icmp_eq (tgt := 144) C.1 (rgk 54 rfl) (rgk 54 rfl) dL_most_139 (by decide) (fun _ => ?_) (fun h => absurd (by decide) h)
  refine fl_iinc (k := 0) (lv' := [(1, iv (wr (54 + 1))), (0, .ref x)]) C.1 dL_most_144 hl rfl (by decide) rfl (fun ls hl => ?_)
  rw [show wr (54 + 1) = (55 : Int) from by decide +kernel] at hl
  refine fl_goto (tgt := 106) C.1 dL_most_147 (by decide) ?_
  refine lv_iload_n C.1.1 C.1.2.1 dL_most_106 rfl (lv_at hl 0 rfl) ?_
  refine fl_bipush C.1 dL_most_107 (by decide) ?_
  refine fl_icmp_ge (tgt := 150) C.1 (rgk 55 rfl) (rgk 61 rfl) dL_most_109 (by decide) (fun h => absurd h (by decide)) (fun _ => ?_)
  refine lv_aload_n C.1.1 C.1.2.1 dL_most_112 rfl (lv_at hl 1 rfl) ?_
  refine fl_bipush C.1 dL_most_113 (by decide) ?_
  refine lv_iload_n C.1.1 C.1.2.1 dL_most_115 rfl (lv_at hl 0 rfl) ?_
  refine fl_bipush C.1 dL_most_116 (by decide) ?_
  refine h_irem (z := 7) C.1 (by decide) (by decide) (by decide) dL_most_118 ?_
  refine lv_iload_n C.1.1 C.1.2.1 dL_most_119 rfl (lv_at hl 0 rfl) ?_
  refine fl_bipush C.1 dL_most_120 (by decide) ?_
  refine h_irem (z := 1) C.1 (by decide) (by decide) (by decide) dL_most_122 ?_
  refine fl_iconst C.1 dL_most_123 ?_
  refine k_act (v := 55) (S' := (gEb fB 56)) hst C ⟨(Nat.le_of_ble_eq_true rfl), (Nat.le_of_ble_eq_true rfl)⟩ hI hl.1 (rgk 8 rfl) (rgk 7 rfl) (rgk 1 rfl) (rgk 0 rfl) (gE_step (k := 55) (by decide)) (Nat.le_of_ble_eq_true rfl) ⟨(Nat.le_of_ble_eq_true rfl), (Nat.le_of_ble_eq_true rfl)⟩ dL_most_124 (fun H locs hI _ => ?_)
  refine lv_iload_n C.1.1 C.1.2.1 dL_most_127 rfl (lv_at hl 0 rfl) ?_
  refine fl_bipush C.1 dL_most_128 (by decide) ?_
  refine fl_icmp_ge (tgt := 137) C.1 (rgk 55 rfl) (rgk 60 rfl) dL_most_130 (by decide) (fun h => absurd h (by decide)) (fun _ => ?_)
  refine lv_iload_n C.1.1 C.1.2.1 dL_most_133 rfl (lv_at hl 0 rfl) ?_
  refine fl_goto (tgt := 139) C.1 dL_most_134 (by decide) ?_
  refine fl_icmp_eq (tgt := 144) C.1 (rgk 55 rfl) (rgk 55 rfl) dL_most_139 (by decide) (fun _ => ?_) (fun h => absurd (by decide) h)
  refine fl_iinc (k := 0) (lv' := [(1, iv (wr (55 + 1))), (0, .ref x)]) C.1 dL_most_144 hl rfl (by decide) rfl (fun ls hl => ?_)
  rw [show wr (55 + 1) = (56 : Int) from by decide +kernel] at hl
  refine fl_goto (tgt := 106) C.1 dL_most_147 (by decide) ?_
  refine lv_iload_n C.1.1 C.1.2.1 dL_most_106 rfl (lv_at hl 0 rfl) ?_
  refine fl_bipush C.1 dL_most_107 (by decide) ?_
  refine fl_icmp_ge (tgt := 150) C.1 (rgk 56 rfl) (rgk 61 rfl) dL_most_109 (by decide) (fun h => absurd h (by decide)) (fun _ => ?_)
  refine lv_aload_n C.1.1 C.1.2.1 dL_most_112 rfl (lv_at hl 1 rfl) ?_
  refine fl_bipush C.1 dL_most_113 (by decide) ?_
  refine lv_iload_n C.1.1 C.1.2.1 dL_most_115 rfl (lv_at hl 0 rfl) ?_
  refine fl_bipush C.1 dL_most_116 (by decide) ?_
  refine h_irem (z := 0) C.1 (by decide) (by decide) (by decide) dL_most_118 ?_
  refine lv_iload_n C.1.1 C.1.2.1 dL_most_119 rfl (lv_at hl 0 rfl) ?_
  refine fl_bipush C.1 dL_most_120 (by decide) ?_
  refine h_irem (z := 2) C.1 (by decide) (by decide) (by decide) dL_most_122 ?_
  refine fl_iconst C.1 dL_most_123 ?_
  refine k_act (v := 56) (S' := (gEb fB 57)) hst C ⟨(Nat.le_of_ble_eq_true rfl), (Nat.le_of_ble_eq_true rfl)⟩ hI hl.1 (rgk 8 rfl) (rgk 0 rfl) (rgk 2 rfl) (rgk 0 rfl) (gE_step (k := 56) (by decide)) (Nat.le_of_ble_eq_true rfl) ⟨(Nat.le_of_ble_eq_true rfl), (Nat.le_of_ble_eq_true rfl)⟩ dL_most_124 (fun H locs hI _ => ?_)
  refine lv_iload_n C.1.1 C.1.2.1 dL_most_127 rfl (lv_at hl 0 rfl) ?_
  refine fl_bipush C.1 dL_most_128 (by decide) ?_
  refine fl_icmp_ge (tgt := 137) C.1 (rgk 56 rfl) (rgk 60 rfl) dL_most_130 (by decide) (fun h => absurd h (by decide)) (fun _ => ?_)
  refine lv_iload_n C.1.1 C.1.2.1 dL_most_133 rfl (lv_at hl 0 rfl) ?_
  refine fl_goto (tgt := 139) C.1 dL_most_134 (by decide) ?_
  refine fl_icmp_eq (tgt := 144) C.1 (rgk 56 rfl) (rgk 56 rfl) dL_most_139 (by decide) (fun _ => ?_) (fun h => absurd (by decide) h)
  refine fl_iinc (k := 0) (lv' := [(1, iv (wr (56 + 1))), (0, .ref x)]) C.1 dL_most_144 hl rfl (by decide) rfl (fun ls hl => ?_)
  rw [show wr (56 + 1) = (57 : Int) from by decide +kernel] at hl
  refine fl_goto (tgt := 106) C.1 dL_most_147 (by decide) ?_
  refine lv_iload_n C.1.1 C.1.2.1 dL_most_106 rfl (lv_at hl 0 rfl) ?_
  refine fl_bipush C.1 dL_most_107 (by decide) ?_
  refine fl_icmp_ge (tgt := 150) C.1 (rgk 57 rfl) (rgk 61 rfl) dL_most_109 (by decide) (fun h => absurd h (by decide)) (fun _ => ?_)
  refine lv_aload_n C.1.1 C.1.2.1 dL_most_112 rfl (lv_at hl 1 rfl) ?_
  refine fl_bipush C.1 dL_most_113 (by decide) ?_
  refine lv_iload_n C.1.1 C.1.2.1 dL_most_115 rfl (lv_at hl 0 rfl) ?_
  refine fl_bipush C.1 dL_most_116 (by decide) ?_
  refine h_irem (z := 1) C.1 (by decide) (by decide) (by decide) dL_most_118 ?_
  refine lv_iload_n C.1.1 C.1.2.1 dL_most_119 rfl (lv_at hl 0 rfl) ?_
  refine fl_bipush C.1 dL_most_120 (by decide) ?_
  refine h_irem (z := 3) C.1 (by decide) (by decide) (by decide) dL_most_122 ?_
  refine fl_iconst C.1 dL_most_123 ?_
  refine k_act (v := 57) (S' := (gEb fB 58)) hst C ⟨(Nat.le_of_ble_eq_true rfl), (Nat.le_of_ble_eq_true rfl)⟩ hI hl.1 (rgk 8 rfl) (rgk 1 rfl) (rgk 3 rfl) (rgk 0 rfl) (gE_step (k := 57) (by decide)) (Nat.le_of_ble_eq_true rfl) ⟨(Nat.le_of_ble_eq_true rfl), (Nat.le_of_ble_eq_true rfl)⟩ dL_most_124 (fun H locs hI _ => ?_)
  refine lv_iload_n C.1.1 C.1.2.1 dL_most_127 rfl (lv_at hl 0 rfl) ?_
  refine fl_bipush C.1 dL_most_128 (by decide) ?_
  refine fl_icmp_ge (tgt := 137) C.1 (rgk 57 rfl) (rgk 60 rfl) dL_most_130 (by decide) (fun h => absurd h (by decide)) (fun _ => ?_)
  refine lv_iload_n C.1.1 C.1.2.1 dL_most_133 rfl (lv_at hl 0 rfl) ?_
  refine fl_goto (tgt := 139) C.1 dL_most_134 (by decide) ?_
  refine fl_icmp_eq (tgt := 144) C.1 (rgk 57 rfl) (rgk 57 rfl) dL_most_139 (by decide) (fun _ => ?_) (fun h => absurd (by decide) h)
  refine fl_iinc (k := 0) (lv' := [(1, iv (wr (57 + 1))), (0, .ref x)]) C.1 dL_most_144 hl rfl (by decide) rfl (fun ls hl => ?_)
  rw [show wr (57 + 1) = (58 : Int) from by decide +kernel] at hl
  refine fl_goto (tgt := 106) C.1 dL_most_147 (by decide) ?_
  refine lv_iload_n C.1.1 C.1.2.1 dL_most_106 rfl (lv_at hl 0 rfl) ?_
  refine fl_bipush C.1 dL_most_107 (by decide) ?_
  refine fl_icmp_ge (tgt := 150) C.1 (rgk 58 rfl) (rgk 61 rfl) dL_most_109 (by decide) (fun h => absurd h (by decide)) (fun _ => ?_)
  refine lv_aload_n C.1.1 C.1.2.1 dL_most_112 rfl (lv_at hl 1 rfl) ?_
  refine fl_bipush C.1 dL_most_113 (by decide) ?_
  refine lv_iload_n C.1.1 C.1.2.1 dL_most_115 rfl (lv_at hl 0 rfl) ?_
  refine fl_bipush C.1 dL_most_116 (by decide) ?_
  refine h_irem (z := 2) C.1 (by decide) (by decide) (by decide) dL_most_118 ?_
  refine lv_iload_n C.1.1 C.1.2.1 dL_most_119 rfl (lv_at hl 0 rfl) ?_
  refine fl_bipush C.1 dL_most_120 (by decide) ?_
  refine h_irem (z := 4) C.1 (by decide) (by decide) (by decide) dL_most_122 ?_
  refine fl_iconst C.1 dL_most_123 ?_
  refine k_act (v := 58) (S' := (gEb fB 59)) hst C ⟨(Nat.le_of_ble_eq_true rfl), (Nat.le_of_ble_eq_true rfl)⟩ hI hl.1 (rgk 8 rfl) (rgk 2 rfl) (rgk 4 rfl) (rgk 0 rfl) (gE_step (k := 58) (by decide)) (Nat.le_of_ble_eq_true rfl) ⟨(Nat.le_of_ble_eq_true rfl), (Nat.le_of_ble_eq_true rfl)⟩ dL_most_124 (fun H locs hI _ => ?_)
  refine lv_iload_n C.1.1 C.1.2.1 dL_most_127 rfl (lv_at hl 0 rfl) ?_
  refine fl_bipush C.1 dL_most_128 (by decide) ?_
  refine fl_icmp_ge (tgt := 137) C.1 (rgk 58 rfl) (rgk 60 rfl) dL_most_130 (by decide) (fun h => absurd h (by decide)) (fun _ => ?_)
  refine lv_iload_n C.1.1 C.1.2.1 dL_most_133 rfl (lv_at hl 0 rfl) ?_
  refine fl_goto (tgt := 139) C.1 dL_most_134 (by decide) ?_
  refine fl_icmp_eq (tgt := 144) C.1 (rgk 58 rfl) (rgk 58 rfl) dL_most_139 (by decide) (fun _ => ?_) (fun h => absurd (by decide) h)
  refine fl_iinc (k := 0) (lv' := [(1, iv (wr (58 + 1))), (0, .ref x)]) C.1 dL_most_144 hl rfl (by decide) rfl (fun ls hl => ?_)
  rw [show wr (58 + 1) = (59 : Int) from by decide +kernel] at hl
  refine fl_goto (tgt := 106) C.1 dL_most_147 (by decide) ?_
  refine lv_iload_n C.1.1 C.1.2.1 dL_most_106 rfl (lv_at hl 0 rfl) ?_
  refine fl_bipush C.1 dL_most_107 (by decide) ?_
  refine fl_icmp_ge (tgt := 150) C.1 (rgk 59 rfl) (rgk 61 rfl) dL_most_109 (by decide) (fun h => absurd h (by decide)) (fun _ => ?_)
  refine lv_aload_n C.1.1 C.1.2.1 dL_most_112 rfl (lv_at hl 1 rfl) ?_
  refine fl_bipush C.1 dL_most_113 (by decide) ?_
  refine lv_iload_n C.1.1 C.1.2.1 dL_most_115 rfl (lv_at hl 0 rfl) ?_
  refine fl_bipush C.1 dL_most_116 (by decide) ?_
  refine h_irem (z := 3) C.1 (by decide) (by decide) (by decide) dL_most_118 ?_
  refine lv_iload_n C.1.1 C.1.2.1 dL_most_119 rfl (lv_at hl 0 rfl) ?_
  refine fl_bipush C.1 dL_most_120 (by decide) ?_
  refine h_irem (z := 5) C.1 (by decide) (by decide) (by decide) dL_most_122 ?_
  refine fl_iconst C.1 dL_most_123 ?_
  refine k_act (v := 59) (S' := (gEb fB 60)) hst C ⟨(Nat.le_of_ble_eq_true rfl), (Nat.le_of_ble_eq_true rfl)⟩ hI hl.1 (rgk 8 rfl) (rgk 3 rfl) (rgk 5 rfl) (rgk 0 rfl) (gE_step (k := 59) (by decide)) (Nat.le_of_ble_eq_true rfl) ⟨(Nat.le_of_ble_eq_true rfl), (Nat.le_of_ble_eq_true rfl)⟩ dL_most_124 (fun H locs hI _ => ?_)
  refine lv_iload_n C.1.1 C.1.2.1 dL_most_127 rfl (lv_at hl 0 rfl) ?_
  refine fl_bipush C.1 dL_most_128 (by decide) ?_
  refine fl_icmp_ge (tgt := 137) C.1 (rgk 59 rfl) (rgk 60 rfl) dL_most_130 (by decide) (fun h => absurd h (by decide)) (fun _ => ?_)
  refine lv_iload_n C.1.1 C.1.2.1 dL_most_133 rfl (lv_at hl 0 rfl) ?_
  refine fl_goto (tgt := 139) C.1 dL_most_134 (by decide) ?_
  refine fl_icmp_eq (tgt := 144) C.1 (rgk 59 rfl) (rgk 59 rfl) dL_most_139 (by decide) (fun _ => ?_) (fun h => absurd (by decide) h)
  refine fl_iinc (k := 0) (lv' := [(1, iv (wr (59 + 1))), (0, .ref x)]) C.1 dL_most_144 hl rfl (by decide) rfl (fun ls hl => ?_)
  rw [show wr (59 + 1) = (60 : Int) from by decide +kernel] at hl
  refine fl_goto (tgt := 106) C.1 dL_most_147 (by decide) ?_
  refine lv_iload_n C.1.1 C.1.2.1 dL_most_106 rfl (lv_at hl 0 rfl) ?_
  refine fl_bipush C.1 dL_most_107 (by decide) ?_
  refine fl_icmp_ge (tgt := 150) C.1 (rgk 60 rfl) (rgk 61 rfl) dL_most_109 (by decide) (fun h => absurd h (by decide)) (fun _ => ?_)
  refine lv_aload_n C.1.1 C.1.2.1 dL_most_112 rfl (lv_at hl 1 rfl) ?_
  refine fl_bipush C.1 dL_most_113 (by decide) ?_
  refine lv_iload_n C.1.1 C.1.2.1 dL_most_115 rfl (lv_at hl 0 rfl) ?_
  refine fl_bipush C.1 dL_most_116 (by decide) ?_
  refine h_irem (z := 4) C.1 (by decide) (by decide) (by decide) dL_most_118 ?_
  refine lv_iload_n C.1.1 C.1.2.1 dL_most_119 rfl (lv_at hl 0 rfl) ?_
  refine fl_bipush C.1 dL_most_120 (by decide) ?_
  refine h_irem (z := 0) C.1 (by decide) (by decide) (by decide) dL_most_122 ?_
  refine fl_iconst C.1 dL_most_123 ?_
  refine k_act (v := (-7000003)) (S' := (gEb fB 60)) hst C ⟨(Nat.le_of_ble_eq_true rfl), (Nat.le_of_ble_eq_true rfl)⟩ hI hl.1 (rgk 8 rfl) (rgk 4 rfl) (rgk 0 rfl) (rgk 0 rfl) gE_full (Nat.le_of_ble_eq_true rfl) ⟨(Nat.le_of_ble_eq_true rfl), (Nat.le_of_ble_eq_true rfl)⟩ dL_most_124 (fun H locs hI _ => ?_)
  refine lv_iload_n C.1.1 C.1.2.1 dL_most_127 rfl (lv_at hl 0 rfl) ?_
  refine fl_bipush C.1 dL_most_128 (by decide) ?_
  refine fl_icmp_ge (tgt := 137) C.1 (rgk 60 rfl) (rgk 60 rfl) dL_most_130 (by decide) (fun _ => ?_) (fun h => absurd (by decide) h)
  refine fl_ldc (n := (-7000003)) C.1 aw_803 rfl dL_most_137 ?_
  refine fl_icmp_eq (tgt := 144) C.1 (rgk (-7000003) rfl) (rgk (-7000003) rfl) dL_most_139 (by decide) (fun _ => ?_) (fun h => absurd (by decide) h)
  refine fl_iinc (k := 0) (lv' := [(1, iv (wr (60 + 1))), (0, .ref x)]) C.1 dL_most_144 hl rfl (by decide) rfl (fun ls hl => ?_)
  rw [show wr (60 + 1) = (61 : Int) from by decide +kernel] at hl
  refine fl_goto (tgt := 106) C.1 dL_most_147 (by decide) ?_
  refine lv_iload_n C.1.1 C.1.2.1 dL_most_106 rfl (lv_at hl 0 rfl) ?_
  refine fl_bipush C.1 dL_most_107 (by decide) ?_
  refine fl_icmp_ge (tgt := 150) C.1 (rgk 61 rfl) (rgk 61 rfl) dL_most_109 (by decide) (fun _ => ?_) (fun h => absurd (by decide) h)
  refine fl_iconst C.1 dL_most_150 ?_
  refine lv_istore_n (lv' := [(1, iv 0), (0, .ref x)]) C.1.1 C.1.2.1 dL_most_151 rfl hl (by decide) rfl (fun ls hl => ?_)
  rw [← gJ0] at hI
  refine lv_iload_n C.1.1 C.1.2.1 dL_most_152 rfl (lv_at hl 0 rfl) ?_
  refine fl_bipush C.1 dL_most_153 (by decide) ?_
  refine fl_icmp_ge (tgt := 174) C.1 (rgk 0 rfl) (rgk 60 rfl) dL_most_155 (by decide) (fun h => absurd h (by decide)) (fun _ => ?_)
  refine lv_aload_n C.1.1 C.1.2.1 dL_most_158 rfl (lv_at hl 1 rfl) ?_
  refine j_judge (v := 0) (S' := (gJb fB 1)) C (by exact ⟨(Nat.le_of_ble_eq_true rfl), (Nat.le_of_ble_eq_true rfl)⟩) hI hl.1 (gJ_step (n := 0) (by decide)) (Nat.le_of_ble_eq_true rfl) ⟨(Nat.le_of_ble_eq_true rfl), (Nat.le_of_ble_eq_true rfl)⟩ dL_most_159 (fun H locs hI _ => ?_)
  refine lv_iload_n C.1.1 C.1.2.1 dL_most_162 rfl (lv_at hl 0 rfl) ?_
  refine fl_icmp_eq (tgt := 168) C.1 (rgk 0 rfl) (rgk 0 rfl) dL_most_163 (by decide) (fun _ => ?_) (fun h => absurd (by decide) h)
  refine fl_iinc (k := 0) (lv' := [(1, iv (wr (0 + 1))), (0, .ref x)]) C.1 dL_most_168 hl rfl (by decide) rfl (fun ls hl => ?_)
  rw [show wr (0 + 1) = (1 : Int) from by decide +kernel] at hl
  refine fl_goto (tgt := 152) C.1 dL_most_171 (by decide) ?_
  refine lv_iload_n C.1.1 C.1.2.1 dL_most_152 rfl (lv_at hl 0 rfl) ?_
  refine fl_bipush C.1 dL_most_153 (by decide) ?_
  refine fl_icmp_ge (tgt := 174) C.1 (rgk 1 rfl) (rgk 60 rfl) dL_most_155 (by decide) (fun h => absurd h (by decide)) (fun _ => ?_)
  refine lv_aload_n C.1.1 C.1.2.1 dL_most_158 rfl (lv_at hl 1 rfl) ?_
  refine j_judge (v := 1) (S' := (gJb fB 2)) C (by exact ⟨(Nat.le_of_ble_eq_true rfl), (Nat.le_of_ble_eq_true rfl)⟩) hI hl.1 (gJ_step (n := 1) (by decide)) (Nat.le_of_ble_eq_true rfl) ⟨(Nat.le_of_ble_eq_true rfl), (Nat.le_of_ble_eq_true rfl)⟩ dL_most_159 (fun H locs hI _ => ?_)
  refine lv_iload_n C.1.1 C.1.2.1 dL_most_162 rfl (lv_at hl 0 rfl) ?_
  refine fl_icmp_eq (tgt := 168) C.1 (rgk 1 rfl) (rgk 1 rfl) dL_most_163 (by decide) (fun _ => ?_) (fun h => absurd (by decide) h)
  exact W.widen (Nat.le_of_ble_eq_true rfl) (Nat.le_of_ble_eq_true rfl) (kk H locs ls hI hl)
set_option maxRecDepth 100000 in
set_option maxHeartbeats 4000000 in
theorem w_most_4 (hst : l.stackTraces = false) (C : LC p s m meth c D cy B cL_most 2) (kk : ∀ (H : Heap) (locs : List Loc) (ls : Array Slot), HI D cy B s.heap H locs x (gJb fB 26) → lv_has ls 2 [(1, iv 25), (0, .ref x)] → W p l e rm_L_most s m args below meth c H locs 778 167391 Q (F0 m 168 ls [])) : ∀ (H : Heap) (locs : List Loc) (ls : Array Slot), HI D cy B s.heap H locs x (gJb fB 2) → lv_has ls 2 [(1, iv 1), (0, .ref x)] → W p l e rm_L_most s m args below meth c H locs 778 167391 Q (F0 m 168 ls []) := by
  intro H locs ls hI hl
  refine fl_iinc (k := 0) (lv' := [(1, iv (wr (1 + 1))), (0, .ref x)]) C.1 dL_most_168 hl rfl (by decide) rfl (fun ls hl => ?_)
  rw [show wr (1 + 1) = (2 : Int) from by decide +kernel] at hl
  refine fl_goto (tgt := 152) C.1 dL_most_171 (by decide) ?_
  refine lv_iload_n C.1.1 C.1.2.1 dL_most_152 rfl (lv_at hl 0 rfl) ?_
  refine fl_bipush C.1 dL_most_153 (by decide) ?_
  refine fl_icmp_ge (tgt := 174) C.1 (rgk 2 rfl) (rgk 60 rfl) dL_most_155 (by decide) (fun h => absurd h (by decide)) (fun _ => ?_)
  refine lv_aload_n C.1.1 C.1.2.1 dL_most_158 rfl (lv_at hl 1 rfl) ?_
  refine j_judge (v := 2) (S' := (gJb fB 3)) C (by exact ⟨(Nat.le_of_ble_eq_true rfl), (Nat.le_of_ble_eq_true rfl)⟩) hI hl.1 (gJ_step (n := 2) (by decide)) (Nat.le_of_ble_eq_true rfl) ⟨(Nat.le_of_ble_eq_true rfl), (Nat.le_of_ble_eq_true rfl)⟩ dL_most_159 (fun H locs hI _ => ?_)
  refine lv_iload_n C.1.1 C.1.2.1 dL_most_162 rfl (lv_at hl 0 rfl) ?_
  refine fl_icmp_eq (tgt := 168) C.1 (rgk 2 rfl) (rgk 2 rfl) dL_most_163 (by decide) (fun _ => ?_) (fun h => absurd (by decide) h)
  refine fl_iinc (k := 0) (lv' := [(1, iv (wr (2 + 1))), (0, .ref x)]) C.1 dL_most_168 hl rfl (by decide) rfl (fun ls hl => ?_)
  rw [show wr (2 + 1) = (3 : Int) from by decide +kernel] at hl
  refine fl_goto (tgt := 152) C.1 dL_most_171 (by decide) ?_
  refine lv_iload_n C.1.1 C.1.2.1 dL_most_152 rfl (lv_at hl 0 rfl) ?_
  refine fl_bipush C.1 dL_most_153 (by decide) ?_
  refine fl_icmp_ge (tgt := 174) C.1 (rgk 3 rfl) (rgk 60 rfl) dL_most_155 (by decide) (fun h => absurd h (by decide)) (fun _ => ?_)
  refine lv_aload_n C.1.1 C.1.2.1 dL_most_158 rfl (lv_at hl 1 rfl) ?_
  refine j_judge (v := 3) (S' := (gJb fB 4)) C (by exact ⟨(Nat.le_of_ble_eq_true rfl), (Nat.le_of_ble_eq_true rfl)⟩) hI hl.1 (gJ_step (n := 3) (by decide)) (Nat.le_of_ble_eq_true rfl) ⟨(Nat.le_of_ble_eq_true rfl), (Nat.le_of_ble_eq_true rfl)⟩ dL_most_159 (fun H locs hI _ => ?_)
  refine lv_iload_n C.1.1 C.1.2.1 dL_most_162 rfl (lv_at hl 0 rfl) ?_
  refine fl_icmp_eq (tgt := 168) C.1 (rgk 3 rfl) (rgk 3 rfl) dL_most_163 (by decide) (fun _ => ?_) (fun h => absurd (by decide) h)
  refine fl_iinc (k := 0) (lv' := [(1, iv (wr (3 + 1))), (0, .ref x)]) C.1 dL_most_168 hl rfl (by decide) rfl (fun ls hl => ?_)
  rw [show wr (3 + 1) = (4 : Int) from by decide +kernel] at hl
  refine fl_goto (tgt := 152) C.1 dL_most_171 (by decide) ?_
  refine lv_iload_n C.1.1 C.1.2.1 dL_most_152 rfl (lv_at hl 0 rfl) ?_
  refine fl_bipush C.1 dL_most_153 (by decide) ?_
  refine fl_icmp_ge (tgt := 174) C.1 (rgk 4 rfl) (rgk 60 rfl) dL_most_155 (by decide) (fun h => absurd h (by decide)) (fun _ => ?_)
  refine lv_aload_n C.1.1 C.1.2.1 dL_most_158 rfl (lv_at hl 1 rfl) ?_
  refine j_judge (v := 4) (S' := (gJb fB 5)) C (by exact ⟨(Nat.le_of_ble_eq_true rfl), (Nat.le_of_ble_eq_true rfl)⟩) hI hl.1 (gJ_step (n := 4) (by decide)) (Nat.le_of_ble_eq_true rfl) ⟨(Nat.le_of_ble_eq_true rfl), (Nat.le_of_ble_eq_true rfl)⟩ dL_most_159 (fun H locs hI _ => ?_)
  refine lv_iload_n C.1.1 C.1.2.1 dL_most_162 rfl (lv_at hl 0 rfl) ?_
  refine fl_icmp_eq (tgt := 168) C.1 (rgk 4 rfl) (rgk 4 rfl) dL_most_163 (by decide) (fun _ => ?_) (fun h => absurd (by decide) h)
  refine fl_iinc (k := 0) (lv' := [(1, iv (wr (4 + 1))), (0, .ref x)]) C.1 dL_most_168 hl rfl (by decide) rfl (fun ls hl => ?_)
  rw [show wr (4 + 1) = (5 : Int) from by decide +kernel] at hl
  refine fl_goto (tgt := 152) C.1 dL_most_171 (by decide) ?_
  refine lv_iload_n C.1.1 C.1.2.1 dL_most_152 rfl (lv_at hl 0 rfl) ?_
  refine fl_bipush C.1 dL_most_153 (by decide) ?_
  refine fl_icmp_ge (tgt := 174) C.1 (rgk 5 rfl) (rgk 60 rfl) dL_most_155 (by decide) (fun h => absurd h (by decide)) (fun _ => ?_)
  refine lv_aload_n C.1.1 C.1.2.1 dL_most_158 rfl (lv_at hl 1 rfl) ?_
  refine j_judge (v := 5) (S' := (gJb fB 6)) C (by exact ⟨(Nat.le_of_ble_eq_true rfl), (Nat.le_of_ble_eq_true rfl)⟩) hI hl.1 (gJ_step (n := 5) (by decide)) (Nat.le_of_ble_eq_true rfl) ⟨(Nat.le_of_ble_eq_true rfl), (Nat.le_of_ble_eq_true rfl)⟩ dL_most_159 (fun H locs hI _ => ?_)
  refine lv_iload_n C.1.1 C.1.2.1 dL_most_162 rfl (lv_at hl 0 rfl) ?_
  refine fl_icmp_eq (tgt := 168) C.1 (rgk 5 rfl) (rgk 5 rfl) dL_most_163 (by decide) (fun _ => ?_) (fun h => absurd (by decide) h)
  refine fl_iinc (k := 0) (lv' := [(1, iv (wr (5 + 1))), (0, .ref x)]) C.1 dL_most_168 hl rfl (by decide) rfl (fun ls hl => ?_)
  rw [show wr (5 + 1) = (6 : Int) from by decide +kernel] at hl
  refine fl_goto (tgt := 152) C.1 dL_most_171 (by decide) ?_
  refine lv_iload_n C.1.1 C.1.2.1 dL_most_152 rfl (lv_at hl 0 rfl) ?_
  refine fl_bipush C.1 dL_most_153 (by decide) ?_
  refine fl_icmp_ge (tgt := 174) C.1 (rgk 6 rfl) (rgk 60 rfl) dL_most_155 (by decide) (fun h => absurd h (by decide)) (fun _ => ?_)
  refine lv_aload_n C.1.1 C.1.2.1 dL_most_158 rfl (lv_at hl 1 rfl) ?_
  refine j_judge (v := 6) (S' := (gJb fB 7)) C (by exact ⟨(Nat.le_of_ble_eq_true rfl), (Nat.le_of_ble_eq_true rfl)⟩) hI hl.1 (gJ_step (n := 6) (by decide)) (Nat.le_of_ble_eq_true rfl) ⟨(Nat.le_of_ble_eq_true rfl), (Nat.le_of_ble_eq_true rfl)⟩ dL_most_159 (fun H locs hI _ => ?_)
  refine lv_iload_n C.1.1 C.1.2.1 dL_most_162 rfl (lv_at hl 0 rfl) ?_
  refine fl_icmp_eq (tgt := 168) C.1 (rgk 6 rfl) (rgk 6 rfl) dL_most_163 (by decide) (fun _ => ?_) (fun h => absurd (by decide) h)
  refine fl_iinc (k := 0) (lv' := [(1, iv (wr (6 + 1))), (0, .ref x)]) C.1 dL_most_168 hl rfl (by decide) rfl (fun ls hl => ?_)
  rw [show wr (6 + 1) = (7 : Int) from by decide +kernel] at hl
  refine fl_goto (tgt := 152) C.1 dL_most_171 (by decide) ?_
  refine lv_iload_n C.1.1 C.1.2.1 dL_most_152 rfl (lv_at hl 0 rfl) ?_
  refine fl_bipush C.1 dL_most_153 (by decide) ?_
  refine fl_icmp_ge (tgt := 174) C.1 (rgk 7 rfl) (rgk 60 rfl) dL_most_155 (by decide) (fun h => absurd h (by decide)) (fun _ => ?_)
  refine lv_aload_n C.1.1 C.1.2.1 dL_most_158 rfl (lv_at hl 1 rfl) ?_
  refine j_judge (v := 7) (S' := (gJb fB 8)) C (by exact ⟨(Nat.le_of_ble_eq_true rfl), (Nat.le_of_ble_eq_true rfl)⟩) hI hl.1 (gJ_step (n := 7) (by decide)) (Nat.le_of_ble_eq_true rfl) ⟨(Nat.le_of_ble_eq_true rfl), (Nat.le_of_ble_eq_true rfl)⟩ dL_most_159 (fun H locs hI _ => ?_)
  refine lv_iload_n C.1.1 C.1.2.1 dL_most_162 rfl (lv_at hl 0 rfl) ?_
  refine fl_icmp_eq (tgt := 168) C.1 (rgk 7 rfl) (rgk 7 rfl) dL_most_163 (by decide) (fun _ => ?_) (fun h => absurd (by decide) h)
  refine fl_iinc (k := 0) (lv' := [(1, iv (wr (7 + 1))), (0, .ref x)]) C.1 dL_most_168 hl rfl (by decide) rfl (fun ls hl => ?_)
  rw [show wr (7 + 1) = (8 : Int) from by decide +kernel] at hl
  refine fl_goto (tgt := 152) C.1 dL_most_171 (by decide) ?_
  refine lv_iload_n C.1.1 C.1.2.1 dL_most_152 rfl (lv_at hl 0 rfl) ?_
  refine fl_bipush C.1 dL_most_153 (by decide) ?_
  refine fl_icmp_ge (tgt := 174) C.1 (rgk 8 rfl) (rgk 60 rfl) dL_most_155 (by decide) (fun h => absurd h (by decide)) (fun _ => ?_)
  refine lv_aload_n C.1.1 C.1.2.1 dL_most_158 rfl (lv_at hl 1 rfl) ?_
  refine j_judge (v := 8) (S' := (gJb fB 9)) C (by exact ⟨(Nat.le_of_ble_eq_true rfl), (Nat.le_of_ble_eq_true rfl)⟩) hI hl.1 (gJ_step (n := 8) (by decide)) (Nat.le_of_ble_eq_true rfl) ⟨(Nat.le_of_ble_eq_true rfl), (Nat.le_of_ble_eq_true rfl)⟩ dL_most_159 (fun H locs hI _ => ?_)
  refine lv_iload_n C.1.1 C.1.2.1 dL_most_162 rfl (lv_at hl 0 rfl) ?_
  refine fl_icmp_eq (tgt := 168) C.1 (rgk 8 rfl) (rgk 8 rfl) dL_most_163 (by decide) (fun _ => ?_) (fun h => absurd (by decide) h)
  refine fl_iinc (k := 0) (lv' := [(1, iv (wr (8 + 1))), (0, .ref x)]) C.1 dL_most_168 hl rfl (by decide) rfl (fun ls hl => ?_)
  rw [show wr (8 + 1) = (9 : Int) from by decide +kernel] at hl
  refine fl_goto (tgt := 152) C.1 dL_most_171 (by decide) ?_
  refine lv_iload_n C.1.1 C.1.2.1 dL_most_152 rfl (lv_at hl 0 rfl) ?_
  refine fl_bipush C.1 dL_most_153 (by decide) ?_
  refine fl_icmp_ge (tgt := 174) C.1 (rgk 9 rfl) (rgk 60 rfl) dL_most_155 (by decide) (fun h => absurd h (by decide)) (fun _ => ?_)
  refine lv_aload_n C.1.1 C.1.2.1 dL_most_158 rfl (lv_at hl 1 rfl) ?_
  refine j_judge (v := 9) (S' := (gJb fB 10)) C (by exact ⟨(Nat.le_of_ble_eq_true rfl), (Nat.le_of_ble_eq_true rfl)⟩) hI hl.1 (gJ_step (n := 9) (by decide)) (Nat.le_of_ble_eq_true rfl) ⟨(Nat.le_of_ble_eq_true rfl), (Nat.le_of_ble_eq_true rfl)⟩ dL_most_159 (fun H locs hI _ => ?_)
  refine lv_iload_n C.1.1 C.1.2.1 dL_most_162 rfl (lv_at hl 0 rfl) ?_
  refine fl_icmp_eq (tgt := 168) C.1 (rgk 9 rfl) (rgk 9 rfl) dL_most_163 (by decide) (fun _ => ?_) (fun h => absurd (by decide) h)
  refine fl_iinc (k := 0) (lv' := [(1, iv (wr (9 + 1))), (0, .ref x)]) C.1 dL_most_168 hl rfl (by decide) rfl (fun ls hl => ?_)
  rw [show wr (9 + 1) = (10 : Int) from by decide +kernel] at hl
  refine fl_goto (tgt := 152) C.1 dL_most_171 (by decide) ?_
  refine lv_iload_n C.1.1 C.1.2.1 dL_most_152 rfl (lv_at hl 0 rfl) ?_
  refine fl_bipush C.1 dL_most_153 (by decide) ?_
  refine fl_icmp_ge (tgt := 174) C.1 (rgk 10 rfl) (rgk 60 rfl) dL_most_155 (by decide) (fun h => absurd h (by decide)) (fun _ => ?_)
  refine lv_aload_n C.1.1 C.1.2.1 dL_most_158 rfl (lv_at hl 1 rfl) ?_
  refine j_judge (v := 10) (S' := (gJb fB 11)) C (by exact ⟨(Nat.le_of_ble_eq_true rfl), (Nat.le_of_ble_eq_true rfl)⟩) hI hl.1 (gJ_step (n := 10) (by decide)) (Nat.le_of_ble_eq_true rfl) ⟨(Nat.le_of_ble_eq_true rfl), (Nat.le_of_ble_eq_true rfl)⟩ dL_most_159 (fun H locs hI _ => ?_)
  refine lv_iload_n C.1.1 C.1.2.1 dL_most_162 rfl (lv_at hl 0 rfl) ?_
  refine fl_icmp_eq (tgt := 168) C.1 (rgk 10 rfl) (rgk 10 rfl) dL_most_163 (by decide) (fun _ => ?_) (fun h => absurd (by decide) h)
  refine fl_iinc (k := 0) (lv' := [(1, iv (wr (10 + 1))), (0, .ref x)]) C.1 dL_most_168 hl rfl (by decide) rfl (fun ls hl => ?_)
  rw [show wr (10 + 1) = (11 : Int) from by decide +kernel] at hl
  refine fl_goto (tgt := 152) C.1 dL_most_171 (by decide) ?_
  refine lv_iload_n C.1.1 C.1.2.1 dL_most_152 rfl (lv_at hl 0 rfl) ?_
  refine fl_bipush C.1 dL_most_153 (by decide) ?_
  refine fl_icmp_ge (tgt := 174) C.1 (rgk 11 rfl) (rgk 60 rfl) dL_most_155 (by decide) (fun h => absurd h (by decide)) (fun _ => ?_)
  refine lv_aload_n C.1.1 C.1.2.1 dL_most_158 rfl (lv_at hl 1 rfl) ?_
  refine j_judge (v := 11) (S' := (gJb fB 12)) C (by exact ⟨(Nat.le_of_ble_eq_true rfl), (Nat.le_of_ble_eq_true rfl)⟩) hI hl.1 (gJ_step (n := 11) (by decide)) (Nat.le_of_ble_eq_true rfl) ⟨(Nat.le_of_ble_eq_true rfl), (Nat.le_of_ble_eq_true rfl)⟩ dL_most_159 (fun H locs hI _ => ?_)
  refine lv_iload_n C.1.1 C.1.2.1 dL_most_162 rfl (lv_at hl 0 rfl) ?_
  refine fl_icmp_eq (tgt := 168) C.1 (rgk 11 rfl) (rgk 11 rfl) dL_most_163 (by decide) (fun _ => ?_) (fun h => absurd (by decide) h)
  refine fl_iinc (k := 0) (lv' := [(1, iv (wr (11 + 1))), (0, .ref x)]) C.1 dL_most_168 hl rfl (by decide) rfl (fun ls hl => ?_)
  rw [show wr (11 + 1) = (12 : Int) from by decide +kernel] at hl
  refine fl_goto (tgt := 152) C.1 dL_most_171 (by decide) ?_
  refine lv_iload_n C.1.1 C.1.2.1 dL_most_152 rfl (lv_at hl 0 rfl) ?_
  refine fl_bipush C.1 dL_most_153 (by decide) ?_
  refine fl_icmp_ge (tgt := 174) C.1 (rgk 12 rfl) (rgk 60 rfl) dL_most_155 (by decide) (fun h => absurd h (by decide)) (fun _ => ?_)
  refine lv_aload_n C.1.1 C.1.2.1 dL_most_158 rfl (lv_at hl 1 rfl) ?_
  refine j_judge (v := 12) (S' := (gJb fB 13)) C (by exact ⟨(Nat.le_of_ble_eq_true rfl), (Nat.le_of_ble_eq_true rfl)⟩) hI hl.1 (gJ_step (n := 12) (by decide)) (Nat.le_of_ble_eq_true rfl) ⟨(Nat.le_of_ble_eq_true rfl), (Nat.le_of_ble_eq_true rfl)⟩ dL_most_159 (fun H locs hI _ => ?_)
  refine lv_iload_n C.1.1 C.1.2.1 dL_most_162 rfl (lv_at hl 0 rfl) ?_
  refine fl_icmp_eq (tgt := 168) C.1 (rgk 12 rfl) (rgk 12 rfl) dL_most_163 (by decide) (fun _ => ?_) (fun h => absurd (by decide) h)
  refine fl_iinc (k := 0) (lv' := [(1, iv (wr (12 + 1))), (0, .ref x)]) C.1 dL_most_168 hl rfl (by decide) rfl (fun ls hl => ?_)
  rw [show wr (12 + 1) = (13 : Int) from by decide +kernel] at hl
  refine fl_goto (tgt := 152) C.1 dL_most_171 (by decide) ?_
  refine lv_iload_n C.1.1 C.1.2.1 dL_most_152 rfl (lv_at hl 0 rfl) ?_
  refine fl_bipush C.1 dL_most_153 (by decide) ?_
  refine fl_icmp_ge (tgt := 174) C.1 (rgk 13 rfl) (rgk 60 rfl) dL_most_155 (by decide) (fun h => absurd h (by decide)) (fun _ => ?_)
  refine lv_aload_n C.1.1 C.1.2.1 dL_most_158 rfl (lv_at hl 1 rfl) ?_
  refine j_judge (v := 13) (S' := (gJb fB 14)) C (by exact ⟨(Nat.le_of_ble_eq_true rfl), (Nat.le_of_ble_eq_true rfl)⟩) hI hl.1 (gJ_step (n := 13) (by decide)) (Nat.le_of_ble_eq_true rfl) ⟨(Nat.le_of_ble_eq_true rfl), (Nat.le_of_ble_eq_true rfl)⟩ dL_most_159 (fun H locs hI _ => ?_)
  refine lv_iload_n C.1.1 C.1.2.1 dL_most_162 rfl (lv_at hl 0 rfl) ?_
  refine fl_icmp_eq (tgt := 168) C.1 (rgk 13 rfl) (rgk 13 rfl) dL_most_163 (by decide) (fun _ => ?_) (fun h => absurd (by decide) h)
  refine fl_iinc (k := 0) (lv' := [(1, iv (wr (13 + 1))), (0, .ref x)]) C.1 dL_most_168 hl rfl (by decide) rfl (fun ls hl => ?_)
  rw [show wr (13 + 1) = (14 : Int) from by decide +kernel] at hl
  refine fl_goto (tgt := 152) C.1 dL_most_171 (by decide) ?_
  refine lv_iload_n C.1.1 C.1.2.1 dL_most_152 rfl (lv_at hl 0 rfl) ?_
  refine fl_bipush C.1 dL_most_153 (by decide) ?_
  refine fl_icmp_ge (tgt := 174) C.1 (rgk 14 rfl) (rgk 60 rfl) dL_most_155 (by decide) (fun h => absurd h (by decide)) (fun _ => ?_)
  refine lv_aload_n C.1.1 C.1.2.1 dL_most_158 rfl (lv_at hl 1 rfl) ?_
  refine j_judge (v := 14) (S' := (gJb fB 15)) C (by exact ⟨(Nat.le_of_ble_eq_true rfl), (Nat.le_of_ble_eq_true rfl)⟩) hI hl.1 (gJ_step (n := 14) (by decide)) (Nat.le_of_ble_eq_true rfl) ⟨(Nat.le_of_ble_eq_true rfl), (Nat.le_of_ble_eq_true rfl)⟩ dL_most_159 (fun H locs hI _ => ?_)
  refine lv_iload_n C.1.1 C.1.2.1 dL_most_162 rfl (lv_at hl 0 rfl) ?_
  refine fl_icmp_eq (tgt := 168) C.1 (rgk 14 rfl) (rgk 14 rfl) dL_most_163 (by decide) (fun _ => ?_) (fun h => absurd (by decide) h)
  refine fl_iinc (k := 0) (lv' := [(1, iv (wr (14 + 1))), (0, .ref x)]) C.1 dL_most_168 hl rfl (by decide) rfl (fun ls hl => ?_)
  rw [show wr (14 + 1) = (15 : Int) from by decide +kernel] at hl
  refine fl_goto (tgt := 152) C.1 dL_most_171 (by decide) ?_
  refine lv_iload_n C.1.1 C.1.2.1 dL_most_152 rfl (lv_at hl 0 rfl) ?_
  refine fl_bipush C.1 dL_most_153 (by decide) ?_
  refine fl_icmp_ge (tgt := 174) C.1 (rgk 15 rfl) (rgk 60 rfl) dL_most_155 (by decide) (fun h => absurd h (by decide)) (fun _ => ?_)
  refine lv_aload_n C.1.1 C.1.2.1 dL_most_158 rfl (lv_at hl 1 rfl) ?_
  refine j_judge (v := 15) (S' := (gJb fB 16)) C (by exact ⟨(Nat.le_of_ble_eq_true rfl), (Nat.le_of_ble_eq_true rfl)⟩) hI hl.1 (gJ_step (n := 15) (by decide)) (Nat.le_of_ble_eq_true rfl) ⟨(Nat.le_of_ble_eq_true rfl), (Nat.le_of_ble_eq_true rfl)⟩ dL_most_159 (fun H locs hI _ => ?_)
  refine lv_iload_n C.1.1 C.1.2.1 dL_most_162 rfl (lv_at hl 0 rfl) ?_
  refine fl_icmp_eq (tgt := 168) C.1 (rgk 15 rfl) (rgk 15 rfl) dL_most_163 (by decide) (fun _ => ?_) (fun h => absurd (by decide) h)
  refine fl_iinc (k := 0) (lv' := [(1, iv (wr (15 + 1))), (0, .ref x)]) C.1 dL_most_168 hl rfl (by decide) rfl (fun ls hl => ?_)
  rw [show wr (15 + 1) = (16 : Int) from by decide +kernel] at hl
  refine fl_goto (tgt := 152) C.1 dL_most_171 (by decide) ?_
  refine lv_iload_n C.1.1 C.1.2.1 dL_most_152 rfl (lv_at hl 0 rfl) ?_
  refine fl_bipush C.1 dL_most_153 (by decide) ?_
  refine fl_icmp_ge (tgt := 174) C.1 (rgk 16 rfl) (rgk 60 rfl) dL_most_155 (by decide) (fun h => absurd h (by decide)) (fun _ => ?_)
  refine lv_aload_n C.1.1 C.1.2.1 dL_most_158 rfl (lv_at hl 1 rfl) ?_
  refine j_judge (v := 16) (S' := (gJb fB 17)) C (by exact ⟨(Nat.le_of_ble_eq_true rfl), (Nat.le_of_ble_eq_true rfl)⟩) hI hl.1 (gJ_step (n := 16) (by decide)) (Nat.le_of_ble_eq_true rfl) ⟨(Nat.le_of_ble_eq_true rfl), (Nat.le_of_ble_eq_true rfl)⟩ dL_most_159 (fun H locs hI _ => ?_)
  refine lv_iload_n C.1.1 C.1.2.1 dL_most_162 rfl (lv_at hl 0 rfl) ?_
  refine fl_icmp_eq (tgt := 168) C.1 (rgk 16 rfl) (rgk 16 rfl) dL_most_163 (by decide) (fun _ => ?_) (fun h => absurd (by decide) h)
  refine fl_iinc (k := 0) (lv' := [(1, iv (wr (16 + 1))), (0, .ref x)]) C.1 dL_most_168 hl rfl (by decide) rfl (fun ls hl => ?_)
  rw [show wr (16 + 1) = (17 : Int) from by decide +kernel] at hl
  refine fl_goto (tgt := 152) C.1 dL_most_171 (by decide) ?_
  refine lv_iload_n C.1.1 C.1.2.1 dL_most_152 rfl (lv_at hl 0 rfl) ?_
  refine fl_bipush C.1 dL_most_153 (by decide) ?_
  refine fl_icmp_ge (tgt := 174) C.1 (rgk 17 rfl) (rgk 60 rfl) dL_most_155 (by decide) (fun h => absurd h (by decide)) (fun _ => ?_)
  refine lv_aload_n C.1.1 C.1.2.1 dL_most_158 rfl (lv_at hl 1 rfl) ?_
  refine j_judge (v := 17) (S' := (gJb fB 18)) C (by exact ⟨(Nat.le_of_ble_eq_true rfl), (Nat.le_of_ble_eq_true rfl)⟩) hI hl.1 (gJ_step (n := 17) (by decide)) (Nat.le_of_ble_eq_true rfl) ⟨(Nat.le_of_ble_eq_true rfl), (Nat.le_of_ble_eq_true rfl)⟩ dL_most_159 (fun H locs hI _ => ?_)
  refine lv_iload_n C.1.1 C.1.2.1 dL_most_162 rfl (lv_at hl 0 rfl) ?_
  refine fl_icmp_eq (tgt := 168) C.1 (rgk 17 rfl) (rgk 17 rfl) dL_most_163 (by decide) (fun _ => ?_) (fun h => absurd (by decide) h)
  refine fl_iinc (k := 0) (lv' := [(1, iv (wr (17 + 1))), (0, .ref x)]) C.1 dL_most_168 hl rfl (by decide) rfl (fun ls hl => ?_)
  rw [show wr (17 + 1) = (18 : Int) from by decide +kernel] at hl
  refine fl_goto (tgt := 152) C.1 dL_most_171 (by decide) ?_
  refine lv_iload_n C.1.1 C.1.2.1 dL_most_152 rfl (lv_at hl 0 rfl) ?_
  refine fl_bipush C.1 dL_most_153 (by decide) ?_
  refine fl_icmp_ge (tgt := 174) C.1 (rgk 18 rfl) (rgk 60 rfl) dL_most_155 (by decide) (fun h => absurd h (by decide)) (fun _ => ?_)
  refine lv_aload_n C.1.1 C.1.2.1 dL_most_158 rfl (lv_at hl 1 rfl) ?_
  refine j_judge (v := 18) (S' := (gJb fB 19)) C (by exact ⟨(Nat.le_of_ble_eq_true rfl), (Nat.le_of_ble_eq_true rfl)⟩) hI hl.1 (gJ_step (n := 18) (by decide)) (Nat.le_of_ble_eq_true rfl) ⟨(Nat.le_of_ble_eq_true rfl), (Nat.le_of_ble_eq_true rfl)⟩ dL_most_159 (fun H locs hI _ => ?_)
  refine lv_iload_n C.1.1 C.1.2.1 dL_most_162 rfl (lv_at hl 0 rfl) ?_
  refine fl_icmp_eq (tgt := 168) C.1 (rgk 18 rfl) (rgk 18 rfl) dL_most_163 (by decide) (fun _ => ?_) (fun h => absurd (by decide) h)
  refine fl_iinc (k := 0) (lv' := [(1, iv (wr (18 + 1))), (0, .ref x)]) C.1 dL_most_168 hl rfl (by decide) rfl (fun ls hl => ?_)
  rw [show wr (18 + 1) = (19 : Int) from by decide +kernel] at hl
  refine fl_goto (tgt := 152) C.1 dL_most_171 (by decide) ?_
  refine lv_iload_n C.1.1 C.1.2.1 dL_most_152 rfl (lv_at hl 0 rfl) ?_
  refine fl_bipush C.1 dL_most_153 (by decide) ?_
  refine fl_icmp_ge (tgt := 174) C.1 (rgk 19 rfl) (rgk 60 rfl) dL_most_155 (by decide) (fun h => absurd h (by decide)) (fun _ => ?_)
  refine lv_aload_n C.1.1 C.1.2.1 dL_most_158 rfl (lv_at hl 1 rfl) ?_
  refine j_judge (v := 19) (S' := (gJb fB 20)) C (by exact ⟨(Nat.le_of_ble_eq_true rfl), (Nat.le_of_ble_eq_true rfl)⟩) hI hl.1 (gJ_step (n := 19) (by decide)) (Nat.le_of_ble_eq_true rfl) ⟨(Nat.le_of_ble_eq_true rfl), (Nat.le_of_ble_eq_true rfl)⟩ dL_most_159 (fun H locs hI _ => ?_)
  refine lv_iload_n C.1.1 C.1.2.1 dL_most_162 rfl (lv_at hl 0 rfl) ?_
  refine fl_icmp_eq (tgt := 168) C.1 (rgk 19 rfl) (rgk 19 rfl) dL_most_163 (by decide) (fun _ => ?_) (fun h => absurd (by decide) h)
  refine fl_iinc (k := 0) (lv' := [(1, iv (wr (19 + 1))), (0, .ref x)]) C.1 dL_most_168 hl rfl (by decide) rfl (fun ls hl => ?_)
  rw [show wr (19 + 1) = (20 : Int) from by decide +kernel] at hl
  refine fl_goto (tgt := 152) C.1 dL_most_171 (by decide) ?_
  refine lv_iload_n C.1.1 C.1.2.1 dL_most_152 rfl (lv_at hl 0 rfl) ?_
  refine fl_bipush C.1 dL_most_153 (by decide) ?_
  refine fl_icmp_ge (tgt := 174) C.1 (rgk 20 rfl) (rgk 60 rfl) dL_most_155 (by decide) (fun h => absurd h (by decide)) (fun _ => ?_)
  refine lv_aload_n C.1.1 C.1.2.1 dL_most_158 rfl (lv_at hl 1 rfl) ?_
  refine j_judge (v := 20) (S' := (gJb fB 21)) C (by exact ⟨(Nat.le_of_ble_eq_true rfl), (Nat.le_of_ble_eq_true rfl)⟩) hI hl.1 (gJ_step (n := 20) (by decide)) (Nat.le_of_ble_eq_true rfl) ⟨(Nat.le_of_ble_eq_true rfl), (Nat.le_of_ble_eq_true rfl)⟩ dL_most_159 (fun H locs hI _ => ?_)
  refine lv_iload_n C.1.1 C.1.2.1 dL_most_162 rfl (lv_at hl 0 rfl) ?_
  refine fl_icmp_eq (tgt := 168) C.1 (rgk 20 rfl) (rgk 20 rfl) dL_most_163 (by decide) (fun _ => ?_) (fun h => absurd (by decide) h)
  refine fl_iinc (k := 0) (lv' := [(1, iv (wr (20 + 1))), (0, .ref x)]) C.1 dL_most_168 hl rfl (by decide) rfl (fun ls hl => ?_)
  rw [show wr (20 + 1) = (21 : Int) from by decide +kernel] at hl
  refine fl_goto (tgt := 152) C.1 dL_most_171 (by decide) ?_
  refine lv_iload_n C.1.1 C.1.2.1 dL_most_152 rfl (lv_at hl 0 rfl) ?_
  refine fl_bipush C.1 dL_most_153 (by decide) ?_
  refine fl_icmp_ge (tgt := 174) C.1 (rgk 21 rfl) (rgk 60 rfl) dL_most_155 (by decide) (fun h => absurd h (by decide)) (fun _ => ?_)
  refine lv_aload_n C.1.1 C.1.2.1 dL_most_158 rfl (lv_at hl 1 rfl) ?_
  refine j_judge (v := 21) (S' := (gJb fB 22)) C (by exact ⟨(Nat.le_of_ble_eq_true rfl), (Nat.le_of_ble_eq_true rfl)⟩) hI hl.1 (gJ_step (n := 21) (by decide)) (Nat.le_of_ble_eq_true rfl) ⟨(Nat.le_of_ble_eq_true rfl), (Nat.le_of_ble_eq_true rfl)⟩ dL_most_159 (fun H locs hI _ => ?_)
  refine lv_iload_n C.1.1 C.1.2.1 dL_most_162 rfl (lv_at hl 0 rfl) ?_
  refine fl_icmp_eq (tgt := 168) C.1 (rgk 21 rfl) (rgk 21 rfl) dL_most_163 (by decide) (fun _ => ?_) (fun h => absurd (by decide) h)
  refine fl_iinc (k := 0) (lv' := [(1, iv (wr (21 + 1))), (0, .ref x)]) C.1 dL_most_168 hl rfl (by decide) rfl (fun ls hl => ?_)
  rw [show wr (21 + 1) = (22 : Int) from by decide +kernel] at hl
  refine fl_goto (tgt := 152) C.1 dL_most_171 (by decide) ?_
  refine lv_iload_n C.1.1 C.1.2.1 dL_most_152 rfl (lv_at hl 0 rfl) ?_
  refine fl_bipush C.1 dL_most_153 (by decide) ?_
  refine fl_icmp_ge (tgt := 174) C.1 (rgk 22 rfl) (rgk 60 rfl) dL_most_155 (by decide) (fun h => absurd h (by decide)) (fun _ => ?_)
  refine lv_aload_n C.1.1 C.1.2.1 dL_most_158 rfl (lv_at hl 1 rfl) ?_
  refine j_judge (v := 22) (S' := (gJb fB 23)) C (by exact ⟨(Nat.le_of_ble_eq_true rfl), (Nat.le_of_ble_eq_true rfl)⟩) hI hl.1 (gJ_step (n := 22) (by decide)) (Nat.le_of_ble_eq_true rfl) ⟨(Nat.le_of_ble_eq_true rfl), (Nat.le_of_ble_eq_true rfl)⟩ dL_most_159 (fun H locs hI _ => ?_)
  refine lv_iload_n C.1.1 C.1.2.1 dL_most_162 rfl (lv_at hl 0 rfl) ?_
  refine fl_icmp_eq (tgt := 168) C.1 (rgk 22 rfl) (rgk 22 rfl) dL_most_163 (by decide) (fun _ => ?_) (fun h => absurd (by decide) h)
  refine fl_iinc (k := 0) (lv' := [(1, iv (wr (22 + 1))), (0, .ref x)]) C.1 dL_most_168 hl rfl (by decide) rfl (fun ls hl => ?_)
  rw [show wr (22 + 1) = (23 : Int) from by decide +kernel] at hl
  refine fl_goto (tgt := 152) C.1 dL_most_171 (by decide) ?_
  refine lv_iload_n C.1.1 C.1.2.1 dL_most_152 rfl (lv_at hl 0 rfl) ?_
  refine fl_bipush C.1 dL_most_153 (by decide) ?_
  refine fl_icmp_ge (tgt := 174) C.1 (rgk 23 rfl) (rgk 60 rfl) dL_most_155 (by decide) (fun h => absurd h (by decide)) (fun _ => ?_)
  refine lv_aload_n C.1.1 C.1.2.1 dL_most_158 rfl (lv_at hl 1 rfl) ?_
  refine j_judge (v := 23) (S' := (gJb fB 24)) C (by exact ⟨(Nat.le_of_ble_eq_true rfl), (Nat.le_of_ble_eq_true rfl)⟩) hI hl.1 (gJ_step (n := 23) (by decide)) (Nat.le_of_ble_eq_true rfl) ⟨(Nat.le_of_ble_eq_true rfl), (Nat.le_of_ble_eq_true rfl)⟩ dL_most_159 (fun H locs hI _ => ?_)
  refine lv_iload_n C.1.1 C.1.2.1 dL_most_162 rfl (lv_at hl 0 rfl) ?_
  refine fl_icmp_eq (tgt := 168) C.1 (rgk 23 rfl) (rgk 23 rfl) dL_most_163 (by decide) (fun _ => ?_) (fun h => absurd (by decide) h)
  refine fl_iinc (k := 0) (lv' := [(1, iv (wr (23 + 1))), (0, .ref x)]) C.1 dL_most_168 hl rfl (by decide) rfl (fun ls hl => ?_)
  rw [show wr (23 + 1) = (24 : Int) from by decide +kernel] at hl
  refine fl_goto (tgt := 152) C.1 dL_most_171 (by decide) ?_
  refine lv_iload_n C.1.1 C.1.2.1 dL_most_152 rfl (lv_at hl 0 rfl) ?_
  refine fl_bipush C.1 dL_most_153 (by decide) ?_
  refine fl_icmp_ge (tgt := 174) C.1 (rgk 24 rfl) (rgk 60 rfl) dL_most_155 (by decide) (fun h => absurd h (by decide)) (fun _ => ?_)
  refine lv_aload_n C.1.1 C.1.2.1 dL_most_158 rfl (lv_at hl 1 rfl) ?_
  refine j_judge (v := 24) (S' := (gJb fB 25)) C (by exact ⟨(Nat.le_of_ble_eq_true rfl), (Nat.le_of_ble_eq_true rfl)⟩) hI hl.1 (gJ_step (n := 24) (by decide)) (Nat.le_of_ble_eq_true rfl) ⟨(Nat.le_of_ble_eq_true rfl), (Nat.le_of_ble_eq_true rfl)⟩ dL_most_159 (fun H locs hI _ => ?_)
  refine lv_iload_n C.1.1 C.1.2.1 dL_most_162 rfl (lv_at hl 0 rfl) ?_
  refine fl_icmp_eq (tgt := 168) C.1 (rgk 24 rfl) (rgk 24 rfl) dL_most_163 (by decide) (fun _ => ?_) (fun h => absurd (by decide) h)
  refine fl_iinc (k := 0) (lv' := [(1, iv (wr (24 + 1))), (0, .ref x)]) C.1 dL_most_168 hl rfl (by decide) rfl (fun ls hl => ?_)
  rw [show wr (24 + 1) = (25 : Int) from by decide +kernel] at hl
  refine fl_goto (tgt := 152) C.1 dL_most_171 (by decide) ?_
  refine lv_iload_n C.1.1 C.1.2.1 dL_most_152 rfl (lv_at hl 0 rfl) ?_
  refine fl_bipush C.1 dL_most_153 (by decide) ?_
  refine fl_icmp_ge (tgt := 174) C.1 (rgk 25 rfl) (rgk 60 rfl) dL_most_155 (by decide) (fun h => absurd h (by decide)) (fun _ => ?_)
  refine lv_aload_n C.1.1 C.1.2.1 dL_most_158 rfl (lv_at hl 1 rfl) ?_
  refine j_judge (v := 25) (S' := (gJb fB 26)) C (by exact ⟨(Nat.le_of_ble_eq_true rfl), (Nat.le_of_ble_eq_true rfl)⟩) hI hl.1 (gJ_step (n := 25) (by decide)) (Nat.le_of_ble_eq_true rfl) ⟨(Nat.le_of_ble_eq_true rfl), (Nat.le_of_ble_eq_true rfl)⟩ dL_most_159 (fun H locs hI _ => ?_)
  refine lv_iload_n C.1.1 C.1.2.1 dL_most_162 rfl (lv_at hl 0 rfl) ?_
  refine fl_icmp_eq (tgt := 168) C.1 (rgk 25 rfl) (rgk 25 rfl) dL_most_163 (by decide) (fun _ => ?_) (fun h => absurd (by decide) h)
  exact W.widen (Nat.le_of_ble_eq_true rfl) (Nat.le_of_ble_eq_true rfl) (kk H locs ls hI hl)
set_option maxRecDepth 100000 in
set_option maxHeartbeats 4000000 in
theorem w_most_5 (hst : l.stackTraces = false) (C : LC p s m meth c D cy B cL_most 2) (kk : ∀ (H : Heap) (locs : List Loc) (ls : Array Slot), HI D cy B s.heap H locs x (gJb fB 50) → lv_has ls 2 [(1, iv 49), (0, .ref x)] → W p l e rm_L_most s m args below meth c H locs 778 167391 Q (F0 m 168 ls [])) : ∀ (H : Heap) (locs : List Loc) (ls : Array Slot), HI D cy B s.heap H locs x (gJb fB 26) → lv_has ls 2 [(1, iv 25), (0, .ref x)] → W p l e rm_L_most s m args below meth c H locs 778 167391 Q (F0 m 168 ls []) := by
  intro H locs ls hI hl
  refine fl_iinc (k := 0) (lv' := [(1, iv (wr (25 + 1))), (0, .ref x)]) C.1 dL_most_168 hl rfl (by decide) rfl (fun ls hl => ?_)
  rw [show wr (25 + 1) = (26 : Int) from by decide +kernel] at hl
  refine fl_goto (tgt := 152) C.1 dL_most_171 (by decide) ?_
  refine lv_iload_n C.1.1 C.1.2.1 dL_most_152 rfl (lv_at hl 0 rfl) ?_
  refine fl_bipush C.1 dL_most_153 (by decide) ?_
  refine fl_icmp_ge (tgt := 174) C.1 (rgk 26 rfl) (rgk 60 rfl) dL_most_155 (by decide) (fun h => absurd h (by decide)) (fun _ => ?_)
  refine lv_aload_n C.1.1 C.1.2.1 dL_most_158 rfl (lv_at hl 1 rfl) ?_
  refine j_judge (v := 26) (S' := (gJb fB 27)) C (by exact ⟨(Nat.le_of_ble_eq_true rfl), (Nat.le_of_ble_eq_true rfl)⟩) hI hl.1 (gJ_step (n := 26) (by decide)) (Nat.le_of_ble_eq_true rfl) ⟨(Nat.le_of_ble_eq_true rfl), (Nat.le_of_ble_eq_true rfl)⟩ dL_most_159 (fun H locs hI _ => ?_)
  refine lv_iload_n C.1.1 C.1.2.1 dL_most_162 rfl (lv_at hl 0 rfl) ?_
  refine fl_icmp_eq (tgt := 168) C.1 (rgk 26 rfl) (rgk 26 rfl) dL_most_163 (by decide) (fun _ => ?_) (fun h => absurd (by decide) h)
  refine fl_iinc (k := 0) (lv' := [(1, iv (wr (26 + 1))), (0, .ref x)]) C.1 dL_most_168 hl rfl (by decide) rfl (fun ls hl => ?_)
  rw [show wr (26 + 1) = (27 : Int) from by decide +kernel] at hl
  refine fl_goto (tgt := 152) C.1 dL_most_171 (by decide) ?_
  refine lv_iload_n C.1.1 C.1.2.1 dL_most_152 rfl (lv_at hl 0 rfl) ?_
  refine fl_bipush C.1 dL_most_153 (by decide) ?_
  refine fl_icmp_ge (tgt := 174) C.1 (rgk 27 rfl) (rgk 60 rfl) dL_most_155 (by decide) (fun h => absurd h (by decide)) (fun _ => ?_)
  refine lv_aload_n C.1.1 C.1.2.1 dL_most_158 rfl (lv_at hl 1 rfl) ?_
  refine j_judge (v := 27) (S' := (gJb fB 28)) C (by exact ⟨(Nat.le_of_ble_eq_true rfl), (Nat.le_of_ble_eq_true rfl)⟩) hI hl.1 (gJ_step (n := 27) (by decide)) (Nat.le_of_ble_eq_true rfl) ⟨(Nat.le_of_ble_eq_true rfl), (Nat.le_of_ble_eq_true rfl)⟩ dL_most_159 (fun H locs hI _ => ?_)
  refine lv_iload_n C.1.1 C.1.2.1 dL_most_162 rfl (lv_at hl 0 rfl) ?_
  refine fl_icmp_eq (tgt := 168) C.1 (rgk 27 rfl) (rgk 27 rfl) dL_most_163 (by decide) (fun _ => ?_) (fun h => absurd (by decide) h)
  refine fl_iinc (k := 0) (lv' := [(1, iv (wr (27 + 1))), (0, .ref x)]) C.1 dL_most_168 hl rfl (by decide) rfl (fun ls hl => ?_)
  rw [show wr (27 + 1) = (28 : Int) from by decide +kernel] at hl
  refine fl_goto (tgt := 152) C.1 dL_most_171 (by decide) ?_
  refine lv_iload_n C.1.1 C.1.2.1 dL_most_152 rfl (lv_at hl 0 rfl) ?_
  refine fl_bipush C.1 dL_most_153 (by decide) ?_
  refine fl_icmp_ge (tgt := 174) C.1 (rgk 28 rfl) (rgk 60 rfl) dL_most_155 (by decide) (fun h => absurd h (by decide)) (fun _ => ?_)
  refine lv_aload_n C.1.1 C.1.2.1 dL_most_158 rfl (lv_at hl 1 rfl) ?_
  refine j_judge (v := 28) (S' := (gJb fB 29)) C (by exact ⟨(Nat.le_of_ble_eq_true rfl), (Nat.le_of_ble_eq_true rfl)⟩) hI hl.1 (gJ_step (n := 28) (by decide)) (Nat.le_of_ble_eq_true rfl) ⟨(Nat.le_of_ble_eq_true rfl), (Nat.le_of_ble_eq_true rfl)⟩ dL_most_159 (fun H locs hI _ => ?_)
  refine lv_iload_n C.1.1 C.1.2.1 dL_most_162 rfl (lv_at hl 0 rfl) ?_
  refine fl_icmp_eq (tgt := 168) C.1 (rgk 28 rfl) (rgk 28 rfl) dL_most_163 (by decide) (fun _ => ?_) (fun h => absurd (by decide) h)
  refine fl_iinc (k := 0) (lv' := [(1, iv (wr (28 + 1))), (0, .ref x)]) C.1 dL_most_168 hl rfl (by decide) rfl (fun ls hl => ?_)
  rw [show wr (28 + 1) = (29 : Int) from by decide +kernel] at hl
  refine fl_goto (tgt := 152) C.1 dL_most_171 (by decide) ?_
  refine lv_iload_n C.1.1 C.1.2.1 dL_most_152 rfl (lv_at hl 0 rfl) ?_
  refine fl_bipush C.1 dL_most_153 (by decide) ?_
  refine fl_icmp_ge (tgt := 174) C.1 (rgk 29 rfl) (rgk 60 rfl) dL_most_155 (by decide) (fun h => absurd h (by decide)) (fun _ => ?_)
  refine lv_aload_n C.1.1 C.1.2.1 dL_most_158 rfl (lv_at hl 1 rfl) ?_
  refine j_judge (v := 29) (S' := (gJb fB 30)) C (by exact ⟨(Nat.le_of_ble_eq_true rfl), (Nat.le_of_ble_eq_true rfl)⟩) hI hl.1 (gJ_step (n := 29) (by decide)) (Nat.le_of_ble_eq_true rfl) ⟨(Nat.le_of_ble_eq_true rfl), (Nat.le_of_ble_eq_true rfl)⟩ dL_most_159 (fun H locs hI _ => ?_)
  refine lv_iload_n C.1.1 C.1.2.1 dL_most_162 rfl (lv_at hl 0 rfl) ?_
  refine fl_icmp_eq (tgt := 168) C.1 (rgk 29 rfl) (rgk 29 rfl) dL_most_163 (by decide) (fun _ => ?_) (fun h => absurd (by decide) h)
  refine fl_iinc (k := 0) (lv' := [(1, iv (wr (29 + 1))), (0, .ref x)]) C.1 dL_most_168 hl rfl (by decide) rfl (fun ls hl => ?_)
  rw [show wr (29 + 1) = (30 : Int) from by decide +kernel] at hl
  refine fl_goto (tgt := 152) C.1 dL_most_171 (by decide) ?_
  refine lv_iload_n C.1.1 C.1.2.1 dL_most_152 rfl (lv_at hl 0 rfl) ?_
  refine fl_bipush C.1 dL_most_153 (by decide) ?_
  refine fl_icmp_ge (tgt := 174) C.1 (rgk 30 rfl) (rgk 60 rfl) dL_most_155 (by decide) (fun h => absurd h (by decide)) (fun _ => ?_)
  refine lv_aload_n C.1.1 C.1.2.1 dL_most_158 rfl (lv_at hl 1 rfl) ?_
  refine j_judge (v := 30) (S' := (gJb fB 31)) C (by exact ⟨(Nat.le_of_ble_eq_true rfl), (Nat.le_of_ble_eq_true rfl)⟩) hI hl.1 (gJ_step (n := 30) (by decide)) (Nat.le_of_ble_eq_true rfl) ⟨(Nat.le_of_ble_eq_true rfl), (Nat.le_of_ble_eq_true rfl)⟩ dL_most_159 (fun H locs hI _ => ?_)
  refine lv_iload_n C.1.1 C.1.2.1 dL_most_162 rfl (lv_at hl 0 rfl) ?_
  refine fl_icmp_eq (tgt := 168) C.1 (rgk 30 rfl) (rgk 30 rfl) dL_most_163 (by decide) (fun _ => ?_) (fun h => absurd (by decide) h)
  refine fl_iinc (k := 0) (lv' := [(1, iv (wr (30 + 1))), (0, .ref x)]) C.1 dL_most_168 hl rfl (by decide) rfl (fun ls hl => ?_)
  rw [show wr (30 + 1) = (31 : Int) from by decide +kernel] at hl
  refine fl_goto (tgt := 152) C.1 dL_most_171 (by decide) ?_
  refine lv_iload_n C.1.1 C.1.2.1 dL_most_152 rfl (lv_at hl 0 rfl) ?_
  refine fl_bipush C.1 dL_most_153 (by decide) ?_
  refine fl_icmp_ge (tgt := 174) C.1 (rgk 31 rfl) (rgk 60 rfl) dL_most_155 (by decide) (fun h => absurd h (by decide)) (fun _ => ?_)
  refine lv_aload_n C.1.1 C.1.2.1 dL_most_158 rfl (lv_at hl 1 rfl) ?_
  refine j_judge (v := 31) (S' := (gJb fB 32)) C (by exact ⟨(Nat.le_of_ble_eq_true rfl), (Nat.le_of_ble_eq_true rfl)⟩) hI hl.1 (gJ_step (n := 31) (by decide)) (Nat.le_of_ble_eq_true rfl) ⟨(Nat.le_of_ble_eq_true rfl), (Nat.le_of_ble_eq_true rfl)⟩ dL_most_159 (fun H locs hI _ => ?_)
  refine lv_iload_n C.1.1 C.1.2.1 dL_most_162 rfl (lv_at hl 0 rfl) ?_
  refine fl_icmp_eq (tgt := 168) C.1 (rgk 31 rfl) (rgk 31 rfl) dL_most_163 (by decide) (fun _ => ?_) (fun h => absurd (by decide) h)
  refine fl_iinc (k := 0) (lv' := [(1, iv (wr (31 + 1))), (0, .ref x)]) C.1 dL_most_168 hl rfl (by decide) rfl (fun ls hl => ?_)
  rw [show wr (31 + 1) = (32 : Int) from by decide +kernel] at hl
  refine fl_goto (tgt := 152) C.1 dL_most_171 (by decide) ?_
  refine lv_iload_n C.1.1 C.1.2.1 dL_most_152 rfl (lv_at hl 0 rfl) ?_
  refine fl_bipush C.1 dL_most_153 (by decide) ?_
  refine fl_icmp_ge (tgt := 174) C.1 (rgk 32 rfl) (rgk 60 rfl) dL_most_155 (by decide) (fun h => absurd h (by decide)) (fun _ => ?_)
  refine lv_aload_n C.1.1 C.1.2.1 dL_most_158 rfl (lv_at hl 1 rfl) ?_
  refine j_judge (v := 32) (S' := (gJb fB 33)) C (by exact ⟨(Nat.le_of_ble_eq_true rfl), (Nat.le_of_ble_eq_true rfl)⟩) hI hl.1 (gJ_step (n := 32) (by decide)) (Nat.le_of_ble_eq_true rfl) ⟨(Nat.le_of_ble_eq_true rfl), (Nat.le_of_ble_eq_true rfl)⟩ dL_most_159 (fun H locs hI _ => ?_)
  refine lv_iload_n C.1.1 C.1.2.1 dL_most_162 rfl (lv_at hl 0 rfl) ?_
  refine fl_icmp_eq (tgt := 168) C.1 (rgk 32 rfl) (rgk 32 rfl) dL_most_163 (by decide) (fun _ => ?_) (fun h => absurd (by decide) h)
  refine fl_iinc (k := 0) (lv' := [(1, iv (wr (32 + 1))), (0, .ref x)]) C.1 dL_most_168 hl rfl (by decide) rfl (fun ls hl => ?_)
  rw [show wr (32 + 1) = (33 : Int) from by decide +kernel] at hl
  refine fl_goto (tgt := 152) C.1 dL_most_171 (by decide) ?_
  refine lv_iload_n C.1.1 C.1.2.1 dL_most_152 rfl (lv_at hl 0 rfl) ?_
  refine fl_bipush C.1 dL_most_153 (by decide) ?_
  refine fl_icmp_ge (tgt := 174) C.1 (rgk 33 rfl) (rgk 60 rfl) dL_most_155 (by decide) (fun h => absurd h (by decide)) (fun _ => ?_)
  refine lv_aload_n C.1.1 C.1.2.1 dL_most_158 rfl (lv_at hl 1 rfl) ?_
  refine j_judge (v := 33) (S' := (gJb fB 34)) C (by exact ⟨(Nat.le_of_ble_eq_true rfl), (Nat.le_of_ble_eq_true rfl)⟩) hI hl.1 (gJ_step (n := 33) (by decide)) (Nat.le_of_ble_eq_true rfl) ⟨(Nat.le_of_ble_eq_true rfl), (Nat.le_of_ble_eq_true rfl)⟩ dL_most_159 (fun H locs hI _ => ?_)
  refine lv_iload_n C.1.1 C.1.2.1 dL_most_162 rfl (lv_at hl 0 rfl) ?_
  refine fl_icmp_eq (tgt := 168) C.1 (rgk 33 rfl) (rgk 33 rfl) dL_most_163 (by decide) (fun _ => ?_) (fun h => absurd (by decide) h)
  refine fl_iinc (k := 0) (lv' := [(1, iv (wr (33 + 1))), (0, .ref x)]) C.1 dL_most_168 hl rfl (by decide) rfl (fun ls hl => ?_)
  rw [show wr (33 + 1) = (34 : Int) from by decide +kernel] at hl
  refine fl_goto (tgt := 152) C.1 dL_most_171 (by decide) ?_
  refine lv_iload_n C.1.1 C.1.2.1 dL_most_152 rfl (lv_at hl 0 rfl) ?_
  refine fl_bipush C.1 dL_most_153 (by decide) ?_
  refine fl_icmp_ge (tgt := 174) C.1 (rgk 34 rfl) (rgk 60 rfl) dL_most_155 (by decide) (fun h => absurd h (by decide)) (fun _ => ?_)
  refine lv_aload_n C.1.1 C.1.2.1 dL_most_158 rfl (lv_at hl 1 rfl) ?_
  refine j_judge (v := 34) (S' := (gJb fB 35)) C (by exact ⟨(Nat.le_of_ble_eq_true rfl), (Nat.le_of_ble_eq_true rfl)⟩) hI hl.1 (gJ_step (n := 34) (by decide)) (Nat.le_of_ble_eq_true rfl) ⟨(Nat.le_of_ble_eq_true rfl), (Nat.le_of_ble_eq_true rfl)⟩ dL_most_159 (fun H locs hI _ => ?_)
  refine lv_iload_n C.1.1 C.1.2.1 dL_most_162 rfl (lv_at hl 0 rfl) ?_
  refine fl_icmp_eq (tgt := 168) C.1 (rgk 34 rfl) (rgk 34 rfl) dL_most_163 (by decide) (fun _ => ?_) (fun h => absurd (by decide) h)
  refine fl_iinc (k := 0) (lv' := [(1, iv (wr (34 + 1))), (0, .ref x)]) C.1 dL_most_168 hl rfl (by decide) rfl (fun ls hl => ?_)
  rw [show wr (34 + 1) = (35 : Int) from by decide +kernel] at hl
  refine fl_goto (tgt := 152) C.1 dL_most_171 (by decide) ?_
  refine lv_iload_n C.1.1 C.1.2.1 dL_most_152 rfl (lv_at hl 0 rfl) ?_
  refine fl_bipush C.1 dL_most_153 (by decide) ?_
  refine fl_icmp_ge (tgt := 174) C.1 (rgk 35 rfl) (rgk 60 rfl) dL_most_155 (by decide) (fun h => absurd h (by decide)) (fun _ => ?_)
  refine lv_aload_n C.1.1 C.1.2.1 dL_most_158 rfl (lv_at hl 1 rfl) ?_
  refine j_judge (v := 35) (S' := (gJb fB 36)) C (by exact ⟨(Nat.le_of_ble_eq_true rfl), (Nat.le_of_ble_eq_true rfl)⟩) hI hl.1 (gJ_step (n := 35) (by decide)) (Nat.le_of_ble_eq_true rfl) ⟨(Nat.le_of_ble_eq_true rfl), (Nat.le_of_ble_eq_true rfl)⟩ dL_most_159 (fun H locs hI _ => ?_)
  refine lv_iload_n C.1.1 C.1.2.1 dL_most_162 rfl (lv_at hl 0 rfl) ?_
  refine fl_icmp_eq (tgt := 168) C.1 (rgk 35 rfl) (rgk 35 rfl) dL_most_163 (by decide) (fun _ => ?_) (fun h => absurd (by decide) h)
  refine fl_iinc (k := 0) (lv' := [(1, iv (wr (35 + 1))), (0, .ref x)]) C.1 dL_most_168 hl rfl (by decide) rfl (fun ls hl => ?_)
  rw [show wr (35 + 1) = (36 : Int) from by decide +kernel] at hl
  refine fl_goto (tgt := 152) C.1 dL_most_171 (by decide) ?_
  refine lv_iload_n C.1.1 C.1.2.1 dL_most_152 rfl (lv_at hl 0 rfl) ?_
  refine fl_bipush C.1 dL_most_153 (by decide) ?_
  refine fl_icmp_ge (tgt := 174) C.1 (rgk 36 rfl) (rgk 60 rfl) dL_most_155 (by decide) (fun h => absurd h (by decide)) (fun _ => ?_)
  refine lv_aload_n C.1.1 C.1.2.1 dL_most_158 rfl (lv_at hl 1 rfl) ?_
  refine j_judge (v := 36) (S' := (gJb fB 37)) C (by exact ⟨(Nat.le_of_ble_eq_true rfl), (Nat.le_of_ble_eq_true rfl)⟩) hI hl.1 (gJ_step (n := 36) (by decide)) (Nat.le_of_ble_eq_true rfl) ⟨(Nat.le_of_ble_eq_true rfl), (Nat.le_of_ble_eq_true rfl)⟩ dL_most_159 (fun H locs hI _ => ?_)
  refine lv_iload_n C.1.1 C.1.2.1 dL_most_162 rfl (lv_at hl 0 rfl) ?_
  refine fl_icmp_eq (tgt := 168) C.1 (rgk 36 rfl) (rgk 36 rfl) dL_most_163 (by decide) (fun _ => ?_) (fun h => absurd (by decide) h)
  refine fl_iinc (k := 0) (lv' := [(1, iv (wr (36 + 1))), (0, .ref x)]) C.1 dL_most_168 hl rfl (by decide) rfl (fun ls hl => ?_)
  rw [show wr (36 + 1) = (37 : Int) from by decide +kernel] at hl
  refine fl_goto (tgt := 152) C.1 dL_most_171 (by decide) ?_
  refine lv_iload_n C.1.1 C.1.2.1 dL_most_152 rfl (lv_at hl 0 rfl) ?_
  refine fl_bipush C.1 dL_most_153 (by decide) ?_
  refine fl_icmp_ge (tgt := 174) C.1 (rgk 37 rfl) (rgk 60 rfl) dL_most_155 (by decide) (fun h => absurd h (by decide)) (fun _ => ?_)
  refine lv_aload_n C.1.1 C.1.2.1 dL_most_158 rfl (lv_at hl 1 rfl) ?_
  refine j_judge (v := 37) (S' := (gJb fB 38)) C (by exact ⟨(Nat.le_of_ble_eq_true rfl), (Nat.le_of_ble_eq_true rfl)⟩) hI hl.1 (gJ_step (n := 37) (by decide)) (Nat.le_of_ble_eq_true rfl) ⟨(Nat.le_of_ble_eq_true rfl), (Nat.le_of_ble_eq_true rfl)⟩ dL_most_159 (fun H locs hI _ => ?_)
  refine lv_iload_n C.1.1 C.1.2.1 dL_most_162 rfl (lv_at hl 0 rfl) ?_
  refine fl_icmp_eq (tgt := 168) C.1 (rgk 37 rfl) (rgk 37 rfl) dL_most_163 (by decide) (fun _ => ?_) (fun h => absurd (by decide) h)
  refine fl_iinc (k := 0) (lv' := [(1, iv (wr (37 + 1))), (0, .ref x)]) C.1 dL_most_168 hl rfl (by decide) rfl (fun ls hl => ?_)
  rw [show wr (37 + 1) = (38 : Int) from by decide +kernel] at hl
  refine fl_goto (tgt := 152) C.1 dL_most_171 (by decide) ?_
  refine lv_iload_n C.1.1 C.1.2.1 dL_most_152 rfl (lv_at hl 0 rfl) ?_
  refine fl_bipush C.1 dL_most_153 (by decide) ?_
  refine fl_icmp_ge (tgt := 174) C.1 (rgk 38 rfl) (rgk 60 rfl) dL_most_155 (by decide) (fun h => absurd h (by decide)) (fun _ => ?_)
  refine lv_aload_n C.1.1 C.1.2.1 dL_most_158 rfl (lv_at hl 1 rfl) ?_
  refine j_judge (v := 38) (S' := (gJb fB 39)) C (by exact ⟨(Nat.le_of_ble_eq_true rfl), (Nat.le_of_ble_eq_true rfl)⟩) hI hl.1 (gJ_step (n := 38) (by decide)) (Nat.le_of_ble_eq_true rfl) ⟨(Nat.le_of_ble_eq_true rfl), (Nat.le_of_ble_eq_true rfl)⟩ dL_most_159 (fun H locs hI _ => ?_)
  refine lv_iload_n C.1.1 C.1.2.1 dL_most_162 rfl (lv_at hl 0 rfl) ?_
  refine fl_icmp_eq (tgt := 168) C.1 (rgk 38 rfl) (rgk 38 rfl) dL_most_163 (by decide) (fun _ => ?_) (fun h => absurd (by decide) h)
  refine fl_iinc (k := 0) (lv' := [(1, iv (wr (38 + 1))), (0, .ref x)]) C.1 dL_most_168 hl rfl (by decide) rfl (fun ls hl => ?_)
  rw [show wr (38 + 1) = (39 : Int) from by decide +kernel] at hl
  refine fl_goto (tgt := 152) C.1 dL_most_171 (by decide) ?_
  refine lv_iload_n C.1.1 C.1.2.1 dL_most_152 rfl (lv_at hl 0 rfl) ?_
  refine fl_bipush C.1 dL_most_153 (by decide) ?_
  refine fl_icmp_ge (tgt := 174) C.1 (rgk 39 rfl) (rgk 60 rfl) dL_most_155 (by decide) (fun h => absurd h (by decide)) (fun _ => ?_)
  refine lv_aload_n C.1.1 C.1.2.1 dL_most_158 rfl (lv_at hl 1 rfl) ?_
  refine j_judge (v := 39) (S' := (gJb fB 40)) C (by exact ⟨(Nat.le_of_ble_eq_true rfl), (Nat.le_of_ble_eq_true rfl)⟩) hI hl.1 (gJ_step (n := 39) (by decide)) (Nat.le_of_ble_eq_true rfl) ⟨(Nat.le_of_ble_eq_true rfl), (Nat.le_of_ble_eq_true rfl)⟩ dL_most_159 (fun H locs hI _ => ?_)
  refine lv_iload_n C.1.1 C.1.2.1 dL_most_162 rfl (lv_at hl 0 rfl) ?_
  refine fl_icmp_eq (tgt := 168) C.1 (rgk 39 rfl) (rgk 39 rfl) dL_most_163 (by decide) (fun _ => ?_) (fun h => absurd (by decide) h)
  refine fl_iinc (k := 0) (lv' := [(1, iv (wr (39 + 1))), (0, .ref x)]) C.1 dL_most_168 hl rfl (by decide) rfl (fun ls hl => ?_)
  rw [show wr (39 + 1) = (40 : Int) from by decide +kernel] at hl
  refine fl_goto (tgt := 152) C.1 dL_most_171 (by decide) ?_
  refine lv_iload_n C.1.1 C.1.2.1 dL_most_152 rfl (lv_at hl 0 rfl) ?_
  refine fl_bipush C.1 dL_most_153 (by decide) ?_
  refine fl_icmp_ge (tgt := 174) C.1 (rgk 40 rfl) (rgk 60 rfl) dL_most_155 (by decide) (fun h => absurd h (by decide)) (fun _ => ?_)
  refine lv_aload_n C.1.1 C.1.2.1 dL_most_158 rfl (lv_at hl 1 rfl) ?_
  refine j_judge (v := 40) (S' := (gJb fB 41)) C (by exact ⟨(Nat.le_of_ble_eq_true rfl), (Nat.le_of_ble_eq_true rfl)⟩) hI hl.1 (gJ_step (n := 40) (by decide)) (Nat.le_of_ble_eq_true rfl) ⟨(Nat.le_of_ble_eq_true rfl), (Nat.le_of_ble_eq_true rfl)⟩ dL_most_159 (fun H locs hI _ => ?_)
  refine lv_iload_n C.1.1 C.1.2.1 dL_most_162 rfl (lv_at hl 0 rfl) ?_
  refine fl_icmp_eq (tgt := 168) C.1 (rgk 40 rfl) (rgk 40 rfl) dL_most_163 (by decide) (fun _ => ?_) (fun h => absurd (by decide) h)
  refine fl_iinc (k := 0) (lv' := [(1, iv (wr (40 + 1))), (0, .ref x)]) C.1 dL_most_168 hl rfl (by decide) rfl (fun ls hl => ?_)
  rw [show wr (40 + 1) = (41 : Int) from by decide +kernel] at hl
  refine fl_goto (tgt := 152) C.1 dL_most_171 (by decide) ?_
  refine lv_iload_n C.1.1 C.1.2.1 dL_most_152 rfl (lv_at hl 0 rfl) ?_
  refine fl_bipush C.1 dL_most_153 (by decide) ?_
  refine fl_icmp_ge (tgt := 174) C.1 (rgk 41 rfl) (rgk 60 rfl) dL_most_155 (by decide) (fun h => absurd h (by decide)) (fun _ => ?_)
  refine lv_aload_n C.1.1 C.1.2.1 dL_most_158 rfl (lv_at hl 1 rfl) ?_
  refine j_judge (v := 41) (S' := (gJb fB 42)) C (by exact ⟨(Nat.le_of_ble_eq_true rfl), (Nat.le_of_ble_eq_true rfl)⟩) hI hl.1 (gJ_step (n := 41) (by decide)) (Nat.le_of_ble_eq_true rfl) ⟨(Nat.le_of_ble_eq_true rfl), (Nat.le_of_ble_eq_true rfl)⟩ dL_most_159 (fun H locs hI _ => ?_)
  refine lv_iload_n C.1.1 C.1.2.1 dL_most_162 rfl (lv_at hl 0 rfl) ?_
  refine fl_icmp_eq (tgt := 168) C.1 (rgk 41 rfl) (rgk 41 rfl) dL_most_163 (by decide) (fun _ => ?_) (fun h => absurd (by decide) h)
  refine fl_iinc (k := 0) (lv' := [(1, iv (wr (41 + 1))), (0, .ref x)]) C.1 dL_most_168 hl rfl (by decide) rfl (fun ls hl => ?_)
  rw [show wr (41 + 1) = (42 : Int) from by decide +kernel] at hl
  refine fl_goto (tgt := 152) C.1 dL_most_171 (by decide) ?_
  refine lv_iload_n C.1.1 C.1.2.1 dL_most_152 rfl (lv_at hl 0 rfl) ?_
  refine fl_bipush C.1 dL_most_153 (by decide) ?_
  refine fl_icmp_ge (tgt := 174) C.1 (rgk 42 rfl) (rgk 60 rfl) dL_most_155 (by decide) (fun h => absurd h (by decide)) (fun _ => ?_)
  refine lv_aload_n C.1.1 C.1.2.1 dL_most_158 rfl (lv_at hl 1 rfl) ?_
  refine j_judge (v := 42) (S' := (gJb fB 43)) C (by exact ⟨(Nat.le_of_ble_eq_true rfl), (Nat.le_of_ble_eq_true rfl)⟩) hI hl.1 (gJ_step (n := 42) (by decide)) (Nat.le_of_ble_eq_true rfl) ⟨(Nat.le_of_ble_eq_true rfl), (Nat.le_of_ble_eq_true rfl)⟩ dL_most_159 (fun H locs hI _ => ?_)
  refine lv_iload_n C.1.1 C.1.2.1 dL_most_162 rfl (lv_at hl 0 rfl) ?_
  refine fl_icmp_eq (tgt := 168) C.1 (rgk 42 rfl) (rgk 42 rfl) dL_most_163 (by decide) (fun _ => ?_) (fun h => absurd (by decide) h)
  refine fl_iinc (k := 0) (lv' := [(1, iv (wr (42 + 1))), (0, .ref x)]) C.1 dL_most_168 hl rfl (by decide) rfl (fun ls hl => ?_)
  rw [show wr (42 + 1) = (43 : Int) from by decide +kernel] at hl
  refine fl_goto (tgt := 152) C.1 dL_most_171 (by decide) ?_
  refine lv_iload_n C.1.1 C.1.2.1 dL_most_152 rfl (lv_at hl 0 rfl) ?_
  refine fl_bipush C.1 dL_most_153 (by decide) ?_
  refine fl_icmp_ge (tgt := 174) C.1 (rgk 43 rfl) (rgk 60 rfl) dL_most_155 (by decide) (fun h => absurd h (by decide)) (fun _ => ?_)
  refine lv_aload_n C.1.1 C.1.2.1 dL_most_158 rfl (lv_at hl 1 rfl) ?_
  refine j_judge (v := 43) (S' := (gJb fB 44)) C (by exact ⟨(Nat.le_of_ble_eq_true rfl), (Nat.le_of_ble_eq_true rfl)⟩) hI hl.1 (gJ_step (n := 43) (by decide)) (Nat.le_of_ble_eq_true rfl) ⟨(Nat.le_of_ble_eq_true rfl), (Nat.le_of_ble_eq_true rfl)⟩ dL_most_159 (fun H locs hI _ => ?_)
  refine lv_iload_n C.1.1 C.1.2.1 dL_most_162 rfl (lv_at hl 0 rfl) ?_
  refine fl_icmp_eq (tgt := 168) C.1 (rgk 43 rfl) (rgk 43 rfl) dL_most_163 (by decide) (fun _ => ?_) (fun h => absurd (by decide) h)
  refine fl_iinc (k := 0) (lv' := [(1, iv (wr (43 + 1))), (0, .ref x)]) C.1 dL_most_168 hl rfl (by decide) rfl (fun ls hl => ?_)
  rw [show wr (43 + 1) = (44 : Int) from by decide +kernel] at hl
  refine fl_goto (tgt := 152) C.1 dL_most_171 (by decide) ?_
  refine lv_iload_n C.1.1 C.1.2.1 dL_most_152 rfl (lv_at hl 0 rfl) ?_
  refine fl_bipush C.1 dL_most_153 (by decide) ?_
  refine fl_icmp_ge (tgt := 174) C.1 (rgk 44 rfl) (rgk 60 rfl) dL_most_155 (by decide) (fun h => absurd h (by decide)) (fun _ => ?_)
  refine lv_aload_n C.1.1 C.1.2.1 dL_most_158 rfl (lv_at hl 1 rfl) ?_
  refine j_judge (v := 44) (S' := (gJb fB 45)) C (by exact ⟨(Nat.le_of_ble_eq_true rfl), (Nat.le_of_ble_eq_true rfl)⟩) hI hl.1 (gJ_step (n := 44) (by decide)) (Nat.le_of_ble_eq_true rfl) ⟨(Nat.le_of_ble_eq_true rfl), (Nat.le_of_ble_eq_true rfl)⟩ dL_most_159 (fun H locs hI _ => ?_)
  refine lv_iload_n C.1.1 C.1.2.1 dL_most_162 rfl (lv_at hl 0 rfl) ?_
  refine fl_icmp_eq (tgt := 168) C.1 (rgk 44 rfl) (rgk 44 rfl) dL_most_163 (by decide) (fun _ => ?_) (fun h => absurd (by decide) h)
  refine fl_iinc (k := 0) (lv' := [(1, iv (wr (44 + 1))), (0, .ref x)]) C.1 dL_most_168 hl rfl (by decide) rfl (fun ls hl => ?_)
  rw [show wr (44 + 1) = (45 : Int) from by decide +kernel] at hl
  refine fl_goto (tgt := 152) C.1 dL_most_171 (by decide) ?_
  refine lv_iload_n C.1.1 C.1.2.1 dL_most_152 rfl (lv_at hl 0 rfl) ?_
  refine fl_bipush C.1 dL_most_153 (by decide) ?_
  refine fl_icmp_ge (tgt := 174) C.1 (rgk 45 rfl) (rgk 60 rfl) dL_most_155 (by decide) (fun h => absurd h (by decide)) (fun _ => ?_)
  refine lv_aload_n C.1.1 C.1.2.1 dL_most_158 rfl (lv_at hl 1 rfl) ?_
  refine j_judge (v := 45) (S' := (gJb fB 46)) C (by exact ⟨(Nat.le_of_ble_eq_true rfl), (Nat.le_of_ble_eq_true rfl)⟩) hI hl.1 (gJ_step (n := 45) (by decide)) (Nat.le_of_ble_eq_true rfl) ⟨(Nat.le_of_ble_eq_true rfl), (Nat.le_of_ble_eq_true rfl)⟩ dL_most_159 (fun H locs hI _ => ?_)
  refine lv_iload_n C.1.1 C.1.2.1 dL_most_162 rfl (lv_at hl 0 rfl) ?_
  refine fl_icmp_eq (tgt := 168) C.1 (rgk 45 rfl) (rgk 45 rfl) dL_most_163 (by decide) (fun _ => ?_) (fun h => absurd (by decide) h)
  refine fl_iinc (k := 0) (lv' := [(1, iv (wr (45 + 1))), (0, .ref x)]) C.1 dL_most_168 hl rfl (by decide) rfl (fun ls hl => ?_)
  rw [show wr (45 + 1) = (46 : Int) from by decide +kernel] at hl
  refine fl_goto (tgt := 152) C.1 dL_most_171 (by decide) ?_
  refine lv_iload_n C.1.1 C.1.2.1 dL_most_152 rfl (lv_at hl 0 rfl) ?_
  refine fl_bipush C.1 dL_most_153 (by decide) ?_
  refine fl_icmp_ge (tgt := 174) C.1 (rgk 46 rfl) (rgk 60 rfl) dL_most_155 (by decide) (fun h => absurd h (by decide)) (fun _ => ?_)
  refine lv_aload_n C.1.1 C.1.2.1 dL_most_158 rfl (lv_at hl 1 rfl) ?_
  refine j_judge (v := 46) (S' := (gJb fB 47)) C (by exact ⟨(Nat.le_of_ble_eq_true rfl), (Nat.le_of_ble_eq_true rfl)⟩) hI hl.1 (gJ_step (n := 46) (by decide)) (Nat.le_of_ble_eq_true rfl) ⟨(Nat.le_of_ble_eq_true rfl), (Nat.le_of_ble_eq_true rfl)⟩ dL_most_159 (fun H locs hI _ => ?_)
  refine lv_iload_n C.1.1 C.1.2.1 dL_most_162 rfl (lv_at hl 0 rfl) ?_
  refine fl_icmp_eq (tgt := 168) C.1 (rgk 46 rfl) (rgk 46 rfl) dL_most_163 (by decide) (fun _ => ?_) (fun h => absurd (by decide) h)
  refine fl_iinc (k := 0) (lv' := [(1, iv (wr (46 + 1))), (0, .ref x)]) C.1 dL_most_168 hl rfl (by decide) rfl (fun ls hl => ?_)
  rw [show wr (46 + 1) = (47 : Int) from by decide +kernel] at hl
  refine fl_goto (tgt := 152) C.1 dL_most_171 (by decide) ?_
  refine lv_iload_n C.1.1 C.1.2.1 dL_most_152 rfl (lv_at hl 0 rfl) ?_
  refine fl_bipush C.1 dL_most_153 (by decide) ?_
  refine fl_icmp_ge (tgt := 174) C.1 (rgk 47 rfl) (rgk 60 rfl) dL_most_155 (by decide) (fun h => absurd h (by decide)) (fun _ => ?_)
  refine lv_aload_n C.1.1 C.1.2.1 dL_most_158 rfl (lv_at hl 1 rfl) ?_
  refine j_judge (v := 47) (S' := (gJb fB 48)) C (by exact ⟨(Nat.le_of_ble_eq_true rfl), (Nat.le_of_ble_eq_true rfl)⟩) hI hl.1 (gJ_step (n := 47) (by decide)) (Nat.le_of_ble_eq_true rfl) ⟨(Nat.le_of_ble_eq_true rfl), (Nat.le_of_ble_eq_true rfl)⟩ dL_most_159 (fun H locs hI _ => ?_)
  refine lv_iload_n C.1.1 C.1.2.1 dL_most_162 rfl (lv_at hl 0 rfl) ?_
  refine fl_icmp_eq (tgt := 168) C.1 (rgk 47 rfl) (rgk 47 rfl) dL_most_163 (by decide) (fun _ => ?_) (fun h => absurd (by decide) h)
  refine fl_iinc (k := 0) (lv' := [(1, iv (wr (47 + 1))), (0, .ref x)]) C.1 dL_most_168 hl rfl (by decide) rfl (fun ls hl => ?_)
  rw [show wr (47 + 1) = (48 : Int) from by decide +kernel] at hl
  refine fl_goto (tgt := 152) C.1 dL_most_171 (by decide) ?_
  refine lv_iload_n C.1.1 C.1.2.1 dL_most_152 rfl (lv_at hl 0 rfl) ?_
  refine fl_bipush C.1 dL_most_153 (by decide) ?_
  refine fl_icmp_ge (tgt := 174) C.1 (rgk 48 rfl) (rgk 60 rfl) dL_most_155 (by decide) (fun h => absurd h (by decide)) (fun _ => ?_)
  refine lv_aload_n C.1.1 C.1.2.1 dL_most_158 rfl (lv_at hl 1 rfl) ?_
  refine j_judge (v := 48) (S' := (gJb fB 49)) C (by exact ⟨(Nat.le_of_ble_eq_true rfl), (Nat.le_of_ble_eq_true rfl)⟩) hI hl.1 (gJ_step (n := 48) (by decide)) (Nat.le_of_ble_eq_true rfl) ⟨(Nat.le_of_ble_eq_true rfl), (Nat.le_of_ble_eq_true rfl)⟩ dL_most_159 (fun H locs hI _ => ?_)
  refine lv_iload_n C.1.1 C.1.2.1 dL_most_162 rfl (lv_at hl 0 rfl) ?_
  refine fl_icmp_eq (tgt := 168) C.1 (rgk 48 rfl) (rgk 48 rfl) dL_most_163 (by decide) (fun _ => ?_) (fun h => absurd (by decide) h)
  refine fl_iinc (k := 0) (lv' := [(1, iv (wr (48 + 1))), (0, .ref x)]) C.1 dL_most_168 hl rfl (by decide) rfl (fun ls hl => ?_)
  rw [show wr (48 + 1) = (49 : Int) from by decide +kernel] at hl
  refine fl_goto (tgt := 152) C.1 dL_most_171 (by decide) ?_
  refine lv_iload_n C.1.1 C.1.2.1 dL_most_152 rfl (lv_at hl 0 rfl) ?_
  refine fl_bipush C.1 dL_most_153 (by decide) ?_
  refine fl_icmp_ge (tgt := 174) C.1 (rgk 49 rfl) (rgk 60 rfl) dL_most_155 (by decide) (fun h => absurd h (by decide)) (fun _ => ?_)
  refine lv_aload_n C.1.1 C.1.2.1 dL_most_158 rfl (lv_at hl 1 rfl) ?_
  refine j_judge (v := 49) (S' := (gJb fB 50)) C (by exact ⟨(Nat.le_of_ble_eq_true rfl), (Nat.le_of_ble_eq_true rfl)⟩) hI hl.1 (gJ_step (n := 49) (by decide)) (Nat.le_of_ble_eq_true rfl) ⟨(Nat.le_of_ble_eq_true rfl), (Nat.le_of_ble_eq_true rfl)⟩ dL_most_159 (fun H locs hI _ => ?_)
  refine lv_iload_n C.1.1 C.1.2.1 dL_most_162 rfl (lv_at hl 0 rfl) ?_
  refine fl_icmp_eq (tgt := 168) C.1 (rgk 49 rfl) (rgk 49 rfl) dL_most_163 (by decide) (fun _ => ?_) (fun h => absurd (by decide) h)
  exact W.widen (Nat.le_of_ble_eq_true rfl) (Nat.le_of_ble_eq_true rfl) (kk H locs ls hI hl)
set_option maxRecDepth 100000 in
set_option maxHeartbeats 4000000 in
theorem w_most_6 (hst : l.stackTraces = false) (C : LC p s m meth c D cy B cL_most 2) (kk : ∀ (H : Heap) (locs : List Loc) (ls : Array Slot), HI D cy B s.heap H locs x fS43 → lv_has ls 2 [(1, iv 8), (0, .ref x)] → W p l e rm_L_most s m args below meth c H locs 844 171801 Q (F0 m 284 ls [])) : ∀ (H : Heap) (locs : List Loc) (ls : Array Slot), HI D cy B s.heap H locs x (gJb fB 50) → lv_has ls 2 [(1, iv 49), (0, .ref x)] → W p l e rm_L_most s m args below meth c H locs 778 167391 Q (F0 m 168 ls []) := by
  intro H locs ls hI hl
  refine fl_iinc (k := 0) (lv' := [(1, iv (wr (49 + 1))), (0, .ref x)]) C.1 dL_most_168 hl rfl (by decide) rfl (fun ls hl => ?_)
  rw [show wr (49 + 1) = (50 : Int) from by decide +kernel] at hl
  refine fl_goto (tgt := 152) C.1 dL_most_171 (by decide) ?_
  refine lv_iload_n C.1.1 C.1.2.1 dL_most_152 rfl (lv_at hl 0 rfl) ?_
  refine fl_bipush C.1 dL_most_153 (by decide) ?_
  refine fl_icmp_ge (tgt := 174) C.1 (rgk 50 rfl) (rgk 60 rfl) dL_most_155 (by decide) (fun h => absurd h (by decide)) (fun _ => ?_)
  refine lv_aload_n C.1.1 C.1.2.1 dL_most_158 rfl (lv_at hl 1 rfl) ?_
  refine j_judge (v := 50) (S' := (gJb fB 51)) C (by exact ⟨(Nat.le_of_ble_eq_true rfl), (Nat.le_of_ble_eq_true rfl)⟩) hI hl.1 (gJ_step (n := 50) (by decide)) (Nat.le_of_ble_eq_true rfl) ⟨(Nat.le_of_ble_eq_true rfl), (Nat.le_of_ble_eq_true rfl)⟩ dL_most_159 (fun H locs hI _ => ?_)
  refine lv_iload_n C.1.1 C.1.2.1 dL_most_162 rfl (lv_at hl 0 rfl) ?_
  refine fl_icmp_eq (tgt := 168) C.1 (rgk 50 rfl) (rgk 50 rfl) dL_most_163 (by decide) (fun _ => ?_) (fun h => absurd (by decide) h)
  refine fl_iinc (k := 0) (lv' := [(1, iv (wr (50 + 1))), (0, .ref x)]) C.1 dL_most_168 hl rfl (by decide) rfl (fun ls hl => ?_)
  rw [show wr (50 + 1) = (51 : Int) from by decide +kernel] at hl
  refine fl_goto (tgt := 152) C.1 dL_most_171 (by decide) ?_
  refine lv_iload_n C.1.1 C.1.2.1 dL_most_152 rfl (lv_at hl 0 rfl) ?_
  refine fl_bipush C.1 dL_most_153 (by decide) ?_
  refine fl_icmp_ge (tgt := 174) C.1 (rgk 51 rfl) (rgk 60 rfl) dL_most_155 (by decide) (fun h => absurd h (by decide)) (fun _ => ?_)
  refine lv_aload_n C.1.1 C.1.2.1 dL_most_158 rfl (lv_at hl 1 rfl) ?_
  refine j_judge (v := 51) (S' := (gJb fB 52)) C (by exact ⟨(Nat.le_of_ble_eq_true rfl), (Nat.le_of_ble_eq_true rfl)⟩) hI hl.1 (gJ_step (n := 51) (by decide)) (Nat.le_of_ble_eq_true rfl) ⟨(Nat.le_of_ble_eq_true rfl), (Nat.le_of_ble_eq_true rfl)⟩ dL_most_159 (fun H locs hI _ => ?_)
  refine lv_iload_n C.1.1 C.1.2.1 dL_most_162 rfl (lv_at hl 0 rfl) ?_
  refine fl_icmp_eq (tgt := 168) C.1 (rgk 51 rfl) (rgk 51 rfl) dL_most_163 (by decide) (fun _ => ?_) (fun h => absurd (by decide) h)
  refine fl_iinc (k := 0) (lv' := [(1, iv (wr (51 + 1))), (0, .ref x)]) C.1 dL_most_168 hl rfl (by decide) rfl (fun ls hl => ?_)
  rw [show wr (51 + 1) = (52 : Int) from by decide +kernel] at hl
  refine fl_goto (tgt := 152) C.1 dL_most_171 (by decide) ?_
  refine lv_iload_n C.1.1 C.1.2.1 dL_most_152 rfl (lv_at hl 0 rfl) ?_
  refine fl_bipush C.1 dL_most_153 (by decide) ?_
  refine fl_icmp_ge (tgt := 174) C.1 (rgk 52 rfl) (rgk 60 rfl) dL_most_155 (by decide) (fun h => absurd h (by decide)) (fun _ => ?_)
  refine lv_aload_n C.1.1 C.1.2.1 dL_most_158 rfl (lv_at hl 1 rfl) ?_
  refine j_judge (v := 52) (S' := (gJb fB 53)) C (by exact ⟨(Nat.le_of_ble_eq_true rfl), (Nat.le_of_ble_eq_true rfl)⟩) hI hl.1 (gJ_step (n := 52) (by decide)) (Nat.le_of_ble_eq_true rfl) ⟨(Nat.le_of_ble_eq_true rfl), (Nat.le_of_ble_eq_true rfl)⟩ dL_most_159 (fun H locs hI _ => ?_)
  refine lv_iload_n C.1.1 C.1.2.1 dL_most_162 rfl (lv_at hl 0 rfl) ?_
  refine fl_icmp_eq (tgt := 168) C.1 (rgk 52 rfl) (rgk 52 rfl) dL_most_163 (by decide) (fun _ => ?_) (fun h => absurd (by decide) h)
  refine fl_iinc (k := 0) (lv' := [(1, iv (wr (52 + 1))), (0, .ref x)]) C.1 dL_most_168 hl rfl (by decide) rfl (fun ls hl => ?_)
  rw [show wr (52 + 1) = (53 : Int) from by decide +kernel] at hl
  refine fl_goto (tgt := 152) C.1 dL_most_171 (by decide) ?_
  refine lv_iload_n C.1.1 C.1.2.1 dL_most_152 rfl (lv_at hl 0 rfl) ?_
  refine fl_bipush C.1 dL_most_153 (by decide) ?_
  refine fl_icmp_ge (tgt := 174) C.1 (rgk 53 rfl) (rgk 60 rfl) dL_most_155 (by decide) (fun h => absurd h (by decide)) (fun _ => ?_)
  refine lv_aload_n C.1.1 C.1.2.1 dL_most_158 rfl (lv_at hl 1 rfl) ?_
  refine j_judge (v := 53) (S' := (gJb fB 54)) C (by exact ⟨(Nat.le_of_ble_eq_true rfl), (Nat.le_of_ble_eq_true rfl)⟩) hI hl.1 (gJ_step (n := 53) (by decide)) (Nat.le_of_ble_eq_true rfl) ⟨(Nat.le_of_ble_eq_true rfl), (Nat.le_of_ble_eq_true rfl)⟩ dL_most_159 (fun H locs hI _ => ?_)
  refine lv_iload_n C.1.1 C.1.2.1 dL_most_162 rfl (lv_at hl 0 rfl) ?_
  refine fl_icmp_eq (tgt := 168) C.1 (rgk 53 rfl) (rgk 53 rfl) dL_most_163 (by decide) (fun _ => ?_) (fun h => absurd (by decide) h)
  refine fl_iinc (k := 0) (lv' := [(1, iv (wr (53 + 1))), (0, .ref x)]) C.1 dL_most_168 hl rfl (by decide) rfl (fun ls hl => ?_)
  rw [show wr (53 + 1) = (54 : Int) from by decide +kernel] at hl
  refine fl_goto (tgt := 152) C.1 dL_most_171 (by decide) ?_
  refine lv_iload_n C.1.1 C.1.2.1 dL_most_152 rfl (lv_at hl 0 rfl) ?_
  refine fl_bipush C.1 dL_most_153 (by decide) ?_
  refine fl_icmp_ge (tgt := 174) C.1 (rgk 54 rfl) (rgk 60 rfl) dL_most_155 (by decide) (fun h => absurd h (by decide)) (fun _ => ?_)
  refine lv_aload_n C.1.1 C.1.2.1 dL_most_158 rfl (lv_at hl 1 rfl) ?_
  refine j_judge (v := 54) (S' := (gJb fB 55)) C (by exact ⟨(Nat.le_of_ble_eq_true rfl), (Nat.le_of_ble_eq_true rfl)⟩) hI hl.1 (gJ_step (n := 54) (by decide)) (Nat.le_of_ble_eq_true rfl) ⟨(Nat.le_of_ble_eq_true rfl), (Nat.le_of_ble_eq_true rfl)⟩ dL_most_159 (fun H locs hI _ => ?_)
  refine lv_iload_n C.1.1 C.1.2.1 dL_most_162 rfl (lv_at hl 0 rfl) ?_
  refine fl_icmp_eq (tgt := 168) C.1 (rgk 54 rfl) (rgk 54 rfl) dL_most_163 (by decide) (fun _ => ?_) (fun h => absurd (by decide) h)
  refine fl_iinc (k := 0) (lv' := [(1, iv (wr (54 + 1))), (0, .ref x)]) C.1 dL_most_168 hl rfl (by decide) rfl (fun ls hl => ?_)
  rw [show wr (54 + 1) = (55 : Int) from by decide +kernel] at hl
  refine fl_goto (tgt := 152) C.1 dL_most_171 (by decide) ?_
  refine lv_iload_n C.1.1 C.1.2.1 dL_most_152 rfl (lv_at hl 0 rfl) ?_
  refine fl_bipush C.1 dL_most_153 (by decide) ?_
  refine fl_icmp_ge (tgt := 174) C.1 (rgk 55 rfl) (rgk 60 rfl) dL_most_155 (by decide) (fun h => absurd h (by decide)) (fun _ => ?_)
  refine lv_aload_n C.1.1 C.1.2.1 dL_most_158 rfl (lv_at hl 1 rfl) ?_
  refine j_judge (v := 55) (S' := (gJb fB 56)) C (by exact ⟨(Nat.le_of_ble_eq_true rfl), (Nat.le_of_ble_eq_true rfl)⟩) hI hl.1 (gJ_step (n := 55) (by decide)) (Nat.le_of_ble_eq_true rfl) ⟨(Nat.le_of_ble_eq_true rfl), (Nat.le_of_ble_eq_true rfl)⟩ dL_most_159 (fun H locs hI _ => ?_)
  refine lv_iload_n C.1.1 C.1.2.1 dL_most_162 rfl (lv_at hl 0 rfl) ?_
  refine fl_icmp_eq (tgt := 168) C.1 (rgk 55 rfl) (rgk 55 rfl) dL_most_163 (by decide) (fun _ => ?_) (fun h => absurd (by decide) h)
  refine fl_iinc (k := 0) (lv' := [(1, iv (wr (55 + 1))), (0, .ref x)]) C.1 dL_most_168 hl rfl (by decide) rfl (fun ls hl => ?_)
  rw [show wr (55 + 1) = (56 : Int) from by decide +kernel] at hl
  refine fl_goto (tgt := 152) C.1 dL_most_171 (by decide) ?_
  refine lv_iload_n C.1.1 C.1.2.1 dL_most_152 rfl (lv_at hl 0 rfl) ?_
  refine fl_bipush C.1 dL_most_153 (by decide) ?_
  refine fl_icmp_ge (tgt := 174) C.1 (rgk 56 rfl) (rgk 60 rfl) dL_most_155 (by decide) (fun h => absurd h (by decide)) (fun _ => ?_)
  refine lv_aload_n C.1.1 C.1.2.1 dL_most_158 rfl (lv_at hl 1 rfl) ?_
  refine j_judge (v := 56) (S' := (gJb fB 57)) C (by exact ⟨(Nat.le_of_ble_eq_true rfl), (Nat.le_of_ble_eq_true rfl)⟩) hI hl.1 (gJ_step (n := 56) (by decide)) (Nat.le_of_ble_eq_true rfl) ⟨(Nat.le_of_ble_eq_true rfl), (Nat.le_of_ble_eq_true rfl)⟩ dL_most_159 (fun H locs hI _ => ?_)
  refine lv_iload_n C.1.1 C.1.2.1 dL_most_162 rfl (lv_at hl 0 rfl) ?_
  refine fl_icmp_eq (tgt := 168) C.1 (rgk 56 rfl) (rgk 56 rfl) dL_most_163 (by decide) (fun _ => ?_) (fun h => absurd (by decide) h)
  refine fl_iinc (k := 0) (lv' := [(1, iv (wr (56 + 1))), (0, .ref x)]) C.1 dL_most_168 hl rfl (by decide) rfl (fun ls hl => ?_)
  rw [show wr (56 + 1) = (57 : Int) from by decide +kernel] at hl
  refine fl_goto (tgt := 152) C.1 dL_most_171 (by decide) ?_
  refine lv_iload_n C.1.1 C.1.2.1 dL_most_152 rfl (lv_at hl 0 rfl) ?_
  refine fl_bipush C.1 dL_most_153 (by decide) ?_
  refine fl_icmp_ge (tgt := 174) C.1 (rgk 57 rfl) (rgk 60 rfl) dL_most_155 (by decide) (fun h => absurd h (by decide)) (fun _ => ?_)
  refine lv_aload_n C.1.1 C.1.2.1 dL_most_158 rfl (lv_at hl 1 rfl) ?_
  refine j_judge (v := 57) (S' := (gJb fB 58)) C (by exact ⟨(Nat.le_of_ble_eq_true rfl), (Nat.le_of_ble_eq_true rfl)⟩) hI hl.1 (gJ_step (n := 57) (by decide)) (Nat.le_of_ble_eq_true rfl) ⟨(Nat.le_of_ble_eq_true rfl), (Nat.le_of_ble_eq_true rfl)⟩ dL_most_159 (fun H locs hI _ => ?_)
  refine lv_iload_n C.1.1 C.1.2.1 dL_most_162 rfl (lv_at hl 0 rfl) ?_
  refine fl_icmp_eq (tgt := 168) C.1 (rgk 57 rfl) (rgk 57 rfl) dL_most_163 (by decide) (fun _ => ?_) (fun h => absurd (by decide) h)
  refine fl_iinc (k := 0) (lv' := [(1, iv (wr (57 + 1))), (0, .ref x)]) C.1 dL_most_168 hl rfl (by decide) rfl (fun ls hl => ?_)
  rw [show wr (57 + 1) = (58 : Int) from by decide +kernel] at hl
  refine fl_goto (tgt := 152) C.1 dL_most_171 (by decide) ?_
  refine lv_iload_n C.1.1 C.1.2.1 dL_most_152 rfl (lv_at hl 0 rfl) ?_
  refine fl_bipush C.1 dL_most_153 (by decide) ?_
  refine fl_icmp_ge (tgt := 174) C.1 (rgk 58 rfl) (rgk 60 rfl) dL_most_155 (by decide) (fun h => absurd h (by decide)) (fun _ => ?_)
  refine lv_aload_n C.1.1 C.1.2.1 dL_most_158 rfl (lv_at hl 1 rfl) ?_
  refine j_judge (v := 58) (S' := (gJb fB 59)) C (by exact ⟨(Nat.le_of_ble_eq_true rfl), (Nat.le_of_ble_eq_true rfl)⟩) hI hl.1 (gJ_step (n := 58) (by decide)) (Nat.le_of_ble_eq_true rfl) ⟨(Nat.le_of_ble_eq_true rfl), (Nat.le_of_ble_eq_true rfl)⟩ dL_most_159 (fun H locs hI _ => ?_)
  refine lv_iload_n C.1.1 C.1.2.1 dL_most_162 rfl (lv_at hl 0 rfl) ?_
  refine fl_icmp_eq (tgt := 168) C.1 (rgk 58 rfl) (rgk 58 rfl) dL_most_163 (by decide) (fun _ => ?_) (fun h => absurd (by decide) h)
  refine fl_iinc (k := 0) (lv' := [(1, iv (wr (58 + 1))), (0, .ref x)]) C.1 dL_most_168 hl rfl (by decide) rfl (fun ls hl => ?_)
  rw [show wr (58 + 1) = (59 : Int) from by decide +kernel] at hl
  refine fl_goto (tgt := 152) C.1 dL_most_171 (by decide) ?_
  refine lv_iload_n C.1.1 C.1.2.1 dL_most_152 rfl (lv_at hl 0 rfl) ?_
  refine fl_bipush C.1 dL_most_153 (by decide) ?_
  refine fl_icmp_ge (tgt := 174) C.1 (rgk 59 rfl) (rgk 60 rfl) dL_most_155 (by decide) (fun h => absurd h (by decide)) (fun _ => ?_)
  refine lv_aload_n C.1.1 C.1.2.1 dL_most_158 rfl (lv_at hl 1 rfl) ?_
  refine j_judge (v := 59) (S' := (gJb fB 60)) C (by exact ⟨(Nat.le_of_ble_eq_true rfl), (Nat.le_of_ble_eq_true rfl)⟩) hI hl.1 (gJ_step (n := 59) (by decide)) (Nat.le_of_ble_eq_true rfl) ⟨(Nat.le_of_ble_eq_true rfl), (Nat.le_of_ble_eq_true rfl)⟩ dL_most_159 (fun H locs hI _ => ?_)
  refine lv_iload_n C.1.1 C.1.2.1 dL_most_162 rfl (lv_at hl 0 rfl) ?_
  refine fl_icmp_eq (tgt := 168) C.1 (rgk 59 rfl) (rgk 59 rfl) dL_most_163 (by decide) (fun _ => ?_) (fun h => absurd (by decide) h)
  refine fl_iinc (k := 0) (lv' := [(1, iv (wr (59 + 1))), (0, .ref x)]) C.1 dL_most_168 hl rfl (by decide) rfl (fun ls hl => ?_)
  rw [show wr (59 + 1) = (60 : Int) from by decide +kernel] at hl
  refine fl_goto (tgt := 152) C.1 dL_most_171 (by decide) ?_
  refine lv_iload_n C.1.1 C.1.2.1 dL_most_152 rfl (lv_at hl 0 rfl) ?_
  refine fl_bipush C.1 dL_most_153 (by decide) ?_
  refine fl_icmp_ge (tgt := 174) C.1 (rgk 60 rfl) (rgk 60 rfl) dL_most_155 (by decide) (fun _ => ?_) (fun h => absurd (by decide) h)
  refine lv_aload_n C.1.1 C.1.2.1 dL_most_174 rfl (lv_at hl 1 rfl) ?_
  refine fl_iconst C.1 dL_most_175 ?_
  refine fl_iconst C.1 dL_most_176 ?_
  refine fl_iconst C.1 dL_most_177 ?_
  refine fl_bipush C.1 dL_most_178 (by decide) ?_
  refine fl_bipush C.1 dL_most_180 (by decide) ?_
  refine k_qentry hst C ⟨(Nat.le_of_ble_eq_true rfl), (Nat.le_of_ble_eq_true rfl)⟩ hI hl.1 (rgk 5 rfl) (rgk 0 rfl) (rgk (-1) rfl) (rgk 100 rfl) (rgk 12 rfl) fSf34 (Nat.le_of_ble_eq_true rfl) ⟨(Nat.le_of_ble_eq_true rfl), (Nat.le_of_ble_eq_true rfl)⟩ dL_most_182 (fun H locs hI _ => ?_)
  refine fl_if_eq (tgt := 257) C.1 (rgk 1 rfl) dL_most_185 (by decide) (fun h => absurd h (by decide)) (fun _ => ?_)
  refine lv_aload_n C.1.1 C.1.2.1 dL_most_188 rfl (lv_at hl 1 rfl) ?_
  refine fl_iconst C.1 dL_most_189 ?_
  refine fl_iconst C.1 dL_most_190 ?_
  refine fl_iconst C.1 dL_most_191 ?_
  refine fl_iconst C.1 dL_most_192 ?_
  refine fl_iconst C.1 dL_most_193 ?_
  refine k_qentry hst C ⟨(Nat.le_of_ble_eq_true rfl), (Nat.le_of_ble_eq_true rfl)⟩ hI hl.1 (rgk 4 rfl) (rgk 0 rfl) (rgk (-1) rfl) (rgk 0 rfl) (rgk 0 rfl) fSf35 (Nat.le_of_ble_eq_true rfl) ⟨(Nat.le_of_ble_eq_true rfl), (Nat.le_of_ble_eq_true rfl)⟩ dL_most_194 (fun H locs hI _ => ?_)
  refine fl_if_eq (tgt := 257) C.1 (rgk 1 rfl) dL_most_197 (by decide) (fun h => absurd h (by decide)) (fun _ => ?_)
  refine lv_aload_n C.1.1 C.1.2.1 dL_most_200 rfl (lv_at hl 1 rfl) ?_
  refine fl_bipush C.1 dL_most_201 (by decide) ?_
  refine fl_iconst C.1 dL_most_203 ?_
  refine fl_iconst C.1 dL_most_204 ?_
  refine fl_iconst C.1 dL_most_205 ?_
  refine k_act hst C ⟨(Nat.le_of_ble_eq_true rfl), (Nat.le_of_ble_eq_true rfl)⟩ hI hl.1 (rgk 16 rfl) (rgk 2 rfl) (rgk 5 rfl) (rgk 0 rfl) fSf36 (Nat.le_of_ble_eq_true rfl) ⟨(Nat.le_of_ble_eq_true rfl), (Nat.le_of_ble_eq_true rfl)⟩ dL_most_206 (fun H locs hI _ => ?_)
  refine fl_ldc (n := (-7000003)) C.1 aw_803 rfl dL_most_209 ?_
  refine fl_icmp_ne (tgt := 257) C.1 (rgk (-7000003) rfl) (rgk (-7000003) rfl) dL_most_211 (by decide) (fun h => absurd rfl h) (fun _ => ?_)
  refine lv_aload_n C.1.1 C.1.2.1 dL_most_214 rfl (lv_at hl 1 rfl) ?_
  refine fl_bipush C.1 dL_most_215 (by decide) ?_
  refine fl_iconst C.1 dL_most_217 ?_
  refine fl_bipush C.1 dL_most_218 (by decide) ?_
  refine fl_iconst C.1 dL_most_220 ?_
  refine k_act hst C ⟨(Nat.le_of_ble_eq_true rfl), (Nat.le_of_ble_eq_true rfl)⟩ hI hl.1 (rgk 16 rfl) (rgk 5 rfl) (rgk 53 rfl) (rgk 0 rfl) fSf37 (Nat.le_of_ble_eq_true rfl) ⟨(Nat.le_of_ble_eq_true rfl), (Nat.le_of_ble_eq_true rfl)⟩ dL_most_221 (fun H locs hI _ => ?_)
  refine fl_ldc (n := (-7000003)) C.1 aw_803 rfl dL_most_224 ?_
  refine fl_icmp_ne (tgt := 257) C.1 (rgk (-7000003) rfl) (rgk (-7000003) rfl) dL_most_226 (by decide) (fun h => absurd rfl h) (fun _ => ?_)
  refine lv_aload_n C.1.1 C.1.2.1 dL_most_229 rfl (lv_at hl 1 rfl) ?_
  refine fl_iconst C.1 dL_most_230 ?_
  refine fl_iconst C.1 dL_most_231 ?_
  refine fl_iconst C.1 dL_most_232 ?_
  refine fl_iconst C.1 dL_most_233 ?_
  refine fl_iconst C.1 dL_most_234 ?_
  refine fl_iconst C.1 dL_most_235 ?_
  refine k_qboard hst C ⟨(Nat.le_of_ble_eq_true rfl), (Nat.le_of_ble_eq_true rfl)⟩ hI hl.1 (rgk 0 rfl) (rgk 0 rfl) (rgk 0 rfl) (rgk 3 rfl) (rgk 0 rfl) (rgk 0 rfl) fSf38 (Nat.le_of_ble_eq_true rfl) ⟨(Nat.le_of_ble_eq_true rfl), (Nat.le_of_ble_eq_true rfl)⟩ dL_most_236 (fun H locs hI _ => ?_)
  refine fl_if_eq (tgt := 257) C.1 (rgk 1 rfl) dL_most_239 (by decide) (fun h => absurd h (by decide)) (fun _ => ?_)
  refine lv_aload_n C.1.1 C.1.2.1 dL_most_242 rfl (lv_at hl 1 rfl) ?_
  refine fl_bipush C.1 dL_most_243 (by decide) ?_
  refine fl_iconst C.1 dL_most_245 ?_
  refine fl_bipush C.1 dL_most_246 (by decide) ?_
  refine fl_iconst C.1 dL_most_248 ?_
  refine fl_iconst C.1 dL_most_249 ?_
  refine fl_iconst C.1 dL_most_250 ?_
  refine k_qboard hst C ⟨(Nat.le_of_ble_eq_true rfl), (Nat.le_of_ble_eq_true rfl)⟩ hI hl.1 (rgk 7 rfl) (rgk 1 rfl) (rgk 7 rfl) (rgk 3 rfl) (rgk 0 rfl) (rgk 0 rfl) fSf39 (Nat.le_of_ble_eq_true rfl) ⟨(Nat.le_of_ble_eq_true rfl), (Nat.le_of_ble_eq_true rfl)⟩ dL_most_251 (fun H locs hI _ => ?_)
  refine fl_if_ne (tgt := 259) C.1 (rgk 1 rfl) dL_most_254 (by decide) (fun _ => ?_) (fun h => absurd h (by decide))
  refine fl_iconst C.1 dL_most_259 ?_
  refine lv_istore_n (lv' := [(1, iv 1), (0, .ref x)]) C.1.1 C.1.2.1 dL_most_260 rfl hl (by decide) rfl (fun ls hl => ?_)
  refine lv_iload_n C.1.1 C.1.2.1 dL_most_261 rfl (lv_at hl 0 rfl) ?_
  refine fl_bipush C.1 dL_most_262 (by decide) ?_
  refine fl_icmp_ge (tgt := 290) C.1 (rgk 1 rfl) (rgk 34 rfl) dL_most_264 (by decide) (fun h => absurd h (by decide)) (fun _ => ?_)
  refine lv_aload_n C.1.1 C.1.2.1 dL_most_267 rfl (lv_at hl 1 rfl) ?_
  refine fl_sipush C.1 dL_most_268 (by decide) ?_
  refine j_pass hst C (by exact ⟨(Nat.le_of_ble_eq_true rfl), (Nat.le_of_ble_eq_true rfl)⟩) hI hl.1 (rgk 300 rfl) fSf40 (Nat.le_of_ble_eq_true rfl) ⟨(Nat.le_of_ble_eq_true rfl), (Nat.le_of_ble_eq_true rfl)⟩ dL_most_271 (fun H locs hI _ => ?_)
  refine fl_sipush C.1 dL_most_274 (by decide) ?_
  refine lv_iload_n C.1.1 C.1.2.1 dL_most_277 rfl (lv_at hl 0 rfl) ?_
  refine h_imul (z := 300) C.1 (by decide +kernel) dL_most_278 ?_
  refine fl_icmp_eq (tgt := 284) C.1 (rgk 300 rfl) (rgk 300 rfl) dL_most_279 (by decide) (fun _ => ?_) (fun h => absurd (by decide) h)
  refine fl_iinc (k := 0) (lv' := [(1, iv (wr (1 + 1))), (0, .ref x)]) C.1 dL_most_284 hl rfl (by decide) rfl (fun ls hl => ?_)
  rw [show wr (1 + 1) = (2 : Int) from by decide +kernel] at hl
  refine fl_goto (tgt := 261) C.1 dL_most_287 (by decide) ?_
  refine lv_iload_n C.1.1 C.1.2.1 dL_most_261 rfl (lv_at hl 0 rfl) ?_
  refine fl_bipush C.1 dL_most_262 (by decide) ?_
  refine fl_icmp_ge (tgt := 290) C.1 (rgk 2 rfl) (rgk 34 rfl) dL_most_264 (by decide) (fun h => absurd h (by decide)) (fun _ => ?_)
  refine lv_aload_n C.1.1 C.1.2.1 dL_most_267 rfl (lv_at hl 1 rfl) ?_
  refine fl_sipush C.1 dL_most_268 (by decide) ?_
  refine j_pass hst C (by exact ⟨(Nat.le_of_ble_eq_true rfl), (Nat.le_of_ble_eq_true rfl)⟩) hI hl.1 (rgk 300 rfl) fSf41 (Nat.le_of_ble_eq_true rfl) ⟨(Nat.le_of_ble_eq_true rfl), (Nat.le_of_ble_eq_true rfl)⟩ dL_most_271 (fun H locs hI _ => ?_)
  refine fl_sipush C.1 dL_most_274 (by decide) ?_
  refine lv_iload_n C.1.1 C.1.2.1 dL_most_277 rfl (lv_at hl 0 rfl) ?_
  refine h_imul (z := 600) C.1 (by decide +kernel) dL_most_278 ?_
  refine fl_icmp_eq (tgt := 284) C.1 (rgk 600 rfl) (rgk 600 rfl) dL_most_279 (by decide) (fun _ => ?_) (fun h => absurd (by decide) h)
  refine fl_iinc (k := 0) (lv' := [(1, iv (wr (2 + 1))), (0, .ref x)]) C.1 dL_most_284 hl rfl (by decide) rfl (fun ls hl => ?_)
  rw [show wr (2 + 1) = (3 : Int) from by decide +kernel] at hl
  refine fl_goto (tgt := 261) C.1 dL_most_287 (by decide) ?_
  refine lv_iload_n C.1.1 C.1.2.1 dL_most_261 rfl (lv_at hl 0 rfl) ?_
  refine fl_bipush C.1 dL_most_262 (by decide) ?_
  refine fl_icmp_ge (tgt := 290) C.1 (rgk 3 rfl) (rgk 34 rfl) dL_most_264 (by decide) (fun h => absurd h (by decide)) (fun _ => ?_)
  refine lv_aload_n C.1.1 C.1.2.1 dL_most_267 rfl (lv_at hl 1 rfl) ?_
  refine fl_sipush C.1 dL_most_268 (by decide) ?_
  refine j_pass hst C (by exact ⟨(Nat.le_of_ble_eq_true rfl), (Nat.le_of_ble_eq_true rfl)⟩) hI hl.1 (rgk 300 rfl) fSf42 (Nat.le_of_ble_eq_true rfl) ⟨(Nat.le_of_ble_eq_true rfl), (Nat.le_of_ble_eq_true rfl)⟩ dL_most_271 (fun H locs hI _ => ?_)
  refine fl_sipush C.1 dL_most_274 (by decide) ?_
  refine lv_iload_n C.1.1 C.1.2.1 dL_most_277 rfl (lv_at hl 0 rfl) ?_
  refine h_imul (z := 900) C.1 (by decide +kernel) dL_most_278 ?_
  refine fl_icmp_eq (tgt := 284) C.1 (rgk 900 rfl) (rgk 900 rfl) dL_most_279 (by decide) (fun _ => ?_) (fun h => absurd (by decide) h)
  refine fl_iinc (k := 0) (lv' := [(1, iv (wr (3 + 1))), (0, .ref x)]) C.1 dL_most_284 hl rfl (by decide) rfl (fun ls hl => ?_)
  rw [show wr (3 + 1) = (4 : Int) from by decide +kernel] at hl
  refine fl_goto (tgt := 261) C.1 dL_most_287 (by decide) ?_
  refine lv_iload_n C.1.1 C.1.2.1 dL_most_261 rfl (lv_at hl 0 rfl) ?_
  refine fl_bipush C.1 dL_most_262 (by decide) ?_
  refine fl_icmp_ge (tgt := 290) C.1 (rgk 4 rfl) (rgk 34 rfl) dL_most_264 (by decide) (fun h => absurd h (by decide)) (fun _ => ?_)
  refine lv_aload_n C.1.1 C.1.2.1 dL_most_267 rfl (lv_at hl 1 rfl) ?_
  refine fl_sipush C.1 dL_most_268 (by decide) ?_
  refine j_pass hst C (by exact ⟨(Nat.le_of_ble_eq_true rfl), (Nat.le_of_ble_eq_true rfl)⟩) hI hl.1 (rgk 300 rfl) fSf43 (Nat.le_of_ble_eq_true rfl) ⟨(Nat.le_of_ble_eq_true rfl), (Nat.le_of_ble_eq_true rfl)⟩ dL_most_271 (fun H locs hI _ => ?_)
  refine fl_sipush C.1 dL_most_274 (by decide) ?_
  refine lv_iload_n C.1.1 C.1.2.1 dL_most_277 rfl (lv_at hl 0 rfl) ?_
  refine h_imul (z := 1200) C.1 (by decide +kernel) dL_most_278 ?_
  refine fl_icmp_eq (tgt := 284) C.1 (rgk 1200 rfl) (rgk 1200 rfl) dL_most_279 (by decide) (fun _ => ?_) (fun h => absurd (by decide) h)
  refine fl_iinc (k := 0) (lv' := [(1, iv (wr (4 + 1))), (0, .ref x)]) C.1 dL_most_284 hl rfl (by decide) rfl (fun ls hl => ?_)
  rw [show wr (4 + 1) = (5 : Int) from by decide +kernel] at hl
  refine fl_goto (tgt := 261) C.1 dL_most_287 (by decide) ?_
  refine lv_iload_n C.1.1 C.1.2.1 dL_most_261 rfl (lv_at hl 0 rfl) ?_
  refine fl_bipush C.1 dL_most_262 (by decide) ?_
  refine fl_icmp_ge (tgt := 290) C.1 (rgk 5 rfl) (rgk 34 rfl) dL_most_264 (by decide) (fun h => absurd h (by decide)) (fun _ => ?_)
  refine lv_aload_n C.1.1 C.1.2.1 dL_most_267 rfl (lv_at hl 1 rfl) ?_
  refine fl_sipush C.1 dL_most_268 (by decide) ?_
  refine j_pass hst C (by exact ⟨(Nat.le_of_ble_eq_true rfl), (Nat.le_of_ble_eq_true rfl)⟩) hI hl.1 (rgk 300 rfl) fSf44 (Nat.le_of_ble_eq_true rfl) ⟨(Nat.le_of_ble_eq_true rfl), (Nat.le_of_ble_eq_true rfl)⟩ dL_most_271 (fun H locs hI _ => ?_)
  refine fl_sipush C.1 dL_most_274 (by decide) ?_
  refine lv_iload_n C.1.1 C.1.2.1 dL_most_277 rfl (lv_at hl 0 rfl) ?_
  refine h_imul (z := 1500) C.1 (by decide +kernel) dL_most_278 ?_
  refine fl_icmp_eq (tgt := 284) C.1 (rgk 1500 rfl) (rgk 1500 rfl) dL_most_279 (by decide) (fun _ => ?_) (fun h => absurd (by decide) h)
  refine fl_iinc (k := 0) (lv' := [(1, iv (wr (5 + 1))), (0, .ref x)]) C.1 dL_most_284 hl rfl (by decide) rfl (fun ls hl => ?_)
  rw [show wr (5 + 1) = (6 : Int) from by decide +kernel] at hl
  refine fl_goto (tgt := 261) C.1 dL_most_287 (by decide) ?_
  refine lv_iload_n C.1.1 C.1.2.1 dL_most_261 rfl (lv_at hl 0 rfl) ?_
  refine fl_bipush C.1 dL_most_262 (by decide) ?_
  refine fl_icmp_ge (tgt := 290) C.1 (rgk 6 rfl) (rgk 34 rfl) dL_most_264 (by decide) (fun h => absurd h (by decide)) (fun _ => ?_)
  refine lv_aload_n C.1.1 C.1.2.1 dL_most_267 rfl (lv_at hl 1 rfl) ?_
  refine fl_sipush C.1 dL_most_268 (by decide) ?_
  refine j_pass hst C (by exact ⟨(Nat.le_of_ble_eq_true rfl), (Nat.le_of_ble_eq_true rfl)⟩) hI hl.1 (rgk 300 rfl) fSf45 (Nat.le_of_ble_eq_true rfl) ⟨(Nat.le_of_ble_eq_true rfl), (Nat.le_of_ble_eq_true rfl)⟩ dL_most_271 (fun H locs hI _ => ?_)
  refine fl_sipush C.1 dL_most_274 (by decide) ?_
  refine lv_iload_n C.1.1 C.1.2.1 dL_most_277 rfl (lv_at hl 0 rfl) ?_
  refine h_imul (z := 1800) C.1 (by decide +kernel) dL_most_278 ?_
  refine fl_icmp_eq (tgt := 284) C.1 (rgk 1800 rfl) (rgk 1800 rfl) dL_most_279 (by decide) (fun _ => ?_) (fun h => absurd (by decide) h)
  refine fl_iinc (k := 0) (lv' := [(1, iv (wr (6 + 1))), (0, .ref x)]) C.1 dL_most_284 hl rfl (by decide) rfl (fun ls hl => ?_)
  rw [show wr (6 + 1) = (7 : Int) from by decide +kernel] at hl
  refine fl_goto (tgt := 261) C.1 dL_most_287 (by decide) ?_
  refine lv_iload_n C.1.1 C.1.2.1 dL_most_261 rfl (lv_at hl 0 rfl) ?_
  refine fl_bipush C.1 dL_most_262 (by decide) ?_
  refine fl_icmp_ge (tgt := 290) C.1 (rgk 7 rfl) (rgk 34 rfl) dL_most_264 (by decide) (fun h => absurd h (by decide)) (fun _ => ?_)
  refine lv_aload_n C.1.1 C.1.2.1 dL_most_267 rfl (lv_at hl 1 rfl) ?_
  refine fl_sipush C.1 dL_most_268 (by decide) ?_
  refine j_pass hst C (by exact ⟨(Nat.le_of_ble_eq_true rfl), (Nat.le_of_ble_eq_true rfl)⟩) hI hl.1 (rgk 300 rfl) fSf46 (Nat.le_of_ble_eq_true rfl) ⟨(Nat.le_of_ble_eq_true rfl), (Nat.le_of_ble_eq_true rfl)⟩ dL_most_271 (fun H locs hI _ => ?_)
  refine fl_sipush C.1 dL_most_274 (by decide) ?_
  refine lv_iload_n C.1.1 C.1.2.1 dL_most_277 rfl (lv_at hl 0 rfl) ?_
  refine h_imul (z := 2100) C.1 (by decide +kernel) dL_most_278 ?_
  refine fl_icmp_eq (tgt := 284) C.1 (rgk 2100 rfl) (rgk 2100 rfl) dL_most_279 (by decide) (fun _ => ?_) (fun h => absurd (by decide) h)
  refine fl_iinc (k := 0) (lv' := [(1, iv (wr (7 + 1))), (0, .ref x)]) C.1 dL_most_284 hl rfl (by decide) rfl (fun ls hl => ?_)
  rw [show wr (7 + 1) = (8 : Int) from by decide +kernel] at hl
  refine fl_goto (tgt := 261) C.1 dL_most_287 (by decide) ?_
  refine lv_iload_n C.1.1 C.1.2.1 dL_most_261 rfl (lv_at hl 0 rfl) ?_
  refine fl_bipush C.1 dL_most_262 (by decide) ?_
  refine fl_icmp_ge (tgt := 290) C.1 (rgk 8 rfl) (rgk 34 rfl) dL_most_264 (by decide) (fun h => absurd h (by decide)) (fun _ => ?_)
  refine lv_aload_n C.1.1 C.1.2.1 dL_most_267 rfl (lv_at hl 1 rfl) ?_
  refine fl_sipush C.1 dL_most_268 (by decide) ?_
  refine j_pass hst C (by exact ⟨(Nat.le_of_ble_eq_true rfl), (Nat.le_of_ble_eq_true rfl)⟩) hI hl.1 (rgk 300 rfl) fSf47 (Nat.le_of_ble_eq_true rfl) ⟨(Nat.le_of_ble_eq_true rfl), (Nat.le_of_ble_eq_true rfl)⟩ dL_most_271 (fun H locs hI _ => ?_)
  refine fl_sipush C.1 dL_most_274 (by decide) ?_
  refine lv_iload_n C.1.1 C.1.2.1 dL_most_277 rfl (lv_at hl 0 rfl) ?_
  refine h_imul (z := 2400) C.1 (by decide +kernel) dL_most_278 ?_
  refine fl_icmp_eq (tgt := 284) C.1 (rgk 2400 rfl) (rgk 2400 rfl) dL_most_279 (by decide) (fun _ => ?_) (fun h => absurd (by decide) h)
  exact W.widen (Nat.le_of_ble_eq_true rfl) (Nat.le_of_ble_eq_true rfl) (kk H locs ls hI hl)
set_option maxRecDepth 100000 in
set_option maxHeartbeats 4000000 in
theorem w_most_7 (hst : l.stackTraces = false) (C : LC p s m meth c D cy B cL_most 2) (kk : ∀ (H : Heap) (locs : List Loc) (ls : Array Slot), HI D cy B s.heap H locs x fS67 → lv_has ls 2 [(1, iv 32), (0, .ref x)] → W p l e rm_L_most s m args below meth c H locs 892 172089 Q (F0 m 284 ls [])) : ∀ (H : Heap) (locs : List Loc) (ls : Array Slot), HI D cy B s.heap H locs x fS43 → lv_has ls 2 [(1, iv 8), (0, .ref x)] → W p l e rm_L_most s m args below meth c H locs 844 171801 Q (F0 m 284 ls []) := by
  intro H locs ls hI hl
  refine fl_iinc (k := 0) (lv' := [(1, iv (wr (8 + 1))), (0, .ref x)]) C.1 dL_most_284 hl rfl (by decide) rfl (fun ls hl => ?_)
  rw [show wr (8 + 1) = (9 : Int) from by decide +kernel] at hl
  refine fl_goto (tgt := 261) C.1 dL_most_287 (by decide) ?_
  refine lv_iload_n C.1.1 C.1.2.1 dL_most_261 rfl (lv_at hl 0 rfl) ?_
  refine fl_bipush C.1 dL_most_262 (by decide) ?_
  refine fl_icmp_ge (tgt := 290) C.1 (rgk 9 rfl) (rgk 34 rfl) dL_most_264 (by decide) (fun h => absurd h (by decide)) (fun _ => ?_)
  refine lv_aload_n C.1.1 C.1.2.1 dL_most_267 rfl (lv_at hl 1 rfl) ?_
  refine fl_sipush C.1 dL_most_268 (by decide) ?_
  refine j_pass hst C (by exact ⟨(Nat.le_of_ble_eq_true rfl), (Nat.le_of_ble_eq_true rfl)⟩) hI hl.1 (rgk 300 rfl) fSf48 (Nat.le_of_ble_eq_true rfl) ⟨(Nat.le_of_ble_eq_true rfl), (Nat.le_of_ble_eq_true rfl)⟩ dL_most_271 (fun H locs hI _ => ?_)
  refine fl_sipush C.1 dL_most_274 (by decide) ?_
  refine lv_iload_n C.1.1 C.1.2.1 dL_most_277 rfl (lv_at hl 0 rfl) ?_
  refine h_imul (z := 2700) C.1 (by decide +kernel) dL_most_278 ?_
  refine fl_icmp_eq (tgt := 284) C.1 (rgk 2700 rfl) (rgk 2700 rfl) dL_most_279 (by decide) (fun _ => ?_) (fun h => absurd (by decide) h)
  refine fl_iinc (k := 0) (lv' := [(1, iv (wr (9 + 1))), (0, .ref x)]) C.1 dL_most_284 hl rfl (by decide) rfl (fun ls hl => ?_)
  rw [show wr (9 + 1) = (10 : Int) from by decide +kernel] at hl
  refine fl_goto (tgt := 261) C.1 dL_most_287 (by decide) ?_
  refine lv_iload_n C.1.1 C.1.2.1 dL_most_261 rfl (lv_at hl 0 rfl) ?_
  refine fl_bipush C.1 dL_most_262 (by decide) ?_
  refine fl_icmp_ge (tgt := 290) C.1 (rgk 10 rfl) (rgk 34 rfl) dL_most_264 (by decide) (fun h => absurd h (by decide)) (fun _ => ?_)
  refine lv_aload_n C.1.1 C.1.2.1 dL_most_267 rfl (lv_at hl 1 rfl) ?_
  refine fl_sipush C.1 dL_most_268 (by decide) ?_
  refine j_pass hst C (by exact ⟨(Nat.le_of_ble_eq_true rfl), (Nat.le_of_ble_eq_true rfl)⟩) hI hl.1 (rgk 300 rfl) fSf49 (Nat.le_of_ble_eq_true rfl) ⟨(Nat.le_of_ble_eq_true rfl), (Nat.le_of_ble_eq_true rfl)⟩ dL_most_271 (fun H locs hI _ => ?_)
  refine fl_sipush C.1 dL_most_274 (by decide) ?_
  refine lv_iload_n C.1.1 C.1.2.1 dL_most_277 rfl (lv_at hl 0 rfl) ?_
  refine h_imul (z := 3000) C.1 (by decide +kernel) dL_most_278 ?_
  refine fl_icmp_eq (tgt := 284) C.1 (rgk 3000 rfl) (rgk 3000 rfl) dL_most_279 (by decide) (fun _ => ?_) (fun h => absurd (by decide) h)
  refine fl_iinc (k := 0) (lv' := [(1, iv (wr (10 + 1))), (0, .ref x)]) C.1 dL_most_284 hl rfl (by decide) rfl (fun ls hl => ?_)
  rw [show wr (10 + 1) = (11 : Int) from by decide +kernel] at hl
  refine fl_goto (tgt := 261) C.1 dL_most_287 (by decide) ?_
  refine lv_iload_n C.1.1 C.1.2.1 dL_most_261 rfl (lv_at hl 0 rfl) ?_
  refine fl_bipush C.1 dL_most_262 (by decide) ?_
  refine fl_icmp_ge (tgt := 290) C.1 (rgk 11 rfl) (rgk 34 rfl) dL_most_264 (by decide) (fun h => absurd h (by decide)) (fun _ => ?_)
  refine lv_aload_n C.1.1 C.1.2.1 dL_most_267 rfl (lv_at hl 1 rfl) ?_
  refine fl_sipush C.1 dL_most_268 (by decide) ?_
  refine j_pass hst C (by exact ⟨(Nat.le_of_ble_eq_true rfl), (Nat.le_of_ble_eq_true rfl)⟩) hI hl.1 (rgk 300 rfl) fSf50 (Nat.le_of_ble_eq_true rfl) ⟨(Nat.le_of_ble_eq_true rfl), (Nat.le_of_ble_eq_true rfl)⟩ dL_most_271 (fun H locs hI _ => ?_)
  refine fl_sipush C.1 dL_most_274 (by decide) ?_
  refine lv_iload_n C.1.1 C.1.2.1 dL_most_277 rfl (lv_at hl 0 rfl) ?_
  refine h_imul (z := 3300) C.1 (by decide +kernel) dL_most_278 ?_
  refine fl_icmp_eq (tgt := 284) C.1 (rgk 3300 rfl) (rgk 3300 rfl) dL_most_279 (by decide) (fun _ => ?_) (fun h => absurd (by decide) h)
  refine fl_iinc (k := 0) (lv' := [(1, iv (wr (11 + 1))), (0, .ref x)]) C.1 dL_most_284 hl rfl (by decide) rfl (fun ls hl => ?_)
  rw [show wr (11 + 1) = (12 : Int) from by decide +kernel] at hl
  refine fl_goto (tgt := 261) C.1 dL_most_287 (by decide) ?_
  refine lv_iload_n C.1.1 C.1.2.1 dL_most_261 rfl (lv_at hl 0 rfl) ?_
  refine fl_bipush C.1 dL_most_262 (by decide) ?_
  refine fl_icmp_ge (tgt := 290) C.1 (rgk 12 rfl) (rgk 34 rfl) dL_most_264 (by decide) (fun h => absurd h (by decide)) (fun _ => ?_)
  refine lv_aload_n C.1.1 C.1.2.1 dL_most_267 rfl (lv_at hl 1 rfl) ?_
  refine fl_sipush C.1 dL_most_268 (by decide) ?_
  refine j_pass hst C (by exact ⟨(Nat.le_of_ble_eq_true rfl), (Nat.le_of_ble_eq_true rfl)⟩) hI hl.1 (rgk 300 rfl) fSf51 (Nat.le_of_ble_eq_true rfl) ⟨(Nat.le_of_ble_eq_true rfl), (Nat.le_of_ble_eq_true rfl)⟩ dL_most_271 (fun H locs hI _ => ?_)
  refine fl_sipush C.1 dL_most_274 (by decide) ?_
  refine lv_iload_n C.1.1 C.1.2.1 dL_most_277 rfl (lv_at hl 0 rfl) ?_
  refine h_imul (z := 3600) C.1 (by decide +kernel) dL_most_278 ?_
  refine fl_icmp_eq (tgt := 284) C.1 (rgk 3600 rfl) (rgk 3600 rfl) dL_most_279 (by decide) (fun _ => ?_) (fun h => absurd (by decide) h)
  refine fl_iinc (k := 0) (lv' := [(1, iv (wr (12 + 1))), (0, .ref x)]) C.1 dL_most_284 hl rfl (by decide) rfl (fun ls hl => ?_)
  rw [show wr (12 + 1) = (13 : Int) from by decide +kernel] at hl
  refine fl_goto (tgt := 261) C.1 dL_most_287 (by decide) ?_
  refine lv_iload_n C.1.1 C.1.2.1 dL_most_261 rfl (lv_at hl 0 rfl) ?_
  refine fl_bipush C.1 dL_most_262 (by decide) ?_
  refine fl_icmp_ge (tgt := 290) C.1 (rgk 13 rfl) (rgk 34 rfl) dL_most_264 (by decide) (fun h => absurd h (by decide)) (fun _ => ?_)
  refine lv_aload_n C.1.1 C.1.2.1 dL_most_267 rfl (lv_at hl 1 rfl) ?_
  refine fl_sipush C.1 dL_most_268 (by decide) ?_
  refine j_pass hst C (by exact ⟨(Nat.le_of_ble_eq_true rfl), (Nat.le_of_ble_eq_true rfl)⟩) hI hl.1 (rgk 300 rfl) fSf52 (Nat.le_of_ble_eq_true rfl) ⟨(Nat.le_of_ble_eq_true rfl), (Nat.le_of_ble_eq_true rfl)⟩ dL_most_271 (fun H locs hI _ => ?_)
  refine fl_sipush C.1 dL_most_274 (by decide) ?_
  refine lv_iload_n C.1.1 C.1.2.1 dL_most_277 rfl (lv_at hl 0 rfl) ?_
  refine h_imul (z := 3900) C.1 (by decide +kernel) dL_most_278 ?_
  refine fl_icmp_eq (tgt := 284) C.1 (rgk 3900 rfl) (rgk 3900 rfl) dL_most_279 (by decide) (fun _ => ?_) (fun h => absurd (by decide) h)
  refine fl_iinc (k := 0) (lv' := [(1, iv (wr (13 + 1))), (0, .ref x)]) C.1 dL_most_284 hl rfl (by decide) rfl (fun ls hl => ?_)
  rw [show wr (13 + 1) = (14 : Int) from by decide +kernel] at hl
  refine fl_goto (tgt := 261) C.1 dL_most_287 (by decide) ?_
  refine lv_iload_n C.1.1 C.1.2.1 dL_most_261 rfl (lv_at hl 0 rfl) ?_
  refine fl_bipush C.1 dL_most_262 (by decide) ?_
  refine fl_icmp_ge (tgt := 290) C.1 (rgk 14 rfl) (rgk 34 rfl) dL_most_264 (by decide) (fun h => absurd h (by decide)) (fun _ => ?_)
  refine lv_aload_n C.1.1 C.1.2.1 dL_most_267 rfl (lv_at hl 1 rfl) ?_
  refine fl_sipush C.1 dL_most_268 (by decide) ?_
  refine j_pass hst C (by exact ⟨(Nat.le_of_ble_eq_true rfl), (Nat.le_of_ble_eq_true rfl)⟩) hI hl.1 (rgk 300 rfl) fSf53 (Nat.le_of_ble_eq_true rfl) ⟨(Nat.le_of_ble_eq_true rfl), (Nat.le_of_ble_eq_true rfl)⟩ dL_most_271 (fun H locs hI _ => ?_)
  refine fl_sipush C.1 dL_most_274 (by decide) ?_
  refine lv_iload_n C.1.1 C.1.2.1 dL_most_277 rfl (lv_at hl 0 rfl) ?_
  refine h_imul (z := 4200) C.1 (by decide +kernel) dL_most_278 ?_
  refine fl_icmp_eq (tgt := 284) C.1 (rgk 4200 rfl) (rgk 4200 rfl) dL_most_279 (by decide) (fun _ => ?_) (fun h => absurd (by decide) h)
  refine fl_iinc (k := 0) (lv' := [(1, iv (wr (14 + 1))), (0, .ref x)]) C.1 dL_most_284 hl rfl (by decide) rfl (fun ls hl => ?_)
  rw [show wr (14 + 1) = (15 : Int) from by decide +kernel] at hl
  refine fl_goto (tgt := 261) C.1 dL_most_287 (by decide) ?_
  refine lv_iload_n C.1.1 C.1.2.1 dL_most_261 rfl (lv_at hl 0 rfl) ?_
  refine fl_bipush C.1 dL_most_262 (by decide) ?_
  refine fl_icmp_ge (tgt := 290) C.1 (rgk 15 rfl) (rgk 34 rfl) dL_most_264 (by decide) (fun h => absurd h (by decide)) (fun _ => ?_)
  refine lv_aload_n C.1.1 C.1.2.1 dL_most_267 rfl (lv_at hl 1 rfl) ?_
  refine fl_sipush C.1 dL_most_268 (by decide) ?_
  refine j_pass hst C (by exact ⟨(Nat.le_of_ble_eq_true rfl), (Nat.le_of_ble_eq_true rfl)⟩) hI hl.1 (rgk 300 rfl) fSf54 (Nat.le_of_ble_eq_true rfl) ⟨(Nat.le_of_ble_eq_true rfl), (Nat.le_of_ble_eq_true rfl)⟩ dL_most_271 (fun H locs hI _ => ?_)
  refine fl_sipush C.1 dL_most_274 (by decide) ?_
  refine lv_iload_n C.1.1 C.1.2.1 dL_most_277 rfl (lv_at hl 0 rfl) ?_
  refine h_imul (z := 4500) C.1 (by decide +kernel) dL_most_278 ?_
  refine fl_icmp_eq (tgt := 284) C.1 (rgk 4500 rfl) (rgk 4500 rfl) dL_most_279 (by decide) (fun _ => ?_) (fun h => absurd (by decide) h)
  refine fl_iinc (k := 0) (lv' := [(1, iv (wr (15 + 1))), (0, .ref x)]) C.1 dL_most_284 hl rfl (by decide) rfl (fun ls hl => ?_)
  rw [show wr (15 + 1) = (16 : Int) from by decide +kernel] at hl
  refine fl_goto (tgt := 261) C.1 dL_most_287 (by decide) ?_
  refine lv_iload_n C.1.1 C.1.2.1 dL_most_261 rfl (lv_at hl 0 rfl) ?_
  refine fl_bipush C.1 dL_most_262 (by decide) ?_
  refine fl_icmp_ge (tgt := 290) C.1 (rgk 16 rfl) (rgk 34 rfl) dL_most_264 (by decide) (fun h => absurd h (by decide)) (fun _ => ?_)
  refine lv_aload_n C.1.1 C.1.2.1 dL_most_267 rfl (lv_at hl 1 rfl) ?_
  refine fl_sipush C.1 dL_most_268 (by decide) ?_
  refine j_pass hst C (by exact ⟨(Nat.le_of_ble_eq_true rfl), (Nat.le_of_ble_eq_true rfl)⟩) hI hl.1 (rgk 300 rfl) fSf55 (Nat.le_of_ble_eq_true rfl) ⟨(Nat.le_of_ble_eq_true rfl), (Nat.le_of_ble_eq_true rfl)⟩ dL_most_271 (fun H locs hI _ => ?_)
  refine fl_sipush C.1 dL_most_274 (by decide) ?_
  refine lv_iload_n C.1.1 C.1.2.1 dL_most_277 rfl (lv_at hl 0 rfl) ?_
  refine h_imul (z := 4800) C.1 (by decide +kernel) dL_most_278 ?_
  refine fl_icmp_eq (tgt := 284) C.1 (rgk 4800 rfl) (rgk 4800 rfl) dL_most_279 (by decide) (fun _ => ?_) (fun h => absurd (by decide) h)
  refine fl_iinc (k := 0) (lv' := [(1, iv (wr (16 + 1))), (0, .ref x)]) C.1 dL_most_284 hl rfl (by decide) rfl (fun ls hl => ?_)
  rw [show wr (16 + 1) = (17 : Int) from by decide +kernel] at hl
  refine fl_goto (tgt := 261) C.1 dL_most_287 (by decide) ?_
  refine lv_iload_n C.1.1 C.1.2.1 dL_most_261 rfl (lv_at hl 0 rfl) ?_
  refine fl_bipush C.1 dL_most_262 (by decide) ?_
  refine fl_icmp_ge (tgt := 290) C.1 (rgk 17 rfl) (rgk 34 rfl) dL_most_264 (by decide) (fun h => absurd h (by decide)) (fun _ => ?_)
  refine lv_aload_n C.1.1 C.1.2.1 dL_most_267 rfl (lv_at hl 1 rfl) ?_
  refine fl_sipush C.1 dL_most_268 (by decide) ?_
  refine j_pass hst C (by exact ⟨(Nat.le_of_ble_eq_true rfl), (Nat.le_of_ble_eq_true rfl)⟩) hI hl.1 (rgk 300 rfl) fSf56 (Nat.le_of_ble_eq_true rfl) ⟨(Nat.le_of_ble_eq_true rfl), (Nat.le_of_ble_eq_true rfl)⟩ dL_most_271 (fun H locs hI _ => ?_)
  refine fl_sipush C.1 dL_most_274 (by decide) ?_
  refine lv_iload_n C.1.1 C.1.2.1 dL_most_277 rfl (lv_at hl 0 rfl) ?_
  refine h_imul (z := 5100) C.1 (by decide +kernel) dL_most_278 ?_
  refine fl_icmp_eq (tgt := 284) C.1 (rgk 5100 rfl) (rgk 5100 rfl) dL_most_279 (by decide) (fun _ => ?_) (fun h => absurd (by decide) h)
  refine fl_iinc (k := 0) (lv' := [(1, iv (wr (17 + 1))), (0, .ref x)]) C.1 dL_most_284 hl rfl (by decide) rfl (fun ls hl => ?_)
  rw [show wr (17 + 1) = (18 : Int) from by decide +kernel] at hl
  refine fl_goto (tgt := 261) C.1 dL_most_287 (by decide) ?_
  refine lv_iload_n C.1.1 C.1.2.1 dL_most_261 rfl (lv_at hl 0 rfl) ?_
  refine fl_bipush C.1 dL_most_262 (by decide) ?_
  refine fl_icmp_ge (tgt := 290) C.1 (rgk 18 rfl) (rgk 34 rfl) dL_most_264 (by decide) (fun h => absurd h (by decide)) (fun _ => ?_)
  refine lv_aload_n C.1.1 C.1.2.1 dL_most_267 rfl (lv_at hl 1 rfl) ?_
  refine fl_sipush C.1 dL_most_268 (by decide) ?_
  refine j_pass hst C (by exact ⟨(Nat.le_of_ble_eq_true rfl), (Nat.le_of_ble_eq_true rfl)⟩) hI hl.1 (rgk 300 rfl) fSf57 (Nat.le_of_ble_eq_true rfl) ⟨(Nat.le_of_ble_eq_true rfl), (Nat.le_of_ble_eq_true rfl)⟩ dL_most_271 (fun H locs hI _ => ?_)
  refine fl_sipush C.1 dL_most_274 (by decide) ?_
  refine lv_iload_n C.1.1 C.1.2.1 dL_most_277 rfl (lv_at hl 0 rfl) ?_
  refine h_imul (z := 5400) C.1 (by decide +kernel) dL_most_278 ?_
  refine fl_icmp_eq (tgt := 284) C.1 (rgk 5400 rfl) (rgk 5400 rfl) dL_most_279 (by decide) (fun _ => ?_) (fun h => absurd (by decide) h)
  refine fl_iinc (k := 0) (lv' := [(1, iv (wr (18 + 1))), (0, .ref x)]) C.1 dL_most_284 hl rfl (by decide) rfl (fun ls hl => ?_)
  rw [show wr (18 + 1) = (19 : Int) from by decide +kernel] at hl
  refine fl_goto (tgt := 261) C.1 dL_most_287 (by decide) ?_
  refine lv_iload_n C.1.1 C.1.2.1 dL_most_261 rfl (lv_at hl 0 rfl) ?_
  refine fl_bipush C.1 dL_most_262 (by decide) ?_
  refine fl_icmp_ge (tgt := 290) C.1 (rgk 19 rfl) (rgk 34 rfl) dL_most_264 (by decide) (fun h => absurd h (by decide)) (fun _ => ?_)
  refine lv_aload_n C.1.1 C.1.2.1 dL_most_267 rfl (lv_at hl 1 rfl) ?_
  refine fl_sipush C.1 dL_most_268 (by decide) ?_
  refine j_pass hst C (by exact ⟨(Nat.le_of_ble_eq_true rfl), (Nat.le_of_ble_eq_true rfl)⟩) hI hl.1 (rgk 300 rfl) fSf58 (Nat.le_of_ble_eq_true rfl) ⟨(Nat.le_of_ble_eq_true rfl), (Nat.le_of_ble_eq_true rfl)⟩ dL_most_271 (fun H locs hI _ => ?_)
  refine fl_sipush C.1 dL_most_274 (by decide) ?_
  refine lv_iload_n C.1.1 C.1.2.1 dL_most_277 rfl (lv_at hl 0 rfl) ?_
  refine h_imul (z := 5700) C.1 (by decide +kernel) dL_most_278 ?_
  refine fl_icmp_eq (tgt := 284) C.1 (rgk 5700 rfl) (rgk 5700 rfl) dL_most_279 (by decide) (fun _ => ?_) (fun h => absurd (by decide) h)
  refine fl_iinc (k := 0) (lv' := [(1, iv (wr (19 + 1))), (0, .ref x)]) C.1 dL_most_284 hl rfl (by decide) rfl (fun ls hl => ?_)
  rw [show wr (19 + 1) = (20 : Int) from by decide +kernel] at hl
  refine fl_goto (tgt := 261) C.1 dL_most_287 (by decide) ?_
  refine lv_iload_n C.1.1 C.1.2.1 dL_most_261 rfl (lv_at hl 0 rfl) ?_
  refine fl_bipush C.1 dL_most_262 (by decide) ?_
  refine fl_icmp_ge (tgt := 290) C.1 (rgk 20 rfl) (rgk 34 rfl) dL_most_264 (by decide) (fun h => absurd h (by decide)) (fun _ => ?_)
  refine lv_aload_n C.1.1 C.1.2.1 dL_most_267 rfl (lv_at hl 1 rfl) ?_
  refine fl_sipush C.1 dL_most_268 (by decide) ?_
  refine j_pass hst C (by exact ⟨(Nat.le_of_ble_eq_true rfl), (Nat.le_of_ble_eq_true rfl)⟩) hI hl.1 (rgk 300 rfl) fSf59 (Nat.le_of_ble_eq_true rfl) ⟨(Nat.le_of_ble_eq_true rfl), (Nat.le_of_ble_eq_true rfl)⟩ dL_most_271 (fun H locs hI _ => ?_)
  refine fl_sipush C.1 dL_most_274 (by decide) ?_
  refine lv_iload_n C.1.1 C.1.2.1 dL_most_277 rfl (lv_at hl 0 rfl) ?_
  refine h_imul (z := 6000) C.1 (by decide +kernel) dL_most_278 ?_
  refine fl_icmp_eq (tgt := 284) C.1 (rgk 6000 rfl) (rgk 6000 rfl) dL_most_279 (by decide) (fun _ => ?_) (fun h => absurd (by decide) h)
  refine fl_iinc (k := 0) (lv' := [(1, iv (wr (20 + 1))), (0, .ref x)]) C.1 dL_most_284 hl rfl (by decide) rfl (fun ls hl => ?_)
  rw [show wr (20 + 1) = (21 : Int) from by decide +kernel] at hl
  refine fl_goto (tgt := 261) C.1 dL_most_287 (by decide) ?_
  refine lv_iload_n C.1.1 C.1.2.1 dL_most_261 rfl (lv_at hl 0 rfl) ?_
  refine fl_bipush C.1 dL_most_262 (by decide) ?_
  refine fl_icmp_ge (tgt := 290) C.1 (rgk 21 rfl) (rgk 34 rfl) dL_most_264 (by decide) (fun h => absurd h (by decide)) (fun _ => ?_)
  refine lv_aload_n C.1.1 C.1.2.1 dL_most_267 rfl (lv_at hl 1 rfl) ?_
  refine fl_sipush C.1 dL_most_268 (by decide) ?_
  refine j_pass hst C (by exact ⟨(Nat.le_of_ble_eq_true rfl), (Nat.le_of_ble_eq_true rfl)⟩) hI hl.1 (rgk 300 rfl) fSf60 (Nat.le_of_ble_eq_true rfl) ⟨(Nat.le_of_ble_eq_true rfl), (Nat.le_of_ble_eq_true rfl)⟩ dL_most_271 (fun H locs hI _ => ?_)
  refine fl_sipush C.1 dL_most_274 (by decide) ?_
  refine lv_iload_n C.1.1 C.1.2.1 dL_most_277 rfl (lv_at hl 0 rfl) ?_
  refine h_imul (z := 6300) C.1 (by decide +kernel) dL_most_278 ?_
  refine fl_icmp_eq (tgt := 284) C.1 (rgk 6300 rfl) (rgk 6300 rfl) dL_most_279 (by decide) (fun _ => ?_) (fun h => absurd (by decide) h)
  refine fl_iinc (k := 0) (lv' := [(1, iv (wr (21 + 1))), (0, .ref x)]) C.1 dL_most_284 hl rfl (by decide) rfl (fun ls hl => ?_)
  rw [show wr (21 + 1) = (22 : Int) from by decide +kernel] at hl
  refine fl_goto (tgt := 261) C.1 dL_most_287 (by decide) ?_
  refine lv_iload_n C.1.1 C.1.2.1 dL_most_261 rfl (lv_at hl 0 rfl) ?_
  refine fl_bipush C.1 dL_most_262 (by decide) ?_
  refine fl_icmp_ge (tgt := 290) C.1 (rgk 22 rfl) (rgk 34 rfl) dL_most_264 (by decide) (fun h => absurd h (by decide)) (fun _ => ?_)
  refine lv_aload_n C.1.1 C.1.2.1 dL_most_267 rfl (lv_at hl 1 rfl) ?_
  refine fl_sipush C.1 dL_most_268 (by decide) ?_
  refine j_pass hst C (by exact ⟨(Nat.le_of_ble_eq_true rfl), (Nat.le_of_ble_eq_true rfl)⟩) hI hl.1 (rgk 300 rfl) fSf61 (Nat.le_of_ble_eq_true rfl) ⟨(Nat.le_of_ble_eq_true rfl), (Nat.le_of_ble_eq_true rfl)⟩ dL_most_271 (fun H locs hI _ => ?_)
  refine fl_sipush C.1 dL_most_274 (by decide) ?_
  refine lv_iload_n C.1.1 C.1.2.1 dL_most_277 rfl (lv_at hl 0 rfl) ?_
  refine h_imul (z := 6600) C.1 (by decide +kernel) dL_most_278 ?_
  refine fl_icmp_eq (tgt := 284) C.1 (rgk 6600 rfl) (rgk 6600 rfl) dL_most_279 (by decide) (fun _ => ?_) (fun h => absurd (by decide) h)
  refine fl_iinc (k := 0) (lv' := [(1, iv (wr (22 + 1))), (0, .ref x)]) C.1 dL_most_284 hl rfl (by decide) rfl (fun ls hl => ?_)
  rw [show wr (22 + 1) = (23 : Int) from by decide +kernel] at hl
  refine fl_goto (tgt := 261) C.1 dL_most_287 (by decide) ?_
  refine lv_iload_n C.1.1 C.1.2.1 dL_most_261 rfl (lv_at hl 0 rfl) ?_
  refine fl_bipush C.1 dL_most_262 (by decide) ?_
  refine fl_icmp_ge (tgt := 290) C.1 (rgk 23 rfl) (rgk 34 rfl) dL_most_264 (by decide) (fun h => absurd h (by decide)) (fun _ => ?_)
  refine lv_aload_n C.1.1 C.1.2.1 dL_most_267 rfl (lv_at hl 1 rfl) ?_
  refine fl_sipush C.1 dL_most_268 (by decide) ?_
  refine j_pass hst C (by exact ⟨(Nat.le_of_ble_eq_true rfl), (Nat.le_of_ble_eq_true rfl)⟩) hI hl.1 (rgk 300 rfl) fSf62 (Nat.le_of_ble_eq_true rfl) ⟨(Nat.le_of_ble_eq_true rfl), (Nat.le_of_ble_eq_true rfl)⟩ dL_most_271 (fun H locs hI _ => ?_)
  refine fl_sipush C.1 dL_most_274 (by decide) ?_
  refine lv_iload_n C.1.1 C.1.2.1 dL_most_277 rfl (lv_at hl 0 rfl) ?_
  refine h_imul (z := 6900) C.1 (by decide +kernel) dL_most_278 ?_
  refine fl_icmp_eq (tgt := 284) C.1 (rgk 6900 rfl) (rgk 6900 rfl) dL_most_279 (by decide) (fun _ => ?_) (fun h => absurd (by decide) h)
  refine fl_iinc (k := 0) (lv' := [(1, iv (wr (23 + 1))), (0, .ref x)]) C.1 dL_most_284 hl rfl (by decide) rfl (fun ls hl => ?_)
  rw [show wr (23 + 1) = (24 : Int) from by decide +kernel] at hl
  refine fl_goto (tgt := 261) C.1 dL_most_287 (by decide) ?_
  refine lv_iload_n C.1.1 C.1.2.1 dL_most_261 rfl (lv_at hl 0 rfl) ?_
  refine fl_bipush C.1 dL_most_262 (by decide) ?_
  refine fl_icmp_ge (tgt := 290) C.1 (rgk 24 rfl) (rgk 34 rfl) dL_most_264 (by decide) (fun h => absurd h (by decide)) (fun _ => ?_)
  refine lv_aload_n C.1.1 C.1.2.1 dL_most_267 rfl (lv_at hl 1 rfl) ?_
  refine fl_sipush C.1 dL_most_268 (by decide) ?_
  refine j_pass hst C (by exact ⟨(Nat.le_of_ble_eq_true rfl), (Nat.le_of_ble_eq_true rfl)⟩) hI hl.1 (rgk 300 rfl) fSf63 (Nat.le_of_ble_eq_true rfl) ⟨(Nat.le_of_ble_eq_true rfl), (Nat.le_of_ble_eq_true rfl)⟩ dL_most_271 (fun H locs hI _ => ?_)
  refine fl_sipush C.1 dL_most_274 (by decide) ?_
  refine lv_iload_n C.1.1 C.1.2.1 dL_most_277 rfl (lv_at hl 0 rfl) ?_
  refine h_imul (z := 7200) C.1 (by decide +kernel) dL_most_278 ?_
  refine fl_icmp_eq (tgt := 284) C.1 (rgk 7200 rfl) (rgk 7200 rfl) dL_most_279 (by decide) (fun _ => ?_) (fun h => absurd (by decide) h)
  refine fl_iinc (k := 0) (lv' := [(1, iv (wr (24 + 1))), (0, .ref x)]) C.1 dL_most_284 hl rfl (by decide) rfl (fun ls hl => ?_)
  rw [show wr (24 + 1) = (25 : Int) from by decide +kernel] at hl
  refine fl_goto (tgt := 261) C.1 dL_most_287 (by decide) ?_
  refine lv_iload_n C.1.1 C.1.2.1 dL_most_261 rfl (lv_at hl 0 rfl) ?_
  refine fl_bipush C.1 dL_most_262 (by decide) ?_
  refine fl_icmp_ge (tgt := 290) C.1 (rgk 25 rfl) (rgk 34 rfl) dL_most_264 (by decide) (fun h => absurd h (by decide)) (fun _ => ?_)
  refine lv_aload_n C.1.1 C.1.2.1 dL_most_267 rfl (lv_at hl 1 rfl) ?_
  refine fl_sipush C.1 dL_most_268 (by decide) ?_
  refine j_pass hst C (by exact ⟨(Nat.le_of_ble_eq_true rfl), (Nat.le_of_ble_eq_true rfl)⟩) hI hl.1 (rgk 300 rfl) fSf64 (Nat.le_of_ble_eq_true rfl) ⟨(Nat.le_of_ble_eq_true rfl), (Nat.le_of_ble_eq_true rfl)⟩ dL_most_271 (fun H locs hI _ => ?_)
  refine fl_sipush C.1 dL_most_274 (by decide) ?_
  refine lv_iload_n C.1.1 C.1.2.1 dL_most_277 rfl (lv_at hl 0 rfl) ?_
  refine h_imul (z := 7500) C.1 (by decide +kernel) dL_most_278 ?_
  refine fl_icmp_eq (tgt := 284) C.1 (rgk 7500 rfl) (rgk 7500 rfl) dL_most_279 (by decide) (fun _ => ?_) (fun h => absurd (by decide) h)
  refine fl_iinc (k := 0) (lv' := [(1, iv (wr (25 + 1))), (0, .ref x)]) C.1 dL_most_284 hl rfl (by decide) rfl (fun ls hl => ?_)
  rw [show wr (25 + 1) = (26 : Int) from by decide +kernel] at hl
  refine fl_goto (tgt := 261) C.1 dL_most_287 (by decide) ?_
  refine lv_iload_n C.1.1 C.1.2.1 dL_most_261 rfl (lv_at hl 0 rfl) ?_
  refine fl_bipush C.1 dL_most_262 (by decide) ?_
  refine fl_icmp_ge (tgt := 290) C.1 (rgk 26 rfl) (rgk 34 rfl) dL_most_264 (by decide) (fun h => absurd h (by decide)) (fun _ => ?_)
  refine lv_aload_n C.1.1 C.1.2.1 dL_most_267 rfl (lv_at hl 1 rfl) ?_
  refine fl_sipush C.1 dL_most_268 (by decide) ?_
  refine j_pass hst C (by exact ⟨(Nat.le_of_ble_eq_true rfl), (Nat.le_of_ble_eq_true rfl)⟩) hI hl.1 (rgk 300 rfl) fSf65 (Nat.le_of_ble_eq_true rfl) ⟨(Nat.le_of_ble_eq_true rfl), (Nat.le_of_ble_eq_true rfl)⟩ dL_most_271 (fun H locs hI _ => ?_)
  refine fl_sipush C.1 dL_most_274 (by decide) ?_
  refine lv_iload_n C.1.1 C.1.2.1 dL_most_277 rfl (lv_at hl 0 rfl) ?_
  refine h_imul (z := 7800) C.1 (by decide +kernel) dL_most_278 ?_
  refine fl_icmp_eq (tgt := 284) C.1 (rgk 7800 rfl) (rgk 7800 rfl) dL_most_279 (by decide) (fun _ => ?_) (fun h => absurd (by decide) h)
  refine fl_iinc (k := 0) (lv' := [(1, iv (wr (26 + 1))), (0, .ref x)]) C.1 dL_most_284 hl rfl (by decide) rfl (fun ls hl => ?_)
  rw [show wr (26 + 1) = (27 : Int) from by decide +kernel] at hl
  refine fl_goto (tgt := 261) C.1 dL_most_287 (by decide) ?_
  refine lv_iload_n C.1.1 C.1.2.1 dL_most_261 rfl (lv_at hl 0 rfl) ?_
  refine fl_bipush C.1 dL_most_262 (by decide) ?_
  refine fl_icmp_ge (tgt := 290) C.1 (rgk 27 rfl) (rgk 34 rfl) dL_most_264 (by decide) (fun h => absurd h (by decide)) (fun _ => ?_)
  refine lv_aload_n C.1.1 C.1.2.1 dL_most_267 rfl (lv_at hl 1 rfl) ?_
  refine fl_sipush C.1 dL_most_268 (by decide) ?_
  refine j_pass hst C (by exact ⟨(Nat.le_of_ble_eq_true rfl), (Nat.le_of_ble_eq_true rfl)⟩) hI hl.1 (rgk 300 rfl) fSf66 (Nat.le_of_ble_eq_true rfl) ⟨(Nat.le_of_ble_eq_true rfl), (Nat.le_of_ble_eq_true rfl)⟩ dL_most_271 (fun H locs hI _ => ?_)
  refine fl_sipush C.1 dL_most_274 (by decide) ?_
  refine lv_iload_n C.1.1 C.1.2.1 dL_most_277 rfl (lv_at hl 0 rfl) ?_
  refine h_imul (z := 8100) C.1 (by decide +kernel) dL_most_278 ?_
  refine fl_icmp_eq (tgt := 284) C.1 (rgk 8100 rfl) (rgk 8100 rfl) dL_most_279 (by decide) (fun _ => ?_) (fun h => absurd (by decide) h)
  refine fl_iinc (k := 0) (lv' := [(1, iv (wr (27 + 1))), (0, .ref x)]) C.1 dL_most_284 hl rfl (by decide) rfl (fun ls hl => ?_)
  rw [show wr (27 + 1) = (28 : Int) from by decide +kernel] at hl
  refine fl_goto (tgt := 261) C.1 dL_most_287 (by decide) ?_
  refine lv_iload_n C.1.1 C.1.2.1 dL_most_261 rfl (lv_at hl 0 rfl) ?_
  refine fl_bipush C.1 dL_most_262 (by decide) ?_
  refine fl_icmp_ge (tgt := 290) C.1 (rgk 28 rfl) (rgk 34 rfl) dL_most_264 (by decide) (fun h => absurd h (by decide)) (fun _ => ?_)
  refine lv_aload_n C.1.1 C.1.2.1 dL_most_267 rfl (lv_at hl 1 rfl) ?_
  refine fl_sipush C.1 dL_most_268 (by decide) ?_
  refine j_pass hst C (by exact ⟨(Nat.le_of_ble_eq_true rfl), (Nat.le_of_ble_eq_true rfl)⟩) hI hl.1 (rgk 300 rfl) fSf67 (Nat.le_of_ble_eq_true rfl) ⟨(Nat.le_of_ble_eq_true rfl), (Nat.le_of_ble_eq_true rfl)⟩ dL_most_271 (fun H locs hI _ => ?_)
  refine fl_sipush C.1 dL_most_274 (by decide) ?_
  refine lv_iload_n C.1.1 C.1.2.1 dL_most_277 rfl (lv_at hl 0 rfl) ?_
  refine h_imul (z := 8400) C.1 (by decide +kernel) dL_most_278 ?_
  refine fl_icmp_eq (tgt := 284) C.1 (rgk 8400 rfl) (rgk 8400 rfl) dL_most_279 (by decide) (fun _ => ?_) (fun h => absurd (by decide) h)
  refine fl_iinc (k := 0) (lv' := [(1, iv (wr (28 + 1))), (0, .ref x)]) C.1 dL_most_284 hl rfl (by decide) rfl (fun ls hl => ?_)
  rw [show wr (28 + 1) = (29 : Int) from by decide +kernel] at hl
  refine fl_goto (tgt := 261) C.1 dL_most_287 (by decide) ?_
  refine lv_iload_n C.1.1 C.1.2.1 dL_most_261 rfl (lv_at hl 0 rfl) ?_
  refine fl_bipush C.1 dL_most_262 (by decide) ?_
  refine fl_icmp_ge (tgt := 290) C.1 (rgk 29 rfl) (rgk 34 rfl) dL_most_264 (by decide) (fun h => absurd h (by decide)) (fun _ => ?_)
  refine lv_aload_n C.1.1 C.1.2.1 dL_most_267 rfl (lv_at hl 1 rfl) ?_
  refine fl_sipush C.1 dL_most_268 (by decide) ?_
  refine j_pass hst C (by exact ⟨(Nat.le_of_ble_eq_true rfl), (Nat.le_of_ble_eq_true rfl)⟩) hI hl.1 (rgk 300 rfl) fSf68 (Nat.le_of_ble_eq_true rfl) ⟨(Nat.le_of_ble_eq_true rfl), (Nat.le_of_ble_eq_true rfl)⟩ dL_most_271 (fun H locs hI _ => ?_)
  refine fl_sipush C.1 dL_most_274 (by decide) ?_
  refine lv_iload_n C.1.1 C.1.2.1 dL_most_277 rfl (lv_at hl 0 rfl) ?_
  refine h_imul (z := 8700) C.1 (by decide +kernel) dL_most_278 ?_
  refine fl_icmp_eq (tgt := 284) C.1 (rgk 8700 rfl) (rgk 8700 rfl) dL_most_279 (by decide) (fun _ => ?_) (fun h => absurd (by decide) h)
  refine fl_iinc (k := 0) (lv' := [(1, iv (wr (29 + 1))), (0, .ref x)]) C.1 dL_most_284 hl rfl (by decide) rfl (fun ls hl => ?_)
  rw [show wr (29 + 1) = (30 : Int) from by decide +kernel] at hl
  refine fl_goto (tgt := 261) C.1 dL_most_287 (by decide) ?_
  refine lv_iload_n C.1.1 C.1.2.1 dL_most_261 rfl (lv_at hl 0 rfl) ?_
  refine fl_bipush C.1 dL_most_262 (by decide) ?_
  refine fl_icmp_ge (tgt := 290) C.1 (rgk 30 rfl) (rgk 34 rfl) dL_most_264 (by decide) (fun h => absurd h (by decide)) (fun _ => ?_)
  refine lv_aload_n C.1.1 C.1.2.1 dL_most_267 rfl (lv_at hl 1 rfl) ?_
  refine fl_sipush C.1 dL_most_268 (by decide) ?_
  refine j_pass hst C (by exact ⟨(Nat.le_of_ble_eq_true rfl), (Nat.le_of_ble_eq_true rfl)⟩) hI hl.1 (rgk 300 rfl) fSf69 (Nat.le_of_ble_eq_true rfl) ⟨(Nat.le_of_ble_eq_true rfl), (Nat.le_of_ble_eq_true rfl)⟩ dL_most_271 (fun H locs hI _ => ?_)
  refine fl_sipush C.1 dL_most_274 (by decide) ?_
  refine lv_iload_n C.1.1 C.1.2.1 dL_most_277 rfl (lv_at hl 0 rfl) ?_
  refine h_imul (z := 9000) C.1 (by decide +kernel) dL_most_278 ?_
  refine fl_icmp_eq (tgt := 284) C.1 (rgk 9000 rfl) (rgk 9000 rfl) dL_most_279 (by decide) (fun _ => ?_) (fun h => absurd (by decide) h)
  refine fl_iinc (k := 0) (lv' := [(1, iv (wr (30 + 1))), (0, .ref x)]) C.1 dL_most_284 hl rfl (by decide) rfl (fun ls hl => ?_)
  rw [show wr (30 + 1) = (31 : Int) from by decide +kernel] at hl
  refine fl_goto (tgt := 261) C.1 dL_most_287 (by decide) ?_
  refine lv_iload_n C.1.1 C.1.2.1 dL_most_261 rfl (lv_at hl 0 rfl) ?_
  refine fl_bipush C.1 dL_most_262 (by decide) ?_
  refine fl_icmp_ge (tgt := 290) C.1 (rgk 31 rfl) (rgk 34 rfl) dL_most_264 (by decide) (fun h => absurd h (by decide)) (fun _ => ?_)
  refine lv_aload_n C.1.1 C.1.2.1 dL_most_267 rfl (lv_at hl 1 rfl) ?_
  refine fl_sipush C.1 dL_most_268 (by decide) ?_
  refine j_pass hst C (by exact ⟨(Nat.le_of_ble_eq_true rfl), (Nat.le_of_ble_eq_true rfl)⟩) hI hl.1 (rgk 300 rfl) fSf70 (Nat.le_of_ble_eq_true rfl) ⟨(Nat.le_of_ble_eq_true rfl), (Nat.le_of_ble_eq_true rfl)⟩ dL_most_271 (fun H locs hI _ => ?_)
  refine fl_sipush C.1 dL_most_274 (by decide) ?_
  refine lv_iload_n C.1.1 C.1.2.1 dL_most_277 rfl (lv_at hl 0 rfl) ?_
  refine h_imul (z := 9300) C.1 (by decide +kernel) dL_most_278 ?_
  refine fl_icmp_eq (tgt := 284) C.1 (rgk 9300 rfl) (rgk 9300 rfl) dL_most_279 (by decide) (fun _ => ?_) (fun h => absurd (by decide) h)
  refine fl_iinc (k := 0) (lv' := [(1, iv (wr (31 + 1))), (0, .ref x)]) C.1 dL_most_284 hl rfl (by decide) rfl (fun ls hl => ?_)
  rw [show wr (31 + 1) = (32 : Int) from by decide +kernel] at hl
  refine fl_goto (tgt := 261) C.1 dL_most_287 (by decide) ?_
  refine lv_iload_n C.1.1 C.1.2.1 dL_most_261 rfl (lv_at hl 0 rfl) ?_
  refine fl_bipush C.1 dL_most_262 (by decide) ?_
  refine fl_icmp_ge (tgt := 290) C.1 (rgk 32 rfl) (rgk 34 rfl) dL_most_264 (by decide) (fun h => absurd h (by decide)) (fun _ => ?_)
  refine lv_aload_n C.1.1 C.1.2.1 dL_most_267 rfl (lv_at hl 1 rfl) ?_
  refine fl_sipush C.1 dL_most_268 (by decide) ?_
  refine j_pass hst C (by exact ⟨(Nat.le_of_ble_eq_true rfl), (Nat.le_of_ble_eq_true rfl)⟩) hI hl.1 (rgk 300 rfl) fSf71 (Nat.le_of_ble_eq_true rfl) ⟨(Nat.le_of_ble_eq_true rfl), (Nat.le_of_ble_eq_true rfl)⟩ dL_most_271 (fun H locs hI _ => ?_)
  refine fl_sipush C.1 dL_most_274 (by decide) ?_
  refine lv_iload_n C.1.1 C.1.2.1 dL_most_277 rfl (lv_at hl 0 rfl) ?_
  refine h_imul (z := 9600) C.1 (by decide +kernel) dL_most_278 ?_
  refine fl_icmp_eq (tgt := 284) C.1 (rgk 9600 rfl) (rgk 9600 rfl) dL_most_279 (by decide) (fun _ => ?_) (fun h => absurd (by decide) h)
  exact W.widen (Nat.le_of_ble_eq_true rfl) (Nat.le_of_ble_eq_true rfl) (kk H locs ls hI hl)
set_option maxRecDepth 100000 in
set_option maxHeartbeats 4000000 in
theorem w_most_8 (hst : l.stackTraces = false) (C : LC p s m meth c D cy B cL_most 2) (hr : meth.sig.returnType = some .boolean) : ∀ (H : Heap) (locs : List Loc) (ls : Array Slot), HI D cy B s.heap H locs x fS67 → lv_has ls 2 [(1, iv 32), (0, .ref x)] → W p l e rm_L_most s m args below meth c H locs 892 172089 (MQ below (Q1 B) args s 2038 431847 (fun q => B ≤ q)) (F0 m 284 ls []) := by
  intro H locs ls hI hl
  refine fl_iinc (k := 0) (lv' := [(1, iv (wr (32 + 1))), (0, .ref x)]) C.1 dL_most_284 hl rfl (by decide) rfl (fun ls hl => ?_)
  rw [show wr (32 + 1) = (33 : Int) from by decide +kernel] at hl
  refine fl_goto (tgt := 261) C.1 dL_most_287 (by decide) ?_
  refine lv_iload_n C.1.1 C.1.2.1 dL_most_261 rfl (lv_at hl 0 rfl) ?_
  refine fl_bipush C.1 dL_most_262 (by decide) ?_
  refine fl_icmp_ge (tgt := 290) C.1 (rgk 33 rfl) (rgk 34 rfl) dL_most_264 (by decide) (fun h => absurd h (by decide)) (fun _ => ?_)
  refine lv_aload_n C.1.1 C.1.2.1 dL_most_267 rfl (lv_at hl 1 rfl) ?_
  refine fl_sipush C.1 dL_most_268 (by decide) ?_
  refine j_pass hst C (by exact ⟨(Nat.le_of_ble_eq_true rfl), (Nat.le_of_ble_eq_true rfl)⟩) hI hl.1 (rgk 300 rfl) fSf72 (Nat.le_of_ble_eq_true rfl) ⟨(Nat.le_of_ble_eq_true rfl), (Nat.le_of_ble_eq_true rfl)⟩ dL_most_271 (fun H locs hI _ => ?_)
  refine fl_sipush C.1 dL_most_274 (by decide) ?_
  refine lv_iload_n C.1.1 C.1.2.1 dL_most_277 rfl (lv_at hl 0 rfl) ?_
  refine h_imul (z := 9900) C.1 (by decide +kernel) dL_most_278 ?_
  refine fl_icmp_eq (tgt := 284) C.1 (rgk 9900 rfl) (rgk 9900 rfl) dL_most_279 (by decide) (fun _ => ?_) (fun h => absurd (by decide) h)
  refine fl_iinc (k := 0) (lv' := [(1, iv (wr (33 + 1))), (0, .ref x)]) C.1 dL_most_284 hl rfl (by decide) rfl (fun ls hl => ?_)
  rw [show wr (33 + 1) = (34 : Int) from by decide +kernel] at hl
  refine fl_goto (tgt := 261) C.1 dL_most_287 (by decide) ?_
  refine lv_iload_n C.1.1 C.1.2.1 dL_most_261 rfl (lv_at hl 0 rfl) ?_
  refine fl_bipush C.1 dL_most_262 (by decide) ?_
  refine fl_icmp_ge (tgt := 290) C.1 (rgk 34 rfl) (rgk 34 rfl) dL_most_264 (by decide) (fun _ => ?_) (fun h => absurd (by decide) h)
  refine lv_aload_n C.1.1 C.1.2.1 dL_most_290 rfl (lv_at hl 1 rfl) ?_
  refine fl_bipush C.1 dL_most_291 (by decide) ?_
  refine fl_bipush C.1 dL_most_293 (by decide) ?_
  refine fl_iconst C.1 dL_most_295 ?_
  refine fl_iconst C.1 dL_most_296 ?_
  refine k_act hst C ⟨(Nat.le_of_ble_eq_true rfl), (Nat.le_of_ble_eq_true rfl)⟩ hI hl.1 (rgk 9 rfl) (rgk 100 rfl) (rgk 0 rfl) (rgk 0 rfl) fSf73 (Nat.le_of_ble_eq_true rfl) ⟨(Nat.le_of_ble_eq_true rfl), (Nat.le_of_ble_eq_true rfl)⟩ dL_most_297 (fun H locs hI _ => ?_)
  refine fl_ldc (n := (-7000003)) C.1 aw_803 rfl dL_most_300 ?_
  refine fl_icmp_ne (tgt := 346) C.1 (rgk (-7000003) rfl) (rgk (-7000003) rfl) dL_most_302 (by decide) (fun h => absurd rfl h) (fun _ => ?_)
  refine lv_aload_n C.1.1 C.1.2.1 dL_most_305 rfl (lv_at hl 1 rfl) ?_
  refine fl_bipush C.1 dL_most_306 (by decide) ?_
  refine j_pass hst C (by exact ⟨(Nat.le_of_ble_eq_true rfl), (Nat.le_of_ble_eq_true rfl)⟩) hI hl.1 (rgk 99 rfl) fSf74 (Nat.le_of_ble_eq_true rfl) ⟨(Nat.le_of_ble_eq_true rfl), (Nat.le_of_ble_eq_true rfl)⟩ dL_most_308 (fun H locs hI _ => ?_)
  refine fl_sipush C.1 dL_most_311 (by decide) ?_
  refine fl_icmp_ne (tgt := 346) C.1 (rgk 9999 rfl) (rgk 9999 rfl) dL_most_314 (by decide) (fun h => absurd rfl h) (fun _ => ?_)
  refine lv_aload_n C.1.1 C.1.2.1 dL_most_317 rfl (lv_at hl 1 rfl) ?_
  refine fl_bipush C.1 dL_most_318 (by decide) ?_
  refine fl_iconst C.1 dL_most_320 ?_
  refine fl_iconst C.1 dL_most_321 ?_
  refine fl_iconst C.1 dL_most_322 ?_
  refine k_act hst C ⟨(Nat.le_of_ble_eq_true rfl), (Nat.le_of_ble_eq_true rfl)⟩ hI hl.1 (rgk 9 rfl) (rgk 1 rfl) (rgk 0 rfl) (rgk 0 rfl) fSf75 (Nat.le_of_ble_eq_true rfl) ⟨(Nat.le_of_ble_eq_true rfl), (Nat.le_of_ble_eq_true rfl)⟩ dL_most_323 (fun H locs hI _ => ?_)
  refine fl_ldc (n := (-7000003)) C.1 aw_803 rfl dL_most_326 ?_
  refine fl_icmp_ne (tgt := 346) C.1 (rgk (-7000003) rfl) (rgk (-7000003) rfl) dL_most_328 (by decide) (fun h => absurd rfl h) (fun _ => ?_)
  refine lv_aload_n C.1.1 C.1.2.1 dL_most_331 rfl (lv_at hl 1 rfl) ?_
  refine fl_bipush C.1 dL_most_332 (by decide) ?_
  refine fl_bipush C.1 dL_most_334 (by decide) ?_
  refine k_refuses hst C ⟨(Nat.le_of_ble_eq_true rfl), (Nat.le_of_ble_eq_true rfl)⟩ hI hl.1 (rgk 6 rfl) (rgk 60 rfl) fSf76.1 fSf76.2 (Nat.le_of_ble_eq_true rfl) ⟨(Nat.le_of_ble_eq_true rfl), (Nat.le_of_ble_eq_true rfl)⟩ dL_most_336 (fun H locs hI _ => ?_)
  refine fl_if_eq (tgt := 346) C.1 (rgk 1 rfl) dL_most_339 (by decide) (fun h => absurd h (by decide)) (fun _ => ?_)
  refine fl_iconst C.1 dL_most_342 ?_
  refine fl_goto (tgt := 347) C.1 dL_most_343 (by decide) ?_
  exact z_ret C hI hr dL_most_347 (Nat.le_of_ble_eq_true rfl) (Nat.le_of_ble_eq_true rfl)
set_option maxRecDepth 100000 in
set_option maxHeartbeats 4000000 in
theorem d_most (hst : l.stackTraces = false) : Met l yL_most [.code yL_most cL_most 2 (some .boolean)] rm_L_most (va_Pc [] (HB D cy B)) (Q1 B) 2038 431847 (fun q => B ≤ q) := by
  refine hb_body0 (by decide) rfl ?_
  intro p e s m args below meth c ls C hr hB hl
  refine k_new C (by exact ⟨(Nat.le_of_ble_eq_true rfl), (Nat.le_of_ble_eq_true rfl)⟩) hB va_S.rf hl.1 ⟨(Nat.le_of_ble_eq_true rfl), (Nat.le_of_ble_eq_true rfl)⟩ ⟨(Nat.le_of_ble_eq_true rfl), (Nat.le_of_ble_eq_true rfl)⟩ dL_most_0 dL_most_3 dL_most_4 (fun x H locs hI => ?_)
  refine lv_astore_n (lv' := [(0, .ref x)]) C.1.1 C.1.2.1 dL_most_7 rfl hl (by decide) rfl (fun ls hl => ?_)
  exact W.widen (Nat.le_of_ble_eq_true rfl) (Nat.le_of_ble_eq_true rfl) ((w_most_0 hst C (w_most_1 hst C (w_most_2 hst C (w_most_3 hst C (w_most_4 hst C (w_most_5 hst C (w_most_6 hst C (w_most_7 hst C (w_most_8 hst C hr))))))))) H locs ls hI hl)
end HMOS
