/-! WHAT IS REFUSED, in any hall -/
abbrev rfs (S : Hl) (w a b d v : Int) : Prop := outI (actQ S w a b d) = v ∧ (actQ S w a b d).2.2 = S
theorem rfs_of {S : Hl} {w a b d v : Int} {q : Out} (h : actQ S w a b d = q) (hq : q.2.2 = S) (hv : outI q = v) : rfs S w a b d v := by
  unfold rfs
  rw [h]
  exact ⟨hv, hq⟩
theorem rA_code {S : Hl} {a b d : Int} (h : ¬ ((0 ≤ a ∧ a ≤ 9) ∧ (-99 ≤ b ∧ b ≤ 99))) : rfs S 0 a b d (-7000002) := rfs_of (q := (1, 0, S)) (show codeS S a b = _ from if_neg h) rfl rfl
theorem rA_input {S : Hl} {a b d : Int} (h : ¬ (-9 ≤ a ∧ a ≤ 9)) : rfs S 1 a b d (-7000002) := rfs_of (q := (1, 0, S)) (show inputS S a = _ from if_neg h) rfl rfl
theorem rA_run {S : Hl} {a b d : Int} (h : ¬ ((1 ≤ a ∧ a ≤ 500) ∧ (0 ≤ b ∧ b ≤ 10))) : rfs S 2 a b d (-7000002) := rfs_of (q := (1, 0, S)) (show callRun S a b = _ from if_neg h) rfl rfl
theorem rA_problem {S : Hl} {a b d : Int} (h : ¬ ((1 ≤ a ∧ a ≤ 500) ∧ (0 ≤ b ∧ b ≤ 1))) : rfs S 3 a b d (-7000002) := rfs_of (q := (1, 0, S)) (show problemS S a b = _ by
  unfold problemS
  by_cases c1 : 1 ≤ a ∧ a ≤ 500
  · rw [if_pos c1, if_neg (fun c2 => h ⟨c1, c2⟩)]
  · rw [if_neg c1]) rfl rfl
theorem rA_test {S : Hl} {a b d : Int} (h : ¬ ((0 ≤ a ∧ a < (S.np : Int)) ∧ (0 ≤ b ∧ b < 4))) : rfs S 4 a b d (-7000001) := rfs_of (q := (3, 0, S)) (show testS S a b = _ by
  unfold testS
  by_cases c1 : 0 ≤ a ∧ a < (S.np : Int)
  · rw [if_pos c1, if_neg (fun c2 => h ⟨c1, c2⟩)]
  · rw [if_neg c1]) rfl rfl
theorem rA_points {S : Hl} {a b d : Int} (h : ¬ ((0 ≤ a ∧ a < (S.np : Int)) ∧ (0 ≤ b ∧ b < 4))) : rfs S 5 a b d (-7000001) := rfs_of (q := (3, 0, S)) (show pointsS S a b d = _ by
  unfold pointsS
  by_cases c1 : 0 ≤ a ∧ a < (S.np : Int)
  · rw [if_pos c1, if_neg (fun c2 => h ⟨c1, c2⟩)]
  · rw [if_neg c1]) rfl rfl
theorem rA_points2 {S : Hl} {a b d : Int} (h : ((0 ≤ a ∧ a < (S.np : Int)) ∧ (0 ≤ b ∧ b < 4)) ∧ ¬ (0 ≤ d ∧ d ≤ 100)) : rfs S 5 a b d (-7000002) := rfs_of (q := (1, 0, S)) (show pointsS S a b d = _ by
  unfold pointsS
  rw [if_pos h.1.1, if_pos h.1.2, if_neg h.2]) rfl rfl
theorem rA_mend {S : Hl} {a b d : Int} (h : ¬ (0 ≤ a ∧ a < (S.np : Int))) : rfs S 6 a b d (-7000001) := rfs_of (q := (3, 0, S)) (show mendS S a b = _ from if_neg h) rfl rfl
theorem rA_mend2 {S : Hl} {a b d : Int} (h : (0 ≤ a ∧ a < (S.np : Int)) ∧ ¬ (0 ≤ b ∧ b ≤ 1)) : rfs S 6 a b d (-7000002) := rfs_of (q := (1, 0, S)) (show mendS S a b = _ by
  unfold mendS
  rw [if_pos h.1, if_neg h.2]) rfl rfl
theorem rA_answer {S : Hl} (hok : S.ok) {a b d : Int} (h : ¬ ((0 ≤ a ∧ a < (S.np : Int)) ∧ (0 ≤ b ∧ b < 12) ∧ 0 ≤ d)) : rfs S 7 a b d (-7000001) := rfs_of (q := (3, 0, S)) (show answerS S a b d = _ by
  unfold answerS
  by_cases c1 : 0 ≤ a ∧ a < (S.np : Int)
  · rw [if_pos c1]
    have h12 := (hok.2.2.2.1 a.toNat (by omega)).2.2.2.1
    by_cases c2 : 0 ≤ b ∧ b < ((S.pb a.toNat).nt : Int)
    · rw [if_pos c2, if_neg (fun c3 => h ⟨c1, ⟨c2.1, by omega⟩, c3⟩)]
    · rw [if_neg c2]
  · rw [if_neg c1]) rfl rfl
theorem rA_enter {S : Hl} {a b d : Int} (h : ¬ ((0 ≤ a ∧ a < 8) ∧ (0 ≤ b ∧ b < (S.np : Int)))) : rfs S 8 a b d (-7000001) := rfs_of (q := (3, 0, S)) (show enterS S a b = _ by
  unfold enterS
  by_cases c1 : 0 ≤ a ∧ a < 8
  · rw [if_pos c1, if_neg (fun c2 => h ⟨c1, c2⟩)]
  · rw [if_neg c1]) rfl rfl
theorem rA_pass {S : Hl} {a b d : Int} (h : ¬ (1 ≤ a ∧ a ≤ 300)) : rfs S 9 a b d (-7000002) := rfs_of (q := (1, 0, S)) (show passS S a = _ from if_neg h) rfl rfl
theorem rA_rejudge {S : Hl} {a b d : Int} (h : ¬ (0 ≤ a ∧ a < (S.np : Int))) : rfs S 10 a b d (-7000001) := rfs_of (q := (3, 0, S)) (show rejudgeS S a = _ from if_neg h) rfl rfl
theorem rA_entry {S : Hl} {a b d : Int} (h : ¬ (0 ≤ a ∧ a < (S.ne : Int))) : rfs S 11 a b d (-7000001) := rfs_of (q := (3, 0, S)) (show entryS S a b = _ from if_neg h) rfl rfl
theorem rA_entry2 {S : Hl} {a b d : Int} (h : (0 ≤ a ∧ a < (S.ne : Int)) ∧ ¬ (0 ≤ b ∧ b ≤ 6)) : rfs S 11 a b d (-7000002) := rfs_of (q := (1, 0, S)) (show entryS S a b = _ by
  unfold entryS
  rw [if_pos h.1, if_neg h.2]) rfl rfl
theorem rA_likeness {S : Hl} {a b d : Int} (h : ¬ ((0 ≤ a ∧ a < (S.ne : Int)) ∧ (0 ≤ b ∧ b < (S.ne : Int)))) : rfs S 12 a b d (-7000001) := rfs_of (q := (3, 0, S)) (show likenessS S a b = _ from if_neg h) rfl rfl
theorem rA_freeze {S : Hl} {a b d : Int} (h : ¬ (-1 ≤ a ∧ a ≤ 9999)) : rfs S 13 a b d (-7000002) := rfs_of (q := (1, 1, S)) (show frzQ S a = _ by
  have e : freezeS S a = (1, 0, S) := if_neg h
  unfold frzQ
  rw [e]) rfl rfl
theorem rA_board {S : Hl} {a b d : Int} (h : ¬ (0 ≤ a ∧ a < 8)) : rfs S 14 a b d (-7000001) := rfs_of (q := (3, 0, S)) (show boardS S a (if b = 1 then 1 else 0) d = _ from if_neg h) rfl rfl
theorem rA_board2 {S : Hl} {a b d : Int} (h : (0 ≤ a ∧ a < 8) ∧ ¬ (0 ≤ d ∧ d ≤ 4)) : rfs S 14 a b d (-7000002) := rfs_of (q := (1, 0, S)) (show boardS S a (if b = 1 then 1 else 0) d = _ by
  unfold boardS
  rw [if_pos h.1, if_neg h.2]) rfl rfl
theorem rA_placeAnew {S : Hl} {a b d : Int} (h : ¬ (0 ≤ a ∧ a < 8)) : rfs S 15 a b d (-7000001) := rfs_of (q := (3, 0, S)) (show placeAnewS S a = _ from if_neg h) rfl rfl
theorem rA_hack {S : Hl} {a b d : Int} (h : ¬ ((0 ≤ a ∧ a < 8) ∧ (0 ≤ b ∧ b < (S.ne : Int)))) : rfs S 16 a b d (-7000001) := by
  have e : hackS S a b = (3, 0, S) := by
    unfold hackS
    by_cases c1 : 0 ≤ a ∧ a < 8
    · rw [if_pos c1, if_neg (fun c2 => h ⟨c1, c2⟩)]
    · rw [if_neg c1]
  refine rfs_of (q := (3, (if (0 : Int) = 0 then 0 else 1), S)) (show hackZ S a b = _ from ?_) rfl rfl
  unfold hackZ
  rw [e]
theorem board0 {S : Hl} : (boardS S 3 1 0).1 = 0 := by
  unfold boardS
  rw [if_pos (by decide), if_pos (by decide)]
theorem run0 {S : Hl} : (callRun S 500 1).1 = 0 := by
  unfold callRun
  rw [if_pos (by decide)]
section HREF
variable {p : Program} {l : Launch} {e : Env} {R : Room} {s : State} {m : MethodId} {args : Array Value} {below : List Frame} {meth : Method} {c : Code} {H : Heap} {locs : List Loc} {cells slots mc ms : Nat} {Q : State → Prop}
variable {D : va_G} {cy : Nat → ClassId} {B : Nat} {cc : ByteArray} {nL pc : Nat} {ls : Array Slot} {rest st0 As : List Value} {x : Nat} {S S' : Hl} {v : Int}
variable {y : MethodName} {bytes : ByteArray} {maxL idx n : Nat} {ret : Option FieldType} {rm : Room} {hh : List (Nat × Nat × Nat × Nat)}
variable {pp qq : Int}
abbrev rm_L_refuses : Room := { frames := 11, cells := 1124, slots := 255612, locals := 310 }
theorem pm_L_refuses : plainM yL_refuses 3 := by decide +kernel
set_option maxRecDepth 100000 in
set_option maxHeartbeats 4000000 in
theorem w_ref_a (hst : l.stackTraces = false) (C : LC p s m meth c D cy B cL_refuses 14) (rp : rg pp) (rq : rg qq) (hp : pp = (S.np : Int)) (hq : qq = (S.ne : Int)) (rbv : rg (boardS S 3 1 0).2.1) (rsv : rg (callRun S 500 1).2.1) (kk : ∀ (H : Heap) (locs : List Loc) (ls : Array Slot), HI D cy B s.heap H locs x S → lv_has ls 14 [(6, iv 0), (5, iv ((callRun S 500 1).2.1)), (4, iv ((boardS S 3 1 0).2.1)), (3, iv 2147483647), (0, .ref x), (1, iv pp), (2, iv qq)] → W p l e rm_L_refuses s m args below meth c H locs 4 24 Q (F0 m 25 ls [])) : ∀ (H : Heap) (locs : List Loc) (ls : Array Slot), HI D cy B s.heap H locs x S → lv_has ls 14 [(5, iv ((callRun S 500 1).2.1)), (4, iv ((boardS S 3 1 0).2.1)), (3, iv 2147483647), (0, .ref x), (1, iv pp), (2, iv qq)] → W p l e rm_L_refuses s m args below meth c H locs 4 24 Q (F0 m 22 ls []) := by
  intro H locs ls hI hl
  have hok := hI.ok
  have hn6 := hok.2.2.1
  have hn60 := hok.2.2.2.2.1
  refine fl_iconst C.1 dL_refuses_22 ?_
  refine lv_istore (lv' := [(6, iv 0), (5, iv ((callRun S 500 1).2.1)), (4, iv ((boardS S 3 1 0).2.1)), (3, iv 2147483647), (0, .ref x), (1, iv pp), (2, iv qq)]) C.1.1 C.1.2.1 dL_refuses_23 hl (by decide) rfl (fun ls hl => ?_)
  exact W.widen (Nat.le_of_ble_eq_true rfl) (Nat.le_of_ble_eq_true rfl) (kk H locs ls hI hl)
set_option maxRecDepth 100000 in
set_option maxHeartbeats 4000000 in
theorem w_ref_0_0 (hst : l.stackTraces = false) (C : LC p s m meth c D cy B cL_refuses 14) (rp : rg pp) (rq : rg qq) (hp : pp = (S.np : Int)) (hq : qq = (S.ne : Int)) (rbv : rg (boardS S 3 1 0).2.1) (rsv : rg (callRun S 500 1).2.1) (kk : ∀ (H : Heap) (locs : List Loc) (ls : Array Slot), HI D cy B s.heap H locs x S → lv_has ls 14 [(13, iv 1), (12, iv 0), (11, iv (-1)), (10, iv (-1)), (9, iv (-1)), (8, iv (-1)), (7, iv (-1)), (6, iv 0), (5, iv ((callRun S 500 1).2.1)), (4, iv ((boardS S 3 1 0).2.1)), (3, iv 2147483647), (0, .ref x), (1, iv pp), (2, iv qq)] → W p l e rm_L_refuses s m args below meth c H locs 166 37122 Q (F0 m 536 ls [])) : ∀ (H : Heap) (locs : List Loc) (ls : Array Slot), HI D cy B s.heap H locs x S → lv_has ls 14 [(6, iv 0), (5, iv ((callRun S 500 1).2.1)), (4, iv ((boardS S 3 1 0).2.1)), (3, iv 2147483647), (0, .ref x), (1, iv pp), (2, iv qq)] → W p l e rm_L_refuses s m args below meth c H locs 4 24 Q (F0 m 25 ls []) := by
  intro H locs ls hI hl
  have hok := hI.ok
  have hn6 := hok.2.2.1
  have hn60 := hok.2.2.2.2.1
  refine lv_iload C.1.1 C.1.2.1 dL_refuses_25 (lv_at hl 0 rfl) ?_
  refine fl_iconst C.1 dL_refuses_27 ?_
  refine fl_icmp_ge (tgt := 841) C.1 (rgk 0 rfl) (rgk 4 rfl) dL_refuses_28 (by decide) (fun h => absurd h (by decide)) (fun _ => ?_)
  refine lv_iload C.1.1 C.1.2.1 dL_refuses_31 (lv_at hl 0 rfl) ?_
  refine fl_if_ne (tgt := 40) C.1 (rgk 0 rfl) dL_refuses_33 (by decide) (fun h => absurd rfl h) (fun _ => ?_)
  refine fl_iconst C.1 dL_refuses_36 ?_
  refine fl_goto (tgt := 54) C.1 dL_refuses_37 (by decide) ?_
  refine lv_istore (lv' := [(7, iv (-1)), (6, iv 0), (5, iv ((callRun S 500 1).2.1)), (4, iv ((boardS S 3 1 0).2.1)), (3, iv 2147483647), (0, .ref x), (1, iv pp), (2, iv qq)]) C.1.1 C.1.2.1 dL_refuses_54 hl (by decide) rfl (fun ls hl => ?_)
  refine lv_iload C.1.1 C.1.2.1 dL_refuses_56 (lv_at hl 1 rfl) ?_
  refine fl_iconst C.1 dL_refuses_58 ?_
  refine fl_icmp_ne (tgt := 66) C.1 (rgk 0 rfl) (rgk 1 rfl) dL_refuses_59 (by decide) (fun _ => ?_) (fun h => absurd h (by decide))
  refine lv_iload C.1.1 C.1.2.1 dL_refuses_66 (lv_at hl 0 rfl) ?_
  refine lv_istore (lv' := [(8, iv (-1)), (7, iv (-1)), (6, iv 0), (5, iv ((callRun S 500 1).2.1)), (4, iv ((boardS S 3 1 0).2.1)), (3, iv 2147483647), (0, .ref x), (1, iv pp), (2, iv qq)]) C.1.1 C.1.2.1 dL_refuses_68 hl (by decide) rfl (fun ls hl => ?_)
  refine lv_iload C.1.1 C.1.2.1 dL_refuses_70 (lv_at hl 2 rfl) ?_
  refine fl_iconst C.1 dL_refuses_72 ?_
  refine fl_icmp_ne (tgt := 80) C.1 (rgk 0 rfl) (rgk 1 rfl) dL_refuses_73 (by decide) (fun _ => ?_) (fun h => absurd h (by decide))
  refine lv_iload C.1.1 C.1.2.1 dL_refuses_80 (lv_at hl 1 rfl) ?_
  refine lv_istore (lv' := [(9, iv (-1)), (8, iv (-1)), (7, iv (-1)), (6, iv 0), (5, iv ((callRun S 500 1).2.1)), (4, iv ((boardS S 3 1 0).2.1)), (3, iv 2147483647), (0, .ref x), (1, iv pp), (2, iv qq)]) C.1.1 C.1.2.1 dL_refuses_82 hl (by decide) rfl (fun ls hl => ?_)
  refine lv_iload C.1.1 C.1.2.1 dL_refuses_84 (lv_at hl 3 rfl) ?_
  refine fl_iconst C.1 dL_refuses_86 ?_
  refine fl_icmp_ne (tgt := 95) C.1 (rgk 0 rfl) (rgk 1 rfl) dL_refuses_87 (by decide) (fun _ => ?_) (fun h => absurd h (by decide))
  refine lv_iload C.1.1 C.1.2.1 dL_refuses_95 (lv_at hl 2 rfl) ?_
  refine lv_istore (lv' := [(10, iv (-1)), (9, iv (-1)), (8, iv (-1)), (7, iv (-1)), (6, iv 0), (5, iv ((callRun S 500 1).2.1)), (4, iv ((boardS S 3 1 0).2.1)), (3, iv 2147483647), (0, .ref x), (1, iv pp), (2, iv qq)]) C.1.1 C.1.2.1 dL_refuses_97 hl (by decide) rfl (fun ls hl => ?_)
  refine lv_iload C.1.1 C.1.2.1 dL_refuses_99 (lv_at hl 4 rfl) ?_
  refine fl_iconst C.1 dL_refuses_101 ?_
  refine fl_icmp_ne (tgt := 109) C.1 (rgk 0 rfl) (rgk 1 rfl) dL_refuses_102 (by decide) (fun _ => ?_) (fun h => absurd h (by decide))
  refine lv_iload C.1.1 C.1.2.1 dL_refuses_109 (lv_at hl 3 rfl) ?_
  refine lv_istore (lv' := [(11, iv (-1)), (10, iv (-1)), (9, iv (-1)), (8, iv (-1)), (7, iv (-1)), (6, iv 0), (5, iv ((callRun S 500 1).2.1)), (4, iv ((boardS S 3 1 0).2.1)), (3, iv 2147483647), (0, .ref x), (1, iv pp), (2, iv qq)]) C.1.1 C.1.2.1 dL_refuses_111 hl (by decide) rfl (fun ls hl => ?_)
  refine lv_iload C.1.1 C.1.2.1 dL_refuses_113 (lv_at hl 5 rfl) ?_
  refine fl_if_ne (tgt := 122) C.1 (rgk 0 rfl) dL_refuses_115 (by decide) (fun h => absurd rfl h) (fun _ => ?_)
  refine fl_iconst C.1 dL_refuses_118 ?_
  refine fl_goto (tgt := 136) C.1 dL_refuses_119 (by decide) ?_
  refine lv_istore (lv' := [(12, iv 0), (11, iv (-1)), (10, iv (-1)), (9, iv (-1)), (8, iv (-1)), (7, iv (-1)), (6, iv 0), (5, iv ((callRun S 500 1).2.1)), (4, iv ((boardS S 3 1 0).2.1)), (3, iv 2147483647), (0, .ref x), (1, iv pp), (2, iv qq)]) C.1.1 C.1.2.1 dL_refuses_136 hl (by decide) rfl (fun ls hl => ?_)
  refine lv_aload_n C.1.1 C.1.2.1 dL_refuses_138 rfl (lv_at hl 10 rfl) ?_
  refine fl_iconst C.1 dL_refuses_139 ?_
  refine lv_iload C.1.1 C.1.2.1 dL_refuses_140 (lv_at hl 6 rfl) ?_
  refine fl_iconst C.1 dL_refuses_142 ?_
  refine fl_icmp_ne (tgt := 151) C.1 (rgk 0 rfl) (rgk 1 rfl) dL_refuses_143 (by decide) (fun _ => ?_) (fun h => absurd h (by decide))
  refine lv_iload C.1.1 C.1.2.1 dL_refuses_151 (lv_at hl 5 rfl) ?_
  refine fl_iconst C.1 dL_refuses_153 ?_
  refine fl_iconst C.1 dL_refuses_154 ?_
  refine k_act hst C ⟨(Nat.le_of_ble_eq_true rfl), (Nat.le_of_ble_eq_true rfl)⟩ hI hl.1 (rgk 0 rfl) (rgk (-1) rfl) (rgk 0 rfl) (rgk 0 rfl) (rA_code (by omega)) (Nat.le_of_ble_eq_true rfl) ⟨(Nat.le_of_ble_eq_true rfl), (Nat.le_of_ble_eq_true rfl)⟩ dL_refuses_155 (fun H locs hI _ => ?_)
  refine fl_ldc (n := (-7000002)) C.1 aw_802 rfl dL_refuses_158 ?_
  refine fl_icmp_ne (tgt := 533) C.1 (rgk (-7000002) rfl) (rgk (-7000002) rfl) dL_refuses_160 (by decide) (fun h => absurd rfl h) (fun _ => ?_)
  refine lv_aload_n C.1.1 C.1.2.1 dL_refuses_163 rfl (lv_at hl 10 rfl) ?_
  refine fl_iconst C.1 dL_refuses_164 ?_
  refine fl_iconst C.1 dL_refuses_165 ?_
  refine lv_iload C.1.1 C.1.2.1 dL_refuses_166 (lv_at hl 6 rfl) ?_
  refine fl_if_ne (tgt := 176) C.1 (rgk 0 rfl) dL_refuses_168 (by decide) (fun h => absurd rfl h) (fun _ => ?_)
  refine fl_bipush C.1 dL_refuses_171 (by decide) ?_
  refine fl_goto (tgt := 189) C.1 dL_refuses_173 (by decide) ?_
  refine fl_iconst C.1 dL_refuses_189 ?_
  refine k_act hst C ⟨(Nat.le_of_ble_eq_true rfl), (Nat.le_of_ble_eq_true rfl)⟩ hI hl.1 (rgk 0 rfl) (rgk 0 rfl) (rgk (-100) rfl) (rgk 0 rfl) (rA_code (by omega)) (Nat.le_of_ble_eq_true rfl) ⟨(Nat.le_of_ble_eq_true rfl), (Nat.le_of_ble_eq_true rfl)⟩ dL_refuses_190 (fun H locs hI _ => ?_)
  refine fl_ldc (n := (-7000002)) C.1 aw_802 rfl dL_refuses_193 ?_
  refine fl_icmp_ne (tgt := 533) C.1 (rgk (-7000002) rfl) (rgk (-7000002) rfl) dL_refuses_195 (by decide) (fun h => absurd rfl h) (fun _ => ?_)
  refine lv_aload_n C.1.1 C.1.2.1 dL_refuses_198 rfl (lv_at hl 10 rfl) ?_
  refine fl_iconst C.1 dL_refuses_199 ?_
  refine lv_iload C.1.1 C.1.2.1 dL_refuses_200 (lv_at hl 6 rfl) ?_
  refine fl_if_ne (tgt := 210) C.1 (rgk 0 rfl) dL_refuses_202 (by decide) (fun h => absurd rfl h) (fun _ => ?_)
  refine fl_bipush C.1 dL_refuses_205 (by decide) ?_
  refine fl_goto (tgt := 223) C.1 dL_refuses_207 (by decide) ?_
  refine fl_iconst C.1 dL_refuses_223 ?_
  refine fl_iconst C.1 dL_refuses_224 ?_
  refine k_act hst C ⟨(Nat.le_of_ble_eq_true rfl), (Nat.le_of_ble_eq_true rfl)⟩ hI hl.1 (rgk 1 rfl) (rgk (-10) rfl) (rgk 0 rfl) (rgk 0 rfl) (rA_input (by omega)) (Nat.le_of_ble_eq_true rfl) ⟨(Nat.le_of_ble_eq_true rfl), (Nat.le_of_ble_eq_true rfl)⟩ dL_refuses_225 (fun H locs hI _ => ?_)
  refine fl_ldc (n := (-7000002)) C.1 aw_802 rfl dL_refuses_228 ?_
  refine fl_icmp_ne (tgt := 533) C.1 (rgk (-7000002) rfl) (rgk (-7000002) rfl) dL_refuses_230 (by decide) (fun h => absurd rfl h) (fun _ => ?_)
  refine lv_aload_n C.1.1 C.1.2.1 dL_refuses_233 rfl (lv_at hl 10 rfl) ?_
  refine fl_iconst C.1 dL_refuses_234 ?_
  refine lv_iload C.1.1 C.1.2.1 dL_refuses_235 (lv_at hl 0 rfl) ?_
  refine fl_iconst C.1 dL_refuses_237 ?_
  refine fl_iconst C.1 dL_refuses_238 ?_
  refine k_act hst C ⟨(Nat.le_of_ble_eq_true rfl), (Nat.le_of_ble_eq_true rfl)⟩ hI hl.1 (rgk 2 rfl) (rgk 0 rfl) (rgk 0 rfl) (rgk 0 rfl) (rA_run (by omega)) (Nat.le_of_ble_eq_true rfl) ⟨(Nat.le_of_ble_eq_true rfl), (Nat.le_of_ble_eq_true rfl)⟩ dL_refuses_239 (fun H locs hI _ => ?_)
  refine fl_ldc (n := (-7000002)) C.1 aw_802 rfl dL_refuses_242 ?_
  refine fl_icmp_ne (tgt := 533) C.1 (rgk (-7000002) rfl) (rgk (-7000002) rfl) dL_refuses_244 (by decide) (fun h => absurd rfl h) (fun _ => ?_)
  refine lv_aload_n C.1.1 C.1.2.1 dL_refuses_247 rfl (lv_at hl 10 rfl) ?_
  refine fl_iconst C.1 dL_refuses_248 ?_
  refine fl_iconst C.1 dL_refuses_249 ?_
  refine lv_iload C.1.1 C.1.2.1 dL_refuses_250 (lv_at hl 6 rfl) ?_
  refine fl_iconst C.1 dL_refuses_252 ?_
  refine fl_icmp_ne (tgt := 261) C.1 (rgk 0 rfl) (rgk 1 rfl) dL_refuses_253 (by decide) (fun _ => ?_) (fun h => absurd h (by decide))
  refine lv_iload C.1.1 C.1.2.1 dL_refuses_261 (lv_at hl 5 rfl) ?_
  refine fl_iconst C.1 dL_refuses_263 ?_
  refine k_act hst C ⟨(Nat.le_of_ble_eq_true rfl), (Nat.le_of_ble_eq_true rfl)⟩ hI hl.1 (rgk 2 rfl) (rgk 1 rfl) (rgk (-1) rfl) (rgk 0 rfl) (rA_run (by omega)) (Nat.le_of_ble_eq_true rfl) ⟨(Nat.le_of_ble_eq_true rfl), (Nat.le_of_ble_eq_true rfl)⟩ dL_refuses_264 (fun H locs hI _ => ?_)
  refine fl_ldc (n := (-7000002)) C.1 aw_802 rfl dL_refuses_267 ?_
  refine fl_icmp_ne (tgt := 533) C.1 (rgk (-7000002) rfl) (rgk (-7000002) rfl) dL_refuses_269 (by decide) (fun h => absurd rfl h) (fun _ => ?_)
  refine lv_aload_n C.1.1 C.1.2.1 dL_refuses_272 rfl (lv_at hl 10 rfl) ?_
  refine fl_iconst C.1 dL_refuses_273 ?_
  refine lv_iload C.1.1 C.1.2.1 dL_refuses_274 (lv_at hl 0 rfl) ?_
  refine fl_iconst C.1 dL_refuses_276 ?_
  refine fl_iconst C.1 dL_refuses_277 ?_
  refine k_act hst C ⟨(Nat.le_of_ble_eq_true rfl), (Nat.le_of_ble_eq_true rfl)⟩ hI hl.1 (rgk 3 rfl) (rgk 0 rfl) (rgk 0 rfl) (rgk 0 rfl) (rA_problem (by omega)) (Nat.le_of_ble_eq_true rfl) ⟨(Nat.le_of_ble_eq_true rfl), (Nat.le_of_ble_eq_true rfl)⟩ dL_refuses_278 (fun H locs hI _ => ?_)
  refine fl_ldc (n := (-7000002)) C.1 aw_802 rfl dL_refuses_281 ?_
  refine fl_icmp_ne (tgt := 533) C.1 (rgk (-7000002) rfl) (rgk (-7000002) rfl) dL_refuses_283 (by decide) (fun h => absurd rfl h) (fun _ => ?_)
  refine lv_aload_n C.1.1 C.1.2.1 dL_refuses_286 rfl (lv_at hl 10 rfl) ?_
  refine fl_iconst C.1 dL_refuses_287 ?_
  refine fl_iconst C.1 dL_refuses_288 ?_
  refine lv_iload C.1.1 C.1.2.1 dL_refuses_289 (lv_at hl 6 rfl) ?_
  refine fl_iconst C.1 dL_refuses_291 ?_
  refine fl_icmp_ne (tgt := 299) C.1 (rgk 0 rfl) (rgk 1 rfl) dL_refuses_292 (by decide) (fun _ => ?_) (fun h => absurd h (by decide))
  refine lv_iload C.1.1 C.1.2.1 dL_refuses_299 (lv_at hl 5 rfl) ?_
  refine fl_iconst C.1 dL_refuses_301 ?_
  refine k_act hst C ⟨(Nat.le_of_ble_eq_true rfl), (Nat.le_of_ble_eq_true rfl)⟩ hI hl.1 (rgk 3 rfl) (rgk 1 rfl) (rgk (-1) rfl) (rgk 0 rfl) (rA_problem (by omega)) (Nat.le_of_ble_eq_true rfl) ⟨(Nat.le_of_ble_eq_true rfl), (Nat.le_of_ble_eq_true rfl)⟩ dL_refuses_302 (fun H locs hI _ => ?_)
  refine fl_ldc (n := (-7000002)) C.1 aw_802 rfl dL_refuses_305 ?_
  refine fl_icmp_ne (tgt := 533) C.1 (rgk (-7000002) rfl) (rgk (-7000002) rfl) dL_refuses_307 (by decide) (fun h => absurd rfl h) (fun _ => ?_)
  refine lv_aload_n C.1.1 C.1.2.1 dL_refuses_310 rfl (lv_at hl 10 rfl) ?_
  refine fl_iconst C.1 dL_refuses_311 ?_
  refine lv_iload C.1.1 C.1.2.1 dL_refuses_312 (lv_at hl 4 rfl) ?_
  refine fl_iconst C.1 dL_refuses_314 ?_
  refine fl_iconst C.1 dL_refuses_315 ?_
  refine k_act hst C ⟨(Nat.le_of_ble_eq_true rfl), (Nat.le_of_ble_eq_true rfl)⟩ hI hl.1 (rgk 4 rfl) (rgk (-1) rfl) (rgk 0 rfl) (rgk 0 rfl) (rA_test (by omega)) (Nat.le_of_ble_eq_true rfl) ⟨(Nat.le_of_ble_eq_true rfl), (Nat.le_of_ble_eq_true rfl)⟩ dL_refuses_316 (fun H locs hI _ => ?_)
  refine fl_ldc (n := (-7000001)) C.1 aw_801 rfl dL_refuses_319 ?_
  refine fl_icmp_ne (tgt := 533) C.1 (rgk (-7000001) rfl) (rgk (-7000001) rfl) dL_refuses_321 (by decide) (fun h => absurd rfl h) (fun _ => ?_)
  refine lv_aload_n C.1.1 C.1.2.1 dL_refuses_324 rfl (lv_at hl 10 rfl) ?_
  refine fl_iconst C.1 dL_refuses_325 ?_
  refine fl_iconst C.1 dL_refuses_326 ?_
  refine lv_iload C.1.1 C.1.2.1 dL_refuses_327 (lv_at hl 1 rfl) ?_
  refine fl_iconst C.1 dL_refuses_329 ?_
  refine k_act hst C ⟨(Nat.le_of_ble_eq_true rfl), (Nat.le_of_ble_eq_true rfl)⟩ hI hl.1 (rgk 4 rfl) (rgk 0 rfl) (rgk (-1) rfl) (rgk 0 rfl) (rA_test (by omega)) (Nat.le_of_ble_eq_true rfl) ⟨(Nat.le_of_ble_eq_true rfl), (Nat.le_of_ble_eq_true rfl)⟩ dL_refuses_330 (fun H locs hI _ => ?_)
  refine fl_ldc (n := (-7000001)) C.1 aw_801 rfl dL_refuses_333 ?_
  refine fl_icmp_ne (tgt := 533) C.1 (rgk (-7000001) rfl) (rgk (-7000001) rfl) dL_refuses_335 (by decide) (fun h => absurd rfl h) (fun _ => ?_)
  refine lv_aload_n C.1.1 C.1.2.1 dL_refuses_338 rfl (lv_at hl 10 rfl) ?_
  refine fl_iconst C.1 dL_refuses_339 ?_
  refine lv_iload C.1.1 C.1.2.1 dL_refuses_340 (lv_at hl 4 rfl) ?_
  refine fl_iconst C.1 dL_refuses_342 ?_
  refine fl_sipush C.1 dL_refuses_343 (by decide) ?_
  refine k_act hst C ⟨(Nat.le_of_ble_eq_true rfl), (Nat.le_of_ble_eq_true rfl)⟩ hI hl.1 (rgk 5 rfl) (rgk (-1) rfl) (rgk 0 rfl) (rgk 999 rfl) (rA_points (by omega)) (Nat.le_of_ble_eq_true rfl) ⟨(Nat.le_of_ble_eq_true rfl), (Nat.le_of_ble_eq_true rfl)⟩ dL_refuses_346 (fun H locs hI _ => ?_)
  refine fl_ldc (n := (-7000001)) C.1 aw_801 rfl dL_refuses_349 ?_
  refine fl_icmp_ne (tgt := 533) C.1 (rgk (-7000001) rfl) (rgk (-7000001) rfl) dL_refuses_351 (by decide) (fun h => absurd rfl h) (fun _ => ?_)
  refine lv_aload_n C.1.1 C.1.2.1 dL_refuses_354 rfl (lv_at hl 10 rfl) ?_
  refine fl_iconst C.1 dL_refuses_355 ?_
  refine fl_iconst C.1 dL_refuses_356 ?_
  refine lv_iload C.1.1 C.1.2.1 dL_refuses_357 (lv_at hl 1 rfl) ?_
  refine fl_sipush C.1 dL_refuses_359 (by decide) ?_
  refine k_act hst C ⟨(Nat.le_of_ble_eq_true rfl), (Nat.le_of_ble_eq_true rfl)⟩ hI hl.1 (rgk 5 rfl) (rgk 0 rfl) (rgk (-1) rfl) (rgk 999 rfl) (rA_points (by omega)) (Nat.le_of_ble_eq_true rfl) ⟨(Nat.le_of_ble_eq_true rfl), (Nat.le_of_ble_eq_true rfl)⟩ dL_refuses_362 (fun H locs hI _ => ?_)
  refine fl_ldc (n := (-7000001)) C.1 aw_801 rfl dL_refuses_365 ?_
  refine fl_icmp_ne (tgt := 533) C.1 (rgk (-7000001) rfl) (rgk (-7000001) rfl) dL_refuses_367 (by decide) (fun h => absurd rfl h) (fun _ => ?_)
  refine lv_aload_n C.1.1 C.1.2.1 dL_refuses_370 rfl (lv_at hl 10 rfl) ?_
  refine fl_bipush C.1 dL_refuses_371 (by decide) ?_
  refine lv_iload C.1.1 C.1.2.1 dL_refuses_373 (lv_at hl 4 rfl) ?_
  refine fl_bipush C.1 dL_refuses_375 (by decide) ?_
  refine fl_iconst C.1 dL_refuses_377 ?_
  refine k_act hst C ⟨(Nat.le_of_ble_eq_true rfl), (Nat.le_of_ble_eq_true rfl)⟩ hI hl.1 (rgk 6 rfl) (rgk (-1) rfl) (rgk 9 rfl) (rgk 0 rfl) (rA_mend (by omega)) (Nat.le_of_ble_eq_true rfl) ⟨(Nat.le_of_ble_eq_true rfl), (Nat.le_of_ble_eq_true rfl)⟩ dL_refuses_378 (fun H locs hI _ => ?_)
  refine fl_ldc (n := (-7000001)) C.1 aw_801 rfl dL_refuses_381 ?_
  refine fl_icmp_ne (tgt := 533) C.1 (rgk (-7000001) rfl) (rgk (-7000001) rfl) dL_refuses_383 (by decide) (fun h => absurd rfl h) (fun _ => ?_)
  refine lv_aload_n C.1.1 C.1.2.1 dL_refuses_386 rfl (lv_at hl 10 rfl) ?_
  refine fl_bipush C.1 dL_refuses_387 (by decide) ?_
  refine lv_iload C.1.1 C.1.2.1 dL_refuses_389 (lv_at hl 4 rfl) ?_
  refine fl_iconst C.1 dL_refuses_391 ?_
  refine fl_iconst C.1 dL_refuses_392 ?_
  refine k_act hst C ⟨(Nat.le_of_ble_eq_true rfl), (Nat.le_of_ble_eq_true rfl)⟩ hI hl.1 (rgk 7 rfl) (rgk (-1) rfl) (rgk 0 rfl) (rgk 0 rfl) (rA_answer hok (by omega)) (Nat.le_of_ble_eq_true rfl) ⟨(Nat.le_of_ble_eq_true rfl), (Nat.le_of_ble_eq_true rfl)⟩ dL_refuses_393 (fun H locs hI _ => ?_)
  refine fl_ldc (n := (-7000001)) C.1 aw_801 rfl dL_refuses_396 ?_
  refine fl_icmp_ne (tgt := 533) C.1 (rgk (-7000001) rfl) (rgk (-7000001) rfl) dL_refuses_398 (by decide) (fun h => absurd rfl h) (fun _ => ?_)
  refine lv_aload_n C.1.1 C.1.2.1 dL_refuses_401 rfl (lv_at hl 10 rfl) ?_
  refine fl_bipush C.1 dL_refuses_402 (by decide) ?_
  refine fl_iconst C.1 dL_refuses_404 ?_
  refine lv_iload C.1.1 C.1.2.1 dL_refuses_405 (lv_at hl 6 rfl) ?_
  refine fl_iconst C.1 dL_refuses_407 ?_
  refine fl_icmp_ne (tgt := 416) C.1 (rgk 0 rfl) (rgk 1 rfl) dL_refuses_408 (by decide) (fun _ => ?_) (fun h => absurd h (by decide))
  refine lv_iload C.1.1 C.1.2.1 dL_refuses_416 (lv_at hl 5 rfl) ?_
  refine fl_iconst C.1 dL_refuses_418 ?_
  refine k_act hst C ⟨(Nat.le_of_ble_eq_true rfl), (Nat.le_of_ble_eq_true rfl)⟩ hI hl.1 (rgk 7 rfl) (rgk 0 rfl) (rgk (-1) rfl) (rgk 0 rfl) (rA_answer hok (by omega)) (Nat.le_of_ble_eq_true rfl) ⟨(Nat.le_of_ble_eq_true rfl), (Nat.le_of_ble_eq_true rfl)⟩ dL_refuses_419 (fun H locs hI _ => ?_)
  refine fl_ldc (n := (-7000001)) C.1 aw_801 rfl dL_refuses_422 ?_
  refine fl_icmp_ne (tgt := 533) C.1 (rgk (-7000001) rfl) (rgk (-7000001) rfl) dL_refuses_424 (by decide) (fun h => absurd rfl h) (fun _ => ?_)
  refine lv_aload_n C.1.1 C.1.2.1 dL_refuses_427 rfl (lv_at hl 10 rfl) ?_
  refine fl_bipush C.1 dL_refuses_428 (by decide) ?_
  refine fl_iconst C.1 dL_refuses_430 ?_
  refine fl_iconst C.1 dL_refuses_431 ?_
  refine lv_iload C.1.1 C.1.2.1 dL_refuses_432 (lv_at hl 6 rfl) ?_
  refine fl_iconst C.1 dL_refuses_434 ?_
  refine fl_icmp_ne (tgt := 443) C.1 (rgk 0 rfl) (rgk 1 rfl) dL_refuses_435 (by decide) (fun _ => ?_) (fun h => absurd h (by decide))
  refine lv_iload C.1.1 C.1.2.1 dL_refuses_443 (lv_at hl 6 rfl) ?_
  refine fl_iconst C.1 dL_refuses_445 ?_
  refine fl_icmp_ne (tgt := 453) C.1 (rgk 0 rfl) (rgk 2 rfl) dL_refuses_446 (by decide) (fun _ => ?_) (fun h => absurd h (by decide))
  refine lv_iload C.1.1 C.1.2.1 dL_refuses_453 (lv_at hl 5 rfl) ?_
  refine k_act hst C ⟨(Nat.le_of_ble_eq_true rfl), (Nat.le_of_ble_eq_true rfl)⟩ hI hl.1 (rgk 7 rfl) (rgk 0 rfl) (rgk 0 rfl) (rgk (-1) rfl) (rA_answer hok (by omega)) (Nat.le_of_ble_eq_true rfl) ⟨(Nat.le_of_ble_eq_true rfl), (Nat.le_of_ble_eq_true rfl)⟩ dL_refuses_455 (fun H locs hI _ => ?_)
  refine fl_ldc (n := (-7000001)) C.1 aw_801 rfl dL_refuses_458 ?_
  refine fl_icmp_ne (tgt := 533) C.1 (rgk (-7000001) rfl) (rgk (-7000001) rfl) dL_refuses_460 (by decide) (fun h => absurd rfl h) (fun _ => ?_)
  refine lv_aload_n C.1.1 C.1.2.1 dL_refuses_463 rfl (lv_at hl 10 rfl) ?_
  refine fl_bipush C.1 dL_refuses_464 (by decide) ?_
  refine lv_iload C.1.1 C.1.2.1 dL_refuses_466 (lv_at hl 2 rfl) ?_
  refine fl_iconst C.1 dL_refuses_468 ?_
  refine fl_iconst C.1 dL_refuses_469 ?_
  refine k_act hst C ⟨(Nat.le_of_ble_eq_true rfl), (Nat.le_of_ble_eq_true rfl)⟩ hI hl.1 (rgk 8 rfl) (rgk (-1) rfl) (rgk 0 rfl) (rgk 0 rfl) (rA_enter (by omega)) (Nat.le_of_ble_eq_true rfl) ⟨(Nat.le_of_ble_eq_true rfl), (Nat.le_of_ble_eq_true rfl)⟩ dL_refuses_470 (fun H locs hI _ => ?_)
  refine fl_ldc (n := (-7000001)) C.1 aw_801 rfl dL_refuses_473 ?_
  refine fl_icmp_ne (tgt := 533) C.1 (rgk (-7000001) rfl) (rgk (-7000001) rfl) dL_refuses_475 (by decide) (fun h => absurd rfl h) (fun _ => ?_)
  refine lv_aload_n C.1.1 C.1.2.1 dL_refuses_478 rfl (lv_at hl 10 rfl) ?_
  refine fl_bipush C.1 dL_refuses_479 (by decide) ?_
  refine fl_iconst C.1 dL_refuses_481 ?_
  refine lv_iload C.1.1 C.1.2.1 dL_refuses_482 (lv_at hl 4 rfl) ?_
  refine fl_iconst C.1 dL_refuses_484 ?_
  refine k_act hst C ⟨(Nat.le_of_ble_eq_true rfl), (Nat.le_of_ble_eq_true rfl)⟩ hI hl.1 (rgk 8 rfl) (rgk 0 rfl) (rgk (-1) rfl) (rgk 0 rfl) (rA_enter (by omega)) (Nat.le_of_ble_eq_true rfl) ⟨(Nat.le_of_ble_eq_true rfl), (Nat.le_of_ble_eq_true rfl)⟩ dL_refuses_485 (fun H locs hI _ => ?_)
  refine fl_ldc (n := (-7000001)) C.1 aw_801 rfl dL_refuses_488 ?_
  refine fl_icmp_ne (tgt := 533) C.1 (rgk (-7000001) rfl) (rgk (-7000001) rfl) dL_refuses_490 (by decide) (fun h => absurd rfl h) (fun _ => ?_)
  refine lv_aload_n C.1.1 C.1.2.1 dL_refuses_493 rfl (lv_at hl 10 rfl) ?_
  refine fl_bipush C.1 dL_refuses_494 (by decide) ?_
  refine lv_iload C.1.1 C.1.2.1 dL_refuses_496 (lv_at hl 6 rfl) ?_
  refine fl_if_ne (tgt := 505) C.1 (rgk 0 rfl) dL_refuses_498 (by decide) (fun h => absurd rfl h) (fun _ => ?_)
  refine fl_iconst C.1 dL_refuses_501 ?_
  refine fl_goto (tgt := 519) C.1 dL_refuses_502 (by decide) ?_
  refine fl_iconst C.1 dL_refuses_519 ?_
  refine fl_iconst C.1 dL_refuses_520 ?_
  refine k_act hst C ⟨(Nat.le_of_ble_eq_true rfl), (Nat.le_of_ble_eq_true rfl)⟩ hI hl.1 (rgk 9 rfl) (rgk 0 rfl) (rgk 0 rfl) (rgk 0 rfl) (rA_pass (by omega)) (Nat.le_of_ble_eq_true rfl) ⟨(Nat.le_of_ble_eq_true rfl), (Nat.le_of_ble_eq_true rfl)⟩ dL_refuses_521 (fun H locs hI _ => ?_)
  refine fl_ldc (n := (-7000002)) C.1 aw_802 rfl dL_refuses_524 ?_
  refine fl_icmp_ne (tgt := 533) C.1 (rgk (-7000002) rfl) (rgk (-7000002) rfl) dL_refuses_526 (by decide) (fun h => absurd rfl h) (fun _ => ?_)
  refine fl_iconst C.1 dL_refuses_529 ?_
  refine fl_goto (tgt := 534) C.1 dL_refuses_530 (by decide) ?_
  refine lv_istore (lv' := [(13, iv 1), (12, iv 0), (11, iv (-1)), (10, iv (-1)), (9, iv (-1)), (8, iv (-1)), (7, iv (-1)), (6, iv 0), (5, iv ((callRun S 500 1).2.1)), (4, iv ((boardS S 3 1 0).2.1)), (3, iv 2147483647), (0, .ref x), (1, iv pp), (2, iv qq)]) C.1.1 C.1.2.1 dL_refuses_534 hl (by decide) rfl (fun ls hl => ?_)
  exact W.widen (Nat.le_of_ble_eq_true rfl) (Nat.le_of_ble_eq_true rfl) (kk H locs ls hI hl)
set_option maxRecDepth 100000 in
set_option maxHeartbeats 4000000 in
theorem w_ref_0_1 (hst : l.stackTraces = false) (C : LC p s m meth c D cy B cL_refuses 14) (rp : rg pp) (rq : rg qq) (hp : pp = (S.np : Int)) (hq : qq = (S.ne : Int)) (rbv : rg (boardS S 3 1 0).2.1) (rsv : rg (callRun S 500 1).2.1) (kk : ∀ (H : Heap) (locs : List Loc) (ls : Array Slot), HI D cy B s.heap H locs x S → lv_has ls 14 [(13, iv 1), (12, iv 0), (11, iv (-1)), (10, iv (-1)), (9, iv (-1)), (8, iv (-1)), (7, iv (-1)), (6, iv 0), (5, iv ((callRun S 500 1).2.1)), (4, iv ((boardS S 3 1 0).2.1)), (3, iv 2147483647), (0, .ref x), (1, iv pp), (2, iv qq)] → W p l e rm_L_refuses s m args below meth c H locs 256 57732 Q (F0 m 737 ls [])) : ∀ (H : Heap) (locs : List Loc) (ls : Array Slot), HI D cy B s.heap H locs x S → lv_has ls 14 [(13, iv 1), (12, iv 0), (11, iv (-1)), (10, iv (-1)), (9, iv (-1)), (8, iv (-1)), (7, iv (-1)), (6, iv 0), (5, iv ((callRun S 500 1).2.1)), (4, iv ((boardS S 3 1 0).2.1)), (3, iv 2147483647), (0, .ref x), (1, iv pp), (2, iv qq)] → W p l e rm_L_refuses s m args below meth c H locs 166 37122 Q (F0 m 536 ls []) := by
  intro H locs ls hI hl
  have hok := hI.ok
  have hn6 := hok.2.2.1
  have hn60 := hok.2.2.2.2.1
  refine lv_iload C.1.1 C.1.2.1 dL_refuses_536 (lv_at hl 0 rfl) ?_
  refine fl_if_eq (tgt := 729) C.1 (rgk 1 rfl) dL_refuses_538 (by decide) (fun h => absurd h (by decide)) (fun _ => ?_)
  refine lv_aload_n C.1.1 C.1.2.1 dL_refuses_541 rfl (lv_at hl 11 rfl) ?_
  refine fl_bipush C.1 dL_refuses_542 (by decide) ?_
  refine lv_iload C.1.1 C.1.2.1 dL_refuses_544 (lv_at hl 5 rfl) ?_
  refine fl_iconst C.1 dL_refuses_546 ?_
  refine fl_iconst C.1 dL_refuses_547 ?_
  refine k_act hst C ⟨(Nat.le_of_ble_eq_true rfl), (Nat.le_of_ble_eq_true rfl)⟩ hI hl.1 (rgk 10 rfl) (rgk (-1) rfl) (rgk 0 rfl) (rgk 0 rfl) (rA_rejudge (by omega)) (Nat.le_of_ble_eq_true rfl) ⟨(Nat.le_of_ble_eq_true rfl), (Nat.le_of_ble_eq_true rfl)⟩ dL_refuses_548 (fun H locs hI _ => ?_)
  refine fl_ldc (n := (-7000001)) C.1 aw_801 rfl dL_refuses_551 ?_
  refine fl_icmp_ne (tgt := 729) C.1 (rgk (-7000001) rfl) (rgk (-7000001) rfl) dL_refuses_553 (by decide) (fun h => absurd rfl h) (fun _ => ?_)
  refine lv_aload_n C.1.1 C.1.2.1 dL_refuses_556 rfl (lv_at hl 11 rfl) ?_
  refine fl_bipush C.1 dL_refuses_557 (by decide) ?_
  refine lv_iload C.1.1 C.1.2.1 dL_refuses_559 (lv_at hl 4 rfl) ?_
  refine fl_bipush C.1 dL_refuses_561 (by decide) ?_
  refine fl_iconst C.1 dL_refuses_563 ?_
  refine k_act hst C ⟨(Nat.le_of_ble_eq_true rfl), (Nat.le_of_ble_eq_true rfl)⟩ hI hl.1 (rgk 11 rfl) (rgk (-1) rfl) (rgk 9 rfl) (rgk 0 rfl) (rA_entry (by omega)) (Nat.le_of_ble_eq_true rfl) ⟨(Nat.le_of_ble_eq_true rfl), (Nat.le_of_ble_eq_true rfl)⟩ dL_refuses_564 (fun H locs hI _ => ?_)
  refine fl_ldc (n := (-7000001)) C.1 aw_801 rfl dL_refuses_567 ?_
  refine fl_icmp_ne (tgt := 729) C.1 (rgk (-7000001) rfl) (rgk (-7000001) rfl) dL_refuses_569 (by decide) (fun h => absurd rfl h) (fun _ => ?_)
  refine lv_aload_n C.1.1 C.1.2.1 dL_refuses_572 rfl (lv_at hl 11 rfl) ?_
  refine fl_bipush C.1 dL_refuses_573 (by decide) ?_
  refine lv_iload C.1.1 C.1.2.1 dL_refuses_575 (lv_at hl 4 rfl) ?_
  refine fl_iconst C.1 dL_refuses_577 ?_
  refine fl_iconst C.1 dL_refuses_578 ?_
  refine k_act hst C ⟨(Nat.le_of_ble_eq_true rfl), (Nat.le_of_ble_eq_true rfl)⟩ hI hl.1 (rgk 12 rfl) (rgk (-1) rfl) (rgk 0 rfl) (rgk 0 rfl) (rA_likeness (by omega)) (Nat.le_of_ble_eq_true rfl) ⟨(Nat.le_of_ble_eq_true rfl), (Nat.le_of_ble_eq_true rfl)⟩ dL_refuses_579 (fun H locs hI _ => ?_)
  refine fl_ldc (n := (-7000001)) C.1 aw_801 rfl dL_refuses_582 ?_
  refine fl_icmp_ne (tgt := 729) C.1 (rgk (-7000001) rfl) (rgk (-7000001) rfl) dL_refuses_584 (by decide) (fun h => absurd rfl h) (fun _ => ?_)
  refine lv_aload_n C.1.1 C.1.2.1 dL_refuses_587 rfl (lv_at hl 11 rfl) ?_
  refine fl_bipush C.1 dL_refuses_588 (by decide) ?_
  refine fl_iconst C.1 dL_refuses_590 ?_
  refine lv_iload C.1.1 C.1.2.1 dL_refuses_591 (lv_at hl 4 rfl) ?_
  refine fl_iconst C.1 dL_refuses_593 ?_
  refine k_act hst C ⟨(Nat.le_of_ble_eq_true rfl), (Nat.le_of_ble_eq_true rfl)⟩ hI hl.1 (rgk 12 rfl) (rgk 0 rfl) (rgk (-1) rfl) (rgk 0 rfl) (rA_likeness (by omega)) (Nat.le_of_ble_eq_true rfl) ⟨(Nat.le_of_ble_eq_true rfl), (Nat.le_of_ble_eq_true rfl)⟩ dL_refuses_594 (fun H locs hI _ => ?_)
  refine fl_ldc (n := (-7000001)) C.1 aw_801 rfl dL_refuses_597 ?_
  refine fl_icmp_ne (tgt := 729) C.1 (rgk (-7000001) rfl) (rgk (-7000001) rfl) dL_refuses_599 (by decide) (fun h => absurd rfl h) (fun _ => ?_)
  refine lv_aload_n C.1.1 C.1.2.1 dL_refuses_602 rfl (lv_at hl 11 rfl) ?_
  refine fl_bipush C.1 dL_refuses_603 (by decide) ?_
  refine lv_iload C.1.1 C.1.2.1 dL_refuses_605 (lv_at hl 7 rfl) ?_
  refine fl_if_ne (tgt := 615) C.1 (rgk 0 rfl) dL_refuses_607 (by decide) (fun h => absurd rfl h) (fun _ => ?_)
  refine fl_bipush C.1 dL_refuses_610 (by decide) ?_
  refine fl_goto (tgt := 629) C.1 dL_refuses_612 (by decide) ?_
  refine fl_iconst C.1 dL_refuses_629 ?_
  refine fl_iconst C.1 dL_refuses_630 ?_
  refine k_act hst C ⟨(Nat.le_of_ble_eq_true rfl), (Nat.le_of_ble_eq_true rfl)⟩ hI hl.1 (rgk 13 rfl) (rgk (-2) rfl) (rgk 0 rfl) (rgk 0 rfl) (rA_freeze (by omega)) (Nat.le_of_ble_eq_true rfl) ⟨(Nat.le_of_ble_eq_true rfl), (Nat.le_of_ble_eq_true rfl)⟩ dL_refuses_631 (fun H locs hI _ => ?_)
  refine fl_ldc (n := (-7000002)) C.1 aw_802 rfl dL_refuses_634 ?_
  refine fl_icmp_ne (tgt := 729) C.1 (rgk (-7000002) rfl) (rgk (-7000002) rfl) dL_refuses_636 (by decide) (fun h => absurd rfl h) (fun _ => ?_)
  refine lv_aload_n C.1.1 C.1.2.1 dL_refuses_639 rfl (lv_at hl 11 rfl) ?_
  refine fl_bipush C.1 dL_refuses_640 (by decide) ?_
  refine lv_iload C.1.1 C.1.2.1 dL_refuses_642 (lv_at hl 3 rfl) ?_
  refine fl_iconst C.1 dL_refuses_644 ?_
  refine fl_bipush C.1 dL_refuses_645 (by decide) ?_
  refine k_act hst C ⟨(Nat.le_of_ble_eq_true rfl), (Nat.le_of_ble_eq_true rfl)⟩ hI hl.1 (rgk 14 rfl) (rgk (-1) rfl) (rgk 0 rfl) (rgk 9 rfl) (rA_board (by omega)) (Nat.le_of_ble_eq_true rfl) ⟨(Nat.le_of_ble_eq_true rfl), (Nat.le_of_ble_eq_true rfl)⟩ dL_refuses_647 (fun H locs hI _ => ?_)
  refine fl_ldc (n := (-7000001)) C.1 aw_801 rfl dL_refuses_650 ?_
  refine fl_icmp_ne (tgt := 729) C.1 (rgk (-7000001) rfl) (rgk (-7000001) rfl) dL_refuses_652 (by decide) (fun h => absurd rfl h) (fun _ => ?_)
  refine lv_aload_n C.1.1 C.1.2.1 dL_refuses_655 rfl (lv_at hl 11 rfl) ?_
  refine fl_bipush C.1 dL_refuses_656 (by decide) ?_
  refine fl_iconst C.1 dL_refuses_658 ?_
  refine fl_iconst C.1 dL_refuses_659 ?_
  refine lv_iload C.1.1 C.1.2.1 dL_refuses_660 (lv_at hl 7 rfl) ?_
  refine fl_iconst C.1 dL_refuses_662 ?_
  refine fl_icmp_ne (tgt := 670) C.1 (rgk 0 rfl) (rgk 1 rfl) dL_refuses_663 (by decide) (fun _ => ?_) (fun h => absurd h (by decide))
  refine lv_iload C.1.1 C.1.2.1 dL_refuses_670 (lv_at hl 6 rfl) ?_
  refine k_act hst C ⟨(Nat.le_of_ble_eq_true rfl), (Nat.le_of_ble_eq_true rfl)⟩ hI hl.1 (rgk 14 rfl) (rgk 0 rfl) (rgk 0 rfl) (rgk (-1) rfl) (rA_board2 (by omega)) (Nat.le_of_ble_eq_true rfl) ⟨(Nat.le_of_ble_eq_true rfl), (Nat.le_of_ble_eq_true rfl)⟩ dL_refuses_672 (fun H locs hI _ => ?_)
  refine fl_ldc (n := (-7000002)) C.1 aw_802 rfl dL_refuses_675 ?_
  refine fl_icmp_ne (tgt := 729) C.1 (rgk (-7000002) rfl) (rgk (-7000002) rfl) dL_refuses_677 (by decide) (fun h => absurd rfl h) (fun _ => ?_)
  refine lv_aload_n C.1.1 C.1.2.1 dL_refuses_680 rfl (lv_at hl 11 rfl) ?_
  refine fl_bipush C.1 dL_refuses_681 (by decide) ?_
  refine lv_iload C.1.1 C.1.2.1 dL_refuses_683 (lv_at hl 3 rfl) ?_
  refine fl_iconst C.1 dL_refuses_685 ?_
  refine fl_iconst C.1 dL_refuses_686 ?_
  refine k_act hst C ⟨(Nat.le_of_ble_eq_true rfl), (Nat.le_of_ble_eq_true rfl)⟩ hI hl.1 (rgk 15 rfl) (rgk (-1) rfl) (rgk 0 rfl) (rgk 0 rfl) (rA_placeAnew (by omega)) (Nat.le_of_ble_eq_true rfl) ⟨(Nat.le_of_ble_eq_true rfl), (Nat.le_of_ble_eq_true rfl)⟩ dL_refuses_687 (fun H locs hI _ => ?_)
  refine fl_ldc (n := (-7000001)) C.1 aw_801 rfl dL_refuses_690 ?_
  refine fl_icmp_ne (tgt := 729) C.1 (rgk (-7000001) rfl) (rgk (-7000001) rfl) dL_refuses_692 (by decide) (fun h => absurd rfl h) (fun _ => ?_)
  refine lv_aload_n C.1.1 C.1.2.1 dL_refuses_695 rfl (lv_at hl 11 rfl) ?_
  refine fl_bipush C.1 dL_refuses_696 (by decide) ?_
  refine lv_iload C.1.1 C.1.2.1 dL_refuses_698 (lv_at hl 3 rfl) ?_
  refine fl_iconst C.1 dL_refuses_700 ?_
  refine fl_iconst C.1 dL_refuses_701 ?_
  refine k_act hst C ⟨(Nat.le_of_ble_eq_true rfl), (Nat.le_of_ble_eq_true rfl)⟩ hI hl.1 (rgk 16 rfl) (rgk (-1) rfl) (rgk 0 rfl) (rgk 0 rfl) (rA_hack (by omega)) (Nat.le_of_ble_eq_true rfl) ⟨(Nat.le_of_ble_eq_true rfl), (Nat.le_of_ble_eq_true rfl)⟩ dL_refuses_702 (fun H locs hI _ => ?_)
  refine fl_ldc (n := (-7000001)) C.1 aw_801 rfl dL_refuses_705 ?_
  refine fl_icmp_ne (tgt := 729) C.1 (rgk (-7000001) rfl) (rgk (-7000001) rfl) dL_refuses_707 (by decide) (fun h => absurd rfl h) (fun _ => ?_)
  refine lv_aload_n C.1.1 C.1.2.1 dL_refuses_710 rfl (lv_at hl 11 rfl) ?_
  refine fl_bipush C.1 dL_refuses_711 (by decide) ?_
  refine fl_iconst C.1 dL_refuses_713 ?_
  refine lv_iload C.1.1 C.1.2.1 dL_refuses_714 (lv_at hl 4 rfl) ?_
  refine fl_iconst C.1 dL_refuses_716 ?_
  refine k_act hst C ⟨(Nat.le_of_ble_eq_true rfl), (Nat.le_of_ble_eq_true rfl)⟩ hI hl.1 (rgk 16 rfl) (rgk 0 rfl) (rgk (-1) rfl) (rgk 0 rfl) (rA_hack (by omega)) (Nat.le_of_ble_eq_true rfl) ⟨(Nat.le_of_ble_eq_true rfl), (Nat.le_of_ble_eq_true rfl)⟩ dL_refuses_717 (fun H locs hI _ => ?_)
  refine fl_ldc (n := (-7000001)) C.1 aw_801 rfl dL_refuses_720 ?_
  refine fl_icmp_ne (tgt := 729) C.1 (rgk (-7000001) rfl) (rgk (-7000001) rfl) dL_refuses_722 (by decide) (fun h => absurd rfl h) (fun _ => ?_)
  refine fl_iconst C.1 dL_refuses_725 ?_
  refine fl_goto (tgt := 730) C.1 dL_refuses_726 (by decide) ?_
  refine lv_istore (lv' := [(13, iv 1), (12, iv 0), (11, iv (-1)), (10, iv (-1)), (9, iv (-1)), (8, iv (-1)), (7, iv (-1)), (6, iv 0), (5, iv ((callRun S 500 1).2.1)), (4, iv ((boardS S 3 1 0).2.1)), (3, iv 2147483647), (0, .ref x), (1, iv pp), (2, iv qq)]) C.1.1 C.1.2.1 dL_refuses_730 hl (by decide) rfl (fun ls hl => ?_)
  refine lv_iload C.1.1 C.1.2.1 dL_refuses_732 (lv_at hl 0 rfl) ?_
  refine fl_if_eq (tgt := 825) C.1 (rgk 1 rfl) dL_refuses_734 (by decide) (fun h => absurd h (by decide)) (fun _ => ?_)
  exact W.widen (Nat.le_of_ble_eq_true rfl) (Nat.le_of_ble_eq_true rfl) (kk H locs ls hI hl)
set_option maxRecDepth 100000 in
set_option maxHeartbeats 4000000 in
theorem w_ref_0_2 (hst : l.stackTraces = false) (C : LC p s m meth c D cy B cL_refuses 14) (rp : rg pp) (rq : rg qq) (hp : pp = (S.np : Int)) (hq : qq = (S.ne : Int)) (rbv : rg (boardS S 3 1 0).2.1) (rsv : rg (callRun S 500 1).2.1) (kk : ∀ (H : Heap) (locs : List Loc) (ls : Array Slot), HI D cy B s.heap H locs x S → lv_has ls 14 [(13, iv 1), (12, iv 0), (11, iv (-1)), (10, iv (-1)), (9, iv (-1)), (8, iv (-1)), (7, iv (-1)), (6, iv 0), (5, iv ((callRun S 500 1).2.1)), (4, iv ((boardS S 3 1 0).2.1)), (3, iv 2147483647), (0, .ref x), (1, iv pp), (2, iv qq)] → W p l e rm_L_refuses s m args below meth c H locs 274 61854 Q (F0 m 791 ls [])) : ∀ (H : Heap) (locs : List Loc) (ls : Array Slot), HI D cy B s.heap H locs x S → lv_has ls 14 [(13, iv 1), (12, iv 0), (11, iv (-1)), (10, iv (-1)), (9, iv (-1)), (8, iv (-1)), (7, iv (-1)), (6, iv 0), (5, iv ((callRun S 500 1).2.1)), (4, iv ((boardS S 3 1 0).2.1)), (3, iv 2147483647), (0, .ref x), (1, iv pp), (2, iv qq)] → W p l e rm_L_refuses s m args below meth c H locs 256 57732 Q (F0 m 737 ls []) := by
  intro H locs ls hI hl
  have hok := hI.ok
  have hn6 := hok.2.2.1
  have hn60 := hok.2.2.2.2.1
  refine lv_iload_n C.1.1 C.1.2.1 dL_refuses_737 rfl (lv_at hl 12 rfl) ?_
  refine fl_if_eq (tgt := 791) C.1 rp dL_refuses_738 (by decide) (fun _ => W.widen (Nat.le_of_ble_eq_true rfl) (Nat.le_of_ble_eq_true rfl) (kk H locs ls hI (lv_sub hl [0, 1, 2, 3, 4, 5, 6, 7, 8, 9, 10, 11, 12, 13] rfl))) (fun hz => ?_)
  refine lv_aload_n C.1.1 C.1.2.1 dL_refuses_741 rfl (lv_at hl 11 rfl) ?_
  refine fl_iconst C.1 dL_refuses_742 ?_
  refine fl_iconst C.1 dL_refuses_743 ?_
  refine fl_iconst C.1 dL_refuses_744 ?_
  refine lv_iload C.1.1 C.1.2.1 dL_refuses_745 (lv_at hl 7 rfl) ?_
  refine fl_iconst C.1 dL_refuses_747 ?_
  refine fl_icmp_ne (tgt := 756) C.1 (rgk 0 rfl) (rgk 1 rfl) dL_refuses_748 (by decide) (fun _ => ?_) (fun h => absurd h (by decide))
  refine lv_iload C.1.1 C.1.2.1 dL_refuses_756 (lv_at hl 6 rfl) ?_
  refine k_act hst C ⟨(Nat.le_of_ble_eq_true rfl), (Nat.le_of_ble_eq_true rfl)⟩ hI hl.1 (rgk 5 rfl) (rgk 0 rfl) (rgk 0 rfl) (rgk (-1) rfl) (rA_points2 (by omega)) (Nat.le_of_ble_eq_true rfl) ⟨(Nat.le_of_ble_eq_true rfl), (Nat.le_of_ble_eq_true rfl)⟩ dL_refuses_758 (fun H locs hI _ => ?_)
  refine fl_ldc (n := (-7000002)) C.1 aw_802 rfl dL_refuses_761 ?_
  refine fl_icmp_ne (tgt := 825) C.1 (rgk (-7000002) rfl) (rgk (-7000002) rfl) dL_refuses_763 (by decide) (fun h => absurd rfl h) (fun _ => ?_)
  refine lv_aload_n C.1.1 C.1.2.1 dL_refuses_766 rfl (lv_at hl 11 rfl) ?_
  refine fl_bipush C.1 dL_refuses_767 (by decide) ?_
  refine fl_iconst C.1 dL_refuses_769 ?_
  refine lv_iload C.1.1 C.1.2.1 dL_refuses_770 (lv_at hl 7 rfl) ?_
  refine fl_iconst C.1 dL_refuses_772 ?_
  refine fl_icmp_ne (tgt := 780) C.1 (rgk 0 rfl) (rgk 1 rfl) dL_refuses_773 (by decide) (fun _ => ?_) (fun h => absurd h (by decide))
  refine lv_iload C.1.1 C.1.2.1 dL_refuses_780 (lv_at hl 6 rfl) ?_
  refine fl_iconst C.1 dL_refuses_782 ?_
  refine k_act hst C ⟨(Nat.le_of_ble_eq_true rfl), (Nat.le_of_ble_eq_true rfl)⟩ hI hl.1 (rgk 6 rfl) (rgk 0 rfl) (rgk (-1) rfl) (rgk 0 rfl) (rA_mend2 (by omega)) (Nat.le_of_ble_eq_true rfl) ⟨(Nat.le_of_ble_eq_true rfl), (Nat.le_of_ble_eq_true rfl)⟩ dL_refuses_783 (fun H locs hI _ => ?_)
  refine fl_ldc (n := (-7000002)) C.1 aw_802 rfl dL_refuses_786 ?_
  refine fl_icmp_ne (tgt := 825) C.1 (rgk (-7000002) rfl) (rgk (-7000002) rfl) dL_refuses_788 (by decide) (fun h => absurd rfl h) (fun _ => ?_)
  exact W.widen (Nat.le_of_ble_eq_true rfl) (Nat.le_of_ble_eq_true rfl) (kk H locs ls hI hl)
set_option maxRecDepth 100000 in
set_option maxHeartbeats 4000000 in
theorem w_ref_0_3 (hst : l.stackTraces = false) (C : LC p s m meth c D cy B cL_refuses 14) (rp : rg pp) (rq : rg qq) (hp : pp = (S.np : Int)) (hq : qq = (S.ne : Int)) (rbv : rg (boardS S 3 1 0).2.1) (rsv : rg (callRun S 500 1).2.1) (kk : ∀ (H : Heap) (locs : List Loc) (ls : Array Slot), HI D cy B s.heap H locs x S → lv_has ls 14 [(13, iv 1), (12, iv 0), (11, iv (-1)), (10, iv (-1)), (9, iv (-1)), (8, iv (-1)), (7, iv (-1)), (6, iv 0), (5, iv ((callRun S 500 1).2.1)), (4, iv ((boardS S 3 1 0).2.1)), (3, iv 2147483647), (0, .ref x), (1, iv pp), (2, iv qq)] → W p l e rm_L_refuses s m args below meth c H locs 283 63915 Q (F0 m 821 ls [])) : ∀ (H : Heap) (locs : List Loc) (ls : Array Slot), HI D cy B s.heap H locs x S → lv_has ls 14 [(13, iv 1), (12, iv 0), (11, iv (-1)), (10, iv (-1)), (9, iv (-1)), (8, iv (-1)), (7, iv (-1)), (6, iv 0), (5, iv ((callRun S 500 1).2.1)), (4, iv ((boardS S 3 1 0).2.1)), (3, iv 2147483647), (0, .ref x), (1, iv pp), (2, iv qq)] → W p l e rm_L_refuses s m args below meth c H locs 274 61854 Q (F0 m 791 ls []) := by
  intro H locs ls hI hl
  have hok := hI.ok
  have hn6 := hok.2.2.1
  have hn60 := hok.2.2.2.2.1
  refine lv_iload_n C.1.1 C.1.2.1 dL_refuses_791 rfl (lv_at hl 13 rfl) ?_
  refine fl_if_eq (tgt := 821) C.1 rq dL_refuses_792 (by decide) (fun _ => W.widen (Nat.le_of_ble_eq_true rfl) (Nat.le_of_ble_eq_true rfl) (kk H locs ls hI (lv_sub hl [0, 1, 2, 3, 4, 5, 6, 7, 8, 9, 10, 11, 12, 13] rfl))) (fun hz => ?_)
  refine lv_aload_n C.1.1 C.1.2.1 dL_refuses_795 rfl (lv_at hl 11 rfl) ?_
  refine fl_bipush C.1 dL_refuses_796 (by decide) ?_
  refine fl_iconst C.1 dL_refuses_798 ?_
  refine lv_iload C.1.1 C.1.2.1 dL_refuses_799 (lv_at hl 7 rfl) ?_
  refine fl_iconst C.1 dL_refuses_801 ?_
  refine fl_icmp_ne (tgt := 810) C.1 (rgk 0 rfl) (rgk 1 rfl) dL_refuses_802 (by decide) (fun _ => ?_) (fun h => absurd h (by decide))
  refine lv_iload C.1.1 C.1.2.1 dL_refuses_810 (lv_at hl 6 rfl) ?_
  refine fl_iconst C.1 dL_refuses_812 ?_
  refine k_act hst C ⟨(Nat.le_of_ble_eq_true rfl), (Nat.le_of_ble_eq_true rfl)⟩ hI hl.1 (rgk 11 rfl) (rgk 0 rfl) (rgk (-1) rfl) (rgk 0 rfl) (rA_entry2 (by omega)) (Nat.le_of_ble_eq_true rfl) ⟨(Nat.le_of_ble_eq_true rfl), (Nat.le_of_ble_eq_true rfl)⟩ dL_refuses_813 (fun H locs hI _ => ?_)
  refine fl_ldc (n := (-7000002)) C.1 aw_802 rfl dL_refuses_816 ?_
  refine fl_icmp_ne (tgt := 825) C.1 (rgk (-7000002) rfl) (rgk (-7000002) rfl) dL_refuses_818 (by decide) (fun h => absurd rfl h) (fun _ => ?_)
  exact W.widen (Nat.le_of_ble_eq_true rfl) (Nat.le_of_ble_eq_true rfl) (kk H locs ls hI hl)
set_option maxRecDepth 100000 in
set_option maxHeartbeats 4000000 in
theorem w_ref_0_4 (hst : l.stackTraces = false) (C : LC p s m meth c D cy B cL_refuses 14) (rp : rg pp) (rq : rg qq) (hp : pp = (S.np : Int)) (hq : qq = (S.ne : Int)) (rbv : rg (boardS S 3 1 0).2.1) (rsv : rg (callRun S 500 1).2.1) (kk : ∀ (H : Heap) (locs : List Loc) (ls : Array Slot), HI D cy B s.heap H locs x S → lv_has ls 14 [(6, iv 1), (13, iv 1), (12, iv 0), (11, iv (-1)), (10, iv (-1)), (9, iv (-1)), (8, iv (-1)), (7, iv (-1)), (5, iv ((callRun S 500 1).2.1)), (4, iv ((boardS S 3 1 0).2.1)), (3, iv 2147483647), (0, .ref x), (1, iv pp), (2, iv qq)] → W p l e rm_L_refuses s m args below meth c H locs 283 63915 Q (F0 m 25 ls [])) : ∀ (H : Heap) (locs : List Loc) (ls : Array Slot), HI D cy B s.heap H locs x S → lv_has ls 14 [(13, iv 1), (12, iv 0), (11, iv (-1)), (10, iv (-1)), (9, iv (-1)), (8, iv (-1)), (7, iv (-1)), (6, iv 0), (5, iv ((callRun S 500 1).2.1)), (4, iv ((boardS S 3 1 0).2.1)), (3, iv 2147483647), (0, .ref x), (1, iv pp), (2, iv qq)] → W p l e rm_L_refuses s m args below meth c H locs 283 63915 Q (F0 m 821 ls []) := by
  intro H locs ls hI hl
  have hok := hI.ok
  have hn6 := hok.2.2.1
  have hn60 := hok.2.2.2.2.1
  refine fl_iconst C.1 dL_refuses_821 ?_
  refine fl_goto (tgt := 826) C.1 dL_refuses_822 (by decide) ?_
  refine lv_istore (lv' := [(13, iv 1), (12, iv 0), (11, iv (-1)), (10, iv (-1)), (9, iv (-1)), (8, iv (-1)), (7, iv (-1)), (6, iv 0), (5, iv ((callRun S 500 1).2.1)), (4, iv ((boardS S 3 1 0).2.1)), (3, iv 2147483647), (0, .ref x), (1, iv pp), (2, iv qq)]) C.1.1 C.1.2.1 dL_refuses_826 hl (by decide) rfl (fun ls hl => ?_)
  refine lv_iload C.1.1 C.1.2.1 dL_refuses_828 (lv_at hl 0 rfl) ?_
  refine fl_if_ne (tgt := 835) C.1 (rgk 1 rfl) dL_refuses_830 (by decide) (fun _ => ?_) (fun h => absurd h (by decide))
  refine fl_iinc (k := 7) (lv' := [(6, iv (wr (0 + 1))), (13, iv 1), (12, iv 0), (11, iv (-1)), (10, iv (-1)), (9, iv (-1)), (8, iv (-1)), (7, iv (-1)), (5, iv ((callRun S 500 1).2.1)), (4, iv ((boardS S 3 1 0).2.1)), (3, iv 2147483647), (0, .ref x), (1, iv pp), (2, iv qq)]) C.1 dL_refuses_835 hl rfl (by decide) rfl (fun ls hl => ?_)
  rw [show wr (0 + 1) = (1 : Int) from by decide +kernel] at hl
  refine fl_goto (tgt := 25) C.1 dL_refuses_838 (by decide) ?_
  exact W.widen (Nat.le_of_ble_eq_true rfl) (Nat.le_of_ble_eq_true rfl) (kk H locs ls hI hl)
set_option maxRecDepth 100000 in
set_option maxHeartbeats 4000000 in
theorem w_ref_1_0 (hst : l.stackTraces = false) (C : LC p s m meth c D cy B cL_refuses 14) (rp : rg pp) (rq : rg qq) (hp : pp = (S.np : Int)) (hq : qq = (S.ne : Int)) (rbv : rg (boardS S 3 1 0).2.1) (rsv : rg (callRun S 500 1).2.1) (kk : ∀ (H : Heap) (locs : List Loc) (ls : Array Slot), HI D cy B s.heap H locs x S → lv_has ls 14 [(13, iv 1), (12, iv 501), (11, iv 4), (10, iv 8), (9, iv qq), (8, iv pp), (7, iv (-2147483648)), (6, iv 1), (5, iv ((callRun S 500 1).2.1)), (4, iv ((boardS S 3 1 0).2.1)), (3, iv 2147483647), (0, .ref x), (1, iv pp), (2, iv qq)] → W p l e rm_L_refuses s m args below meth c H locs 445 101013 Q (F0 m 536 ls [])) : ∀ (H : Heap) (locs : List Loc) (ls : Array Slot), HI D cy B s.heap H locs x S → lv_has ls 14 [(6, iv 1), (13, iv 1), (12, iv 0), (11, iv (-1)), (10, iv (-1)), (9, iv (-1)), (8, iv (-1)), (7, iv (-1)), (5, iv ((callRun S 500 1).2.1)), (4, iv ((boardS S 3 1 0).2.1)), (3, iv 2147483647), (0, .ref x), (1, iv pp), (2, iv qq)] → W p l e rm_L_refuses s m args below meth c H locs 283 63915 Q (F0 m 25 ls []) := by
  intro H locs ls hI hl
  have hok := hI.ok
  have hn6 := hok.2.2.1
  have hn60 := hok.2.2.2.2.1
  refine lv_iload C.1.1 C.1.2.1 dL_refuses_25 (lv_at hl 0 rfl) ?_
  refine fl_iconst C.1 dL_refuses_27 ?_
  refine fl_icmp_ge (tgt := 841) C.1 (rgk 1 rfl) (rgk 4 rfl) dL_refuses_28 (by decide) (fun h => absurd h (by decide)) (fun _ => ?_)
  refine lv_iload C.1.1 C.1.2.1 dL_refuses_31 (lv_at hl 0 rfl) ?_
  refine fl_if_ne (tgt := 40) C.1 (rgk 1 rfl) dL_refuses_33 (by decide) (fun _ => ?_) (fun h => absurd h (by decide))
  refine lv_iload C.1.1 C.1.2.1 dL_refuses_40 (lv_at hl 0 rfl) ?_
  refine fl_iconst C.1 dL_refuses_42 ?_
  refine fl_icmp_ne (tgt := 50) C.1 (rgk 1 rfl) (rgk 2 rfl) dL_refuses_43 (by decide) (fun _ => ?_) (fun h => absurd h (by decide))
  refine lv_iload_n C.1.1 C.1.2.1 dL_refuses_50 rfl (lv_at hl 10 rfl) ?_
  refine h_ineg (z := (-2147483647)) C.1 (by decide +kernel) dL_refuses_51 ?_
  refine fl_iconst C.1 dL_refuses_52 ?_
  refine h_isub (z := (-2147483648)) C.1 (by decide +kernel) dL_refuses_53 ?_
  refine lv_istore (lv' := [(7, iv (-2147483648)), (6, iv 1), (13, iv 1), (12, iv 0), (11, iv (-1)), (10, iv (-1)), (9, iv (-1)), (8, iv (-1)), (5, iv ((callRun S 500 1).2.1)), (4, iv ((boardS S 3 1 0).2.1)), (3, iv 2147483647), (0, .ref x), (1, iv pp), (2, iv qq)]) C.1.1 C.1.2.1 dL_refuses_54 hl (by decide) rfl (fun ls hl => ?_)
  refine lv_iload C.1.1 C.1.2.1 dL_refuses_56 (lv_at hl 1 rfl) ?_
  refine fl_iconst C.1 dL_refuses_58 ?_
  refine fl_icmp_ne (tgt := 66) C.1 (rgk 1 rfl) (rgk 1 rfl) dL_refuses_59 (by decide) (fun h => absurd rfl h) (fun _ => ?_)
  refine lv_iload_n C.1.1 C.1.2.1 dL_refuses_62 rfl (lv_at hl 12 rfl) ?_
  refine fl_goto (tgt := 68) C.1 dL_refuses_63 (by decide) ?_
  refine lv_istore (lv' := [(8, iv pp), (7, iv (-2147483648)), (6, iv 1), (13, iv 1), (12, iv 0), (11, iv (-1)), (10, iv (-1)), (9, iv (-1)), (5, iv ((callRun S 500 1).2.1)), (4, iv ((boardS S 3 1 0).2.1)), (3, iv 2147483647), (0, .ref x), (1, iv pp), (2, iv qq)]) C.1.1 C.1.2.1 dL_refuses_68 hl (by decide) rfl (fun ls hl => ?_)
  refine lv_iload C.1.1 C.1.2.1 dL_refuses_70 (lv_at hl 2 rfl) ?_
  refine fl_iconst C.1 dL_refuses_72 ?_
  refine fl_icmp_ne (tgt := 80) C.1 (rgk 1 rfl) (rgk 1 rfl) dL_refuses_73 (by decide) (fun h => absurd rfl h) (fun _ => ?_)
  refine lv_iload_n C.1.1 C.1.2.1 dL_refuses_76 rfl (lv_at hl 13 rfl) ?_
  refine fl_goto (tgt := 82) C.1 dL_refuses_77 (by decide) ?_
  refine lv_istore (lv' := [(9, iv qq), (8, iv pp), (7, iv (-2147483648)), (6, iv 1), (13, iv 1), (12, iv 0), (11, iv (-1)), (10, iv (-1)), (5, iv ((callRun S 500 1).2.1)), (4, iv ((boardS S 3 1 0).2.1)), (3, iv 2147483647), (0, .ref x), (1, iv pp), (2, iv qq)]) C.1.1 C.1.2.1 dL_refuses_82 hl (by decide) rfl (fun ls hl => ?_)
  refine lv_iload C.1.1 C.1.2.1 dL_refuses_84 (lv_at hl 3 rfl) ?_
  refine fl_iconst C.1 dL_refuses_86 ?_
  refine fl_icmp_ne (tgt := 95) C.1 (rgk 1 rfl) (rgk 1 rfl) dL_refuses_87 (by decide) (fun h => absurd rfl h) (fun _ => ?_)
  refine fl_bipush C.1 dL_refuses_90 (by decide) ?_
  refine fl_goto (tgt := 97) C.1 dL_refuses_92 (by decide) ?_
  refine lv_istore (lv' := [(10, iv 8), (9, iv qq), (8, iv pp), (7, iv (-2147483648)), (6, iv 1), (13, iv 1), (12, iv 0), (11, iv (-1)), (5, iv ((callRun S 500 1).2.1)), (4, iv ((boardS S 3 1 0).2.1)), (3, iv 2147483647), (0, .ref x), (1, iv pp), (2, iv qq)]) C.1.1 C.1.2.1 dL_refuses_97 hl (by decide) rfl (fun ls hl => ?_)
  refine lv_iload C.1.1 C.1.2.1 dL_refuses_99 (lv_at hl 4 rfl) ?_
  refine fl_iconst C.1 dL_refuses_101 ?_
  refine fl_icmp_ne (tgt := 109) C.1 (rgk 1 rfl) (rgk 1 rfl) dL_refuses_102 (by decide) (fun h => absurd rfl h) (fun _ => ?_)
  refine fl_iconst C.1 dL_refuses_105 ?_
  refine fl_goto (tgt := 111) C.1 dL_refuses_106 (by decide) ?_
  refine lv_istore (lv' := [(11, iv 4), (10, iv 8), (9, iv qq), (8, iv pp), (7, iv (-2147483648)), (6, iv 1), (13, iv 1), (12, iv 0), (5, iv ((callRun S 500 1).2.1)), (4, iv ((boardS S 3 1 0).2.1)), (3, iv 2147483647), (0, .ref x), (1, iv pp), (2, iv qq)]) C.1.1 C.1.2.1 dL_refuses_111 hl (by decide) rfl (fun ls hl => ?_)
  refine lv_iload C.1.1 C.1.2.1 dL_refuses_113 (lv_at hl 5 rfl) ?_
  refine fl_if_ne (tgt := 122) C.1 (rgk 1 rfl) dL_refuses_115 (by decide) (fun _ => ?_) (fun h => absurd h (by decide))
  refine lv_iload C.1.1 C.1.2.1 dL_refuses_122 (lv_at hl 5 rfl) ?_
  refine fl_iconst C.1 dL_refuses_124 ?_
  refine fl_icmp_ne (tgt := 134) C.1 (rgk 1 rfl) (rgk 1 rfl) dL_refuses_125 (by decide) (fun h => absurd rfl h) (fun _ => ?_)
  refine fl_sipush C.1 dL_refuses_128 (by decide) ?_
  refine fl_goto (tgt := 136) C.1 dL_refuses_131 (by decide) ?_
  refine lv_istore (lv' := [(12, iv 501), (11, iv 4), (10, iv 8), (9, iv qq), (8, iv pp), (7, iv (-2147483648)), (6, iv 1), (13, iv 1), (5, iv ((callRun S 500 1).2.1)), (4, iv ((boardS S 3 1 0).2.1)), (3, iv 2147483647), (0, .ref x), (1, iv pp), (2, iv qq)]) C.1.1 C.1.2.1 dL_refuses_136 hl (by decide) rfl (fun ls hl => ?_)
  refine lv_aload_n C.1.1 C.1.2.1 dL_refuses_138 rfl (lv_at hl 11 rfl) ?_
  refine fl_iconst C.1 dL_refuses_139 ?_
  refine lv_iload C.1.1 C.1.2.1 dL_refuses_140 (lv_at hl 6 rfl) ?_
  refine fl_iconst C.1 dL_refuses_142 ?_
  refine fl_icmp_ne (tgt := 151) C.1 (rgk 1 rfl) (rgk 1 rfl) dL_refuses_143 (by decide) (fun h => absurd rfl h) (fun _ => ?_)
  refine fl_bipush C.1 dL_refuses_146 (by decide) ?_
  refine fl_goto (tgt := 153) C.1 dL_refuses_148 (by decide) ?_
  refine fl_iconst C.1 dL_refuses_153 ?_
  refine fl_iconst C.1 dL_refuses_154 ?_
  refine k_act hst C ⟨(Nat.le_of_ble_eq_true rfl), (Nat.le_of_ble_eq_true rfl)⟩ hI hl.1 (rgk 0 rfl) (rgk 10 rfl) (rgk 0 rfl) (rgk 0 rfl) (rA_code (by omega)) (Nat.le_of_ble_eq_true rfl) ⟨(Nat.le_of_ble_eq_true rfl), (Nat.le_of_ble_eq_true rfl)⟩ dL_refuses_155 (fun H locs hI _ => ?_)
  refine fl_ldc (n := (-7000002)) C.1 aw_802 rfl dL_refuses_158 ?_
  refine fl_icmp_ne (tgt := 533) C.1 (rgk (-7000002) rfl) (rgk (-7000002) rfl) dL_refuses_160 (by decide) (fun h => absurd rfl h) (fun _ => ?_)
  refine lv_aload_n C.1.1 C.1.2.1 dL_refuses_163 rfl (lv_at hl 11 rfl) ?_
  refine fl_iconst C.1 dL_refuses_164 ?_
  refine fl_iconst C.1 dL_refuses_165 ?_
  refine lv_iload C.1.1 C.1.2.1 dL_refuses_166 (lv_at hl 6 rfl) ?_
  refine fl_if_ne (tgt := 176) C.1 (rgk 1 rfl) dL_refuses_168 (by decide) (fun _ => ?_) (fun h => absurd h (by decide))
  refine lv_iload C.1.1 C.1.2.1 dL_refuses_176 (lv_at hl 6 rfl) ?_
  refine fl_iconst C.1 dL_refuses_178 ?_
  refine fl_icmp_ne (tgt := 187) C.1 (rgk 1 rfl) (rgk 1 rfl) dL_refuses_179 (by decide) (fun h => absurd rfl h) (fun _ => ?_)
  refine fl_bipush C.1 dL_refuses_182 (by decide) ?_
  refine fl_goto (tgt := 189) C.1 dL_refuses_184 (by decide) ?_
  refine fl_iconst C.1 dL_refuses_189 ?_
  refine k_act hst C ⟨(Nat.le_of_ble_eq_true rfl), (Nat.le_of_ble_eq_true rfl)⟩ hI hl.1 (rgk 0 rfl) (rgk 0 rfl) (rgk 100 rfl) (rgk 0 rfl) (rA_code (by omega)) (Nat.le_of_ble_eq_true rfl) ⟨(Nat.le_of_ble_eq_true rfl), (Nat.le_of_ble_eq_true rfl)⟩ dL_refuses_190 (fun H locs hI _ => ?_)
  refine fl_ldc (n := (-7000002)) C.1 aw_802 rfl dL_refuses_193 ?_
  refine fl_icmp_ne (tgt := 533) C.1 (rgk (-7000002) rfl) (rgk (-7000002) rfl) dL_refuses_195 (by decide) (fun h => absurd rfl h) (fun _ => ?_)
  refine lv_aload_n C.1.1 C.1.2.1 dL_refuses_198 rfl (lv_at hl 11 rfl) ?_
  refine fl_iconst C.1 dL_refuses_199 ?_
  refine lv_iload C.1.1 C.1.2.1 dL_refuses_200 (lv_at hl 6 rfl) ?_
  refine fl_if_ne (tgt := 210) C.1 (rgk 1 rfl) dL_refuses_202 (by decide) (fun _ => ?_) (fun h => absurd h (by decide))
  refine lv_iload C.1.1 C.1.2.1 dL_refuses_210 (lv_at hl 6 rfl) ?_
  refine fl_iconst C.1 dL_refuses_212 ?_
  refine fl_icmp_ne (tgt := 221) C.1 (rgk 1 rfl) (rgk 1 rfl) dL_refuses_213 (by decide) (fun h => absurd rfl h) (fun _ => ?_)
  refine fl_bipush C.1 dL_refuses_216 (by decide) ?_
  refine fl_goto (tgt := 223) C.1 dL_refuses_218 (by decide) ?_
  refine fl_iconst C.1 dL_refuses_223 ?_
  refine fl_iconst C.1 dL_refuses_224 ?_
  refine k_act hst C ⟨(Nat.le_of_ble_eq_true rfl), (Nat.le_of_ble_eq_true rfl)⟩ hI hl.1 (rgk 1 rfl) (rgk 10 rfl) (rgk 0 rfl) (rgk 0 rfl) (rA_input (by omega)) (Nat.le_of_ble_eq_true rfl) ⟨(Nat.le_of_ble_eq_true rfl), (Nat.le_of_ble_eq_true rfl)⟩ dL_refuses_225 (fun H locs hI _ => ?_)
  refine fl_ldc (n := (-7000002)) C.1 aw_802 rfl dL_refuses_228 ?_
  refine fl_icmp_ne (tgt := 533) C.1 (rgk (-7000002) rfl) (rgk (-7000002) rfl) dL_refuses_230 (by decide) (fun h => absurd rfl h) (fun _ => ?_)
  refine lv_aload_n C.1.1 C.1.2.1 dL_refuses_233 rfl (lv_at hl 11 rfl) ?_
  refine fl_iconst C.1 dL_refuses_234 ?_
  refine lv_iload C.1.1 C.1.2.1 dL_refuses_235 (lv_at hl 0 rfl) ?_
  refine fl_iconst C.1 dL_refuses_237 ?_
  refine fl_iconst C.1 dL_refuses_238 ?_
  refine k_act hst C ⟨(Nat.le_of_ble_eq_true rfl), (Nat.le_of_ble_eq_true rfl)⟩ hI hl.1 (rgk 2 rfl) (rgk 501 rfl) (rgk 0 rfl) (rgk 0 rfl) (rA_run (by omega)) (Nat.le_of_ble_eq_true rfl) ⟨(Nat.le_of_ble_eq_true rfl), (Nat.le_of_ble_eq_true rfl)⟩ dL_refuses_239 (fun H locs hI _ => ?_)
  refine fl_ldc (n := (-7000002)) C.1 aw_802 rfl dL_refuses_242 ?_
  refine fl_icmp_ne (tgt := 533) C.1 (rgk (-7000002) rfl) (rgk (-7000002) rfl) dL_refuses_244 (by decide) (fun h => absurd rfl h) (fun _ => ?_)
  refine lv_aload_n C.1.1 C.1.2.1 dL_refuses_247 rfl (lv_at hl 11 rfl) ?_
  refine fl_iconst C.1 dL_refuses_248 ?_
  refine fl_iconst C.1 dL_refuses_249 ?_
  refine lv_iload C.1.1 C.1.2.1 dL_refuses_250 (lv_at hl 6 rfl) ?_
  refine fl_iconst C.1 dL_refuses_252 ?_
  refine fl_icmp_ne (tgt := 261) C.1 (rgk 1 rfl) (rgk 1 rfl) dL_refuses_253 (by decide) (fun h => absurd rfl h) (fun _ => ?_)
  refine fl_bipush C.1 dL_refuses_256 (by decide) ?_
  refine fl_goto (tgt := 263) C.1 dL_refuses_258 (by decide) ?_
  refine fl_iconst C.1 dL_refuses_263 ?_
  refine k_act hst C ⟨(Nat.le_of_ble_eq_true rfl), (Nat.le_of_ble_eq_true rfl)⟩ hI hl.1 (rgk 2 rfl) (rgk 1 rfl) (rgk 11 rfl) (rgk 0 rfl) (rA_run (by omega)) (Nat.le_of_ble_eq_true rfl) ⟨(Nat.le_of_ble_eq_true rfl), (Nat.le_of_ble_eq_true rfl)⟩ dL_refuses_264 (fun H locs hI _ => ?_)
  refine fl_ldc (n := (-7000002)) C.1 aw_802 rfl dL_refuses_267 ?_
  refine fl_icmp_ne (tgt := 533) C.1 (rgk (-7000002) rfl) (rgk (-7000002) rfl) dL_refuses_269 (by decide) (fun h => absurd rfl h) (fun _ => ?_)
  refine lv_aload_n C.1.1 C.1.2.1 dL_refuses_272 rfl (lv_at hl 11 rfl) ?_
  refine fl_iconst C.1 dL_refuses_273 ?_
  refine lv_iload C.1.1 C.1.2.1 dL_refuses_274 (lv_at hl 0 rfl) ?_
  refine fl_iconst C.1 dL_refuses_276 ?_
  refine fl_iconst C.1 dL_refuses_277 ?_
  refine k_act hst C ⟨(Nat.le_of_ble_eq_true rfl), (Nat.le_of_ble_eq_true rfl)⟩ hI hl.1 (rgk 3 rfl) (rgk 501 rfl) (rgk 0 rfl) (rgk 0 rfl) (rA_problem (by omega)) (Nat.le_of_ble_eq_true rfl) ⟨(Nat.le_of_ble_eq_true rfl), (Nat.le_of_ble_eq_true rfl)⟩ dL_refuses_278 (fun H locs hI _ => ?_)
  refine fl_ldc (n := (-7000002)) C.1 aw_802 rfl dL_refuses_281 ?_
  refine fl_icmp_ne (tgt := 533) C.1 (rgk (-7000002) rfl) (rgk (-7000002) rfl) dL_refuses_283 (by decide) (fun h => absurd rfl h) (fun _ => ?_)
  refine lv_aload_n C.1.1 C.1.2.1 dL_refuses_286 rfl (lv_at hl 11 rfl) ?_
  refine fl_iconst C.1 dL_refuses_287 ?_
  refine fl_iconst C.1 dL_refuses_288 ?_
  refine lv_iload C.1.1 C.1.2.1 dL_refuses_289 (lv_at hl 6 rfl) ?_
  refine fl_iconst C.1 dL_refuses_291 ?_
  refine fl_icmp_ne (tgt := 299) C.1 (rgk 1 rfl) (rgk 1 rfl) dL_refuses_292 (by decide) (fun h => absurd rfl h) (fun _ => ?_)
  refine fl_iconst C.1 dL_refuses_295 ?_
  refine fl_goto (tgt := 301) C.1 dL_refuses_296 (by decide) ?_
  refine fl_iconst C.1 dL_refuses_301 ?_
  refine k_act hst C ⟨(Nat.le_of_ble_eq_true rfl), (Nat.le_of_ble_eq_true rfl)⟩ hI hl.1 (rgk 3 rfl) (rgk 1 rfl) (rgk 2 rfl) (rgk 0 rfl) (rA_problem (by omega)) (Nat.le_of_ble_eq_true rfl) ⟨(Nat.le_of_ble_eq_true rfl), (Nat.le_of_ble_eq_true rfl)⟩ dL_refuses_302 (fun H locs hI _ => ?_)
  refine fl_ldc (n := (-7000002)) C.1 aw_802 rfl dL_refuses_305 ?_
  refine fl_icmp_ne (tgt := 533) C.1 (rgk (-7000002) rfl) (rgk (-7000002) rfl) dL_refuses_307 (by decide) (fun h => absurd rfl h) (fun _ => ?_)
  refine lv_aload_n C.1.1 C.1.2.1 dL_refuses_310 rfl (lv_at hl 11 rfl) ?_
  refine fl_iconst C.1 dL_refuses_311 ?_
  refine lv_iload C.1.1 C.1.2.1 dL_refuses_312 (lv_at hl 4 rfl) ?_
  refine fl_iconst C.1 dL_refuses_314 ?_
  refine fl_iconst C.1 dL_refuses_315 ?_
  refine k_act hst C ⟨(Nat.le_of_ble_eq_true rfl), (Nat.le_of_ble_eq_true rfl)⟩ hI hl.1 (rgk 4 rfl) rp (rgk 0 rfl) (rgk 0 rfl) (rA_test (by omega)) (Nat.le_of_ble_eq_true rfl) ⟨(Nat.le_of_ble_eq_true rfl), (Nat.le_of_ble_eq_true rfl)⟩ dL_refuses_316 (fun H locs hI _ => ?_)
  refine fl_ldc (n := (-7000001)) C.1 aw_801 rfl dL_refuses_319 ?_
  refine fl_icmp_ne (tgt := 533) C.1 (rgk (-7000001) rfl) (rgk (-7000001) rfl) dL_refuses_321 (by decide) (fun h => absurd rfl h) (fun _ => ?_)
  refine lv_aload_n C.1.1 C.1.2.1 dL_refuses_324 rfl (lv_at hl 11 rfl) ?_
  refine fl_iconst C.1 dL_refuses_325 ?_
  refine fl_iconst C.1 dL_refuses_326 ?_
  refine lv_iload C.1.1 C.1.2.1 dL_refuses_327 (lv_at hl 1 rfl) ?_
  refine fl_iconst C.1 dL_refuses_329 ?_
  refine k_act hst C ⟨(Nat.le_of_ble_eq_true rfl), (Nat.le_of_ble_eq_true rfl)⟩ hI hl.1 (rgk 4 rfl) (rgk 0 rfl) (rgk 4 rfl) (rgk 0 rfl) (rA_test (by omega)) (Nat.le_of_ble_eq_true rfl) ⟨(Nat.le_of_ble_eq_true rfl), (Nat.le_of_ble_eq_true rfl)⟩ dL_refuses_330 (fun H locs hI _ => ?_)
  refine fl_ldc (n := (-7000001)) C.1 aw_801 rfl dL_refuses_333 ?_
  refine fl_icmp_ne (tgt := 533) C.1 (rgk (-7000001) rfl) (rgk (-7000001) rfl) dL_refuses_335 (by decide) (fun h => absurd rfl h) (fun _ => ?_)
  refine lv_aload_n C.1.1 C.1.2.1 dL_refuses_338 rfl (lv_at hl 11 rfl) ?_
  refine fl_iconst C.1 dL_refuses_339 ?_
  refine lv_iload C.1.1 C.1.2.1 dL_refuses_340 (lv_at hl 4 rfl) ?_
  refine fl_iconst C.1 dL_refuses_342 ?_
  refine fl_sipush C.1 dL_refuses_343 (by decide) ?_
  refine k_act hst C ⟨(Nat.le_of_ble_eq_true rfl), (Nat.le_of_ble_eq_true rfl)⟩ hI hl.1 (rgk 5 rfl) rp (rgk 0 rfl) (rgk 999 rfl) (rA_points (by omega)) (Nat.le_of_ble_eq_true rfl) ⟨(Nat.le_of_ble_eq_true rfl), (Nat.le_of_ble_eq_true rfl)⟩ dL_refuses_346 (fun H locs hI _ => ?_)
  refine fl_ldc (n := (-7000001)) C.1 aw_801 rfl dL_refuses_349 ?_
  refine fl_icmp_ne (tgt := 533) C.1 (rgk (-7000001) rfl) (rgk (-7000001) rfl) dL_refuses_351 (by decide) (fun h => absurd rfl h) (fun _ => ?_)
  refine lv_aload_n C.1.1 C.1.2.1 dL_refuses_354 rfl (lv_at hl 11 rfl) ?_
  refine fl_iconst C.1 dL_refuses_355 ?_
  refine fl_iconst C.1 dL_refuses_356 ?_
  refine lv_iload C.1.1 C.1.2.1 dL_refuses_357 (lv_at hl 1 rfl) ?_
  refine fl_sipush C.1 dL_refuses_359 (by decide) ?_
  refine k_act hst C ⟨(Nat.le_of_ble_eq_true rfl), (Nat.le_of_ble_eq_true rfl)⟩ hI hl.1 (rgk 5 rfl) (rgk 0 rfl) (rgk 4 rfl) (rgk 999 rfl) (rA_points (by omega)) (Nat.le_of_ble_eq_true rfl) ⟨(Nat.le_of_ble_eq_true rfl), (Nat.le_of_ble_eq_true rfl)⟩ dL_refuses_362 (fun H locs hI _ => ?_)
  refine fl_ldc (n := (-7000001)) C.1 aw_801 rfl dL_refuses_365 ?_
  refine fl_icmp_ne (tgt := 533) C.1 (rgk (-7000001) rfl) (rgk (-7000001) rfl) dL_refuses_367 (by decide) (fun h => absurd rfl h) (fun _ => ?_)
  refine lv_aload_n C.1.1 C.1.2.1 dL_refuses_370 rfl (lv_at hl 11 rfl) ?_
  refine fl_bipush C.1 dL_refuses_371 (by decide) ?_
  refine lv_iload C.1.1 C.1.2.1 dL_refuses_373 (lv_at hl 4 rfl) ?_
  refine fl_bipush C.1 dL_refuses_375 (by decide) ?_
  refine fl_iconst C.1 dL_refuses_377 ?_
  refine k_act hst C ⟨(Nat.le_of_ble_eq_true rfl), (Nat.le_of_ble_eq_true rfl)⟩ hI hl.1 (rgk 6 rfl) rp (rgk 9 rfl) (rgk 0 rfl) (rA_mend (by omega)) (Nat.le_of_ble_eq_true rfl) ⟨(Nat.le_of_ble_eq_true rfl), (Nat.le_of_ble_eq_true rfl)⟩ dL_refuses_378 (fun H locs hI _ => ?_)
  refine fl_ldc (n := (-7000001)) C.1 aw_801 rfl dL_refuses_381 ?_
  refine fl_icmp_ne (tgt := 533) C.1 (rgk (-7000001) rfl) (rgk (-7000001) rfl) dL_refuses_383 (by decide) (fun h => absurd rfl h) (fun _ => ?_)
  refine lv_aload_n C.1.1 C.1.2.1 dL_refuses_386 rfl (lv_at hl 11 rfl) ?_
  refine fl_bipush C.1 dL_refuses_387 (by decide) ?_
  refine lv_iload C.1.1 C.1.2.1 dL_refuses_389 (lv_at hl 4 rfl) ?_
  refine fl_iconst C.1 dL_refuses_391 ?_
  refine fl_iconst C.1 dL_refuses_392 ?_
  refine k_act hst C ⟨(Nat.le_of_ble_eq_true rfl), (Nat.le_of_ble_eq_true rfl)⟩ hI hl.1 (rgk 7 rfl) rp (rgk 0 rfl) (rgk 0 rfl) (rA_answer hok (by omega)) (Nat.le_of_ble_eq_true rfl) ⟨(Nat.le_of_ble_eq_true rfl), (Nat.le_of_ble_eq_true rfl)⟩ dL_refuses_393 (fun H locs hI _ => ?_)
  refine fl_ldc (n := (-7000001)) C.1 aw_801 rfl dL_refuses_396 ?_
  refine fl_icmp_ne (tgt := 533) C.1 (rgk (-7000001) rfl) (rgk (-7000001) rfl) dL_refuses_398 (by decide) (fun h => absurd rfl h) (fun _ => ?_)
  refine lv_aload_n C.1.1 C.1.2.1 dL_refuses_401 rfl (lv_at hl 11 rfl) ?_
  refine fl_bipush C.1 dL_refuses_402 (by decide) ?_
  refine fl_iconst C.1 dL_refuses_404 ?_
  refine lv_iload C.1.1 C.1.2.1 dL_refuses_405 (lv_at hl 6 rfl) ?_
  refine fl_iconst C.1 dL_refuses_407 ?_
  refine fl_icmp_ne (tgt := 416) C.1 (rgk 1 rfl) (rgk 1 rfl) dL_refuses_408 (by decide) (fun h => absurd rfl h) (fun _ => ?_)
  refine fl_bipush C.1 dL_refuses_411 (by decide) ?_
  refine fl_goto (tgt := 418) C.1 dL_refuses_413 (by decide) ?_
  refine fl_iconst C.1 dL_refuses_418 ?_
  refine k_act hst C ⟨(Nat.le_of_ble_eq_true rfl), (Nat.le_of_ble_eq_true rfl)⟩ hI hl.1 (rgk 7 rfl) (rgk 0 rfl) (rgk 12 rfl) (rgk 0 rfl) (rA_answer hok (by omega)) (Nat.le_of_ble_eq_true rfl) ⟨(Nat.le_of_ble_eq_true rfl), (Nat.le_of_ble_eq_true rfl)⟩ dL_refuses_419 (fun H locs hI _ => ?_)
  refine fl_ldc (n := (-7000001)) C.1 aw_801 rfl dL_refuses_422 ?_
  refine fl_icmp_ne (tgt := 533) C.1 (rgk (-7000001) rfl) (rgk (-7000001) rfl) dL_refuses_424 (by decide) (fun h => absurd rfl h) (fun _ => ?_)
  refine lv_aload_n C.1.1 C.1.2.1 dL_refuses_427 rfl (lv_at hl 11 rfl) ?_
  refine fl_bipush C.1 dL_refuses_428 (by decide) ?_
  refine fl_iconst C.1 dL_refuses_430 ?_
  refine fl_iconst C.1 dL_refuses_431 ?_
  refine lv_iload C.1.1 C.1.2.1 dL_refuses_432 (lv_at hl 6 rfl) ?_
  refine fl_iconst C.1 dL_refuses_434 ?_
  refine fl_icmp_ne (tgt := 443) C.1 (rgk 1 rfl) (rgk 1 rfl) dL_refuses_435 (by decide) (fun h => absurd rfl h) (fun _ => ?_)
  refine fl_bipush C.1 dL_refuses_438 (by decide) ?_
  refine fl_goto (tgt := 455) C.1 dL_refuses_440 (by decide) ?_
  refine k_act hst C ⟨(Nat.le_of_ble_eq_true rfl), (Nat.le_of_ble_eq_true rfl)⟩ hI hl.1 (rgk 7 rfl) (rgk 0 rfl) (rgk 0 rfl) (rgk (-2) rfl) (rA_answer hok (by omega)) (Nat.le_of_ble_eq_true rfl) ⟨(Nat.le_of_ble_eq_true rfl), (Nat.le_of_ble_eq_true rfl)⟩ dL_refuses_455 (fun H locs hI _ => ?_)
  refine fl_ldc (n := (-7000001)) C.1 aw_801 rfl dL_refuses_458 ?_
  refine fl_icmp_ne (tgt := 533) C.1 (rgk (-7000001) rfl) (rgk (-7000001) rfl) dL_refuses_460 (by decide) (fun h => absurd rfl h) (fun _ => ?_)
  refine lv_aload_n C.1.1 C.1.2.1 dL_refuses_463 rfl (lv_at hl 11 rfl) ?_
  refine fl_bipush C.1 dL_refuses_464 (by decide) ?_
  refine lv_iload C.1.1 C.1.2.1 dL_refuses_466 (lv_at hl 2 rfl) ?_
  refine fl_iconst C.1 dL_refuses_468 ?_
  refine fl_iconst C.1 dL_refuses_469 ?_
  refine k_act hst C ⟨(Nat.le_of_ble_eq_true rfl), (Nat.le_of_ble_eq_true rfl)⟩ hI hl.1 (rgk 8 rfl) (rgk 8 rfl) (rgk 0 rfl) (rgk 0 rfl) (rA_enter (by omega)) (Nat.le_of_ble_eq_true rfl) ⟨(Nat.le_of_ble_eq_true rfl), (Nat.le_of_ble_eq_true rfl)⟩ dL_refuses_470 (fun H locs hI _ => ?_)
  refine fl_ldc (n := (-7000001)) C.1 aw_801 rfl dL_refuses_473 ?_
  refine fl_icmp_ne (tgt := 533) C.1 (rgk (-7000001) rfl) (rgk (-7000001) rfl) dL_refuses_475 (by decide) (fun h => absurd rfl h) (fun _ => ?_)
  refine lv_aload_n C.1.1 C.1.2.1 dL_refuses_478 rfl (lv_at hl 11 rfl) ?_
  refine fl_bipush C.1 dL_refuses_479 (by decide) ?_
  refine fl_iconst C.1 dL_refuses_481 ?_
  refine lv_iload C.1.1 C.1.2.1 dL_refuses_482 (lv_at hl 4 rfl) ?_
  refine fl_iconst C.1 dL_refuses_484 ?_
  refine k_act hst C ⟨(Nat.le_of_ble_eq_true rfl), (Nat.le_of_ble_eq_true rfl)⟩ hI hl.1 (rgk 8 rfl) (rgk 0 rfl) rp (rgk 0 rfl) (rA_enter (by omega)) (Nat.le_of_ble_eq_true rfl) ⟨(Nat.le_of_ble_eq_true rfl), (Nat.le_of_ble_eq_true rfl)⟩ dL_refuses_485 (fun H locs hI _ => ?_)
  refine fl_ldc (n := (-7000001)) C.1 aw_801 rfl dL_refuses_488 ?_
  refine fl_icmp_ne (tgt := 533) C.1 (rgk (-7000001) rfl) (rgk (-7000001) rfl) dL_refuses_490 (by decide) (fun h => absurd rfl h) (fun _ => ?_)
  refine lv_aload_n C.1.1 C.1.2.1 dL_refuses_493 rfl (lv_at hl 11 rfl) ?_
  refine fl_bipush C.1 dL_refuses_494 (by decide) ?_
  refine lv_iload C.1.1 C.1.2.1 dL_refuses_496 (lv_at hl 6 rfl) ?_
  refine fl_if_ne (tgt := 505) C.1 (rgk 1 rfl) dL_refuses_498 (by decide) (fun _ => ?_) (fun h => absurd h (by decide))
  refine lv_iload C.1.1 C.1.2.1 dL_refuses_505 (lv_at hl 6 rfl) ?_
  refine fl_iconst C.1 dL_refuses_507 ?_
  refine fl_icmp_ne (tgt := 517) C.1 (rgk 1 rfl) (rgk 1 rfl) dL_refuses_508 (by decide) (fun h => absurd rfl h) (fun _ => ?_)
  refine fl_sipush C.1 dL_refuses_511 (by decide) ?_
  refine fl_goto (tgt := 519) C.1 dL_refuses_514 (by decide) ?_
  refine fl_iconst C.1 dL_refuses_519 ?_
  refine fl_iconst C.1 dL_refuses_520 ?_
  refine k_act hst C ⟨(Nat.le_of_ble_eq_true rfl), (Nat.le_of_ble_eq_true rfl)⟩ hI hl.1 (rgk 9 rfl) (rgk 301 rfl) (rgk 0 rfl) (rgk 0 rfl) (rA_pass (by omega)) (Nat.le_of_ble_eq_true rfl) ⟨(Nat.le_of_ble_eq_true rfl), (Nat.le_of_ble_eq_true rfl)⟩ dL_refuses_521 (fun H locs hI _ => ?_)
  refine fl_ldc (n := (-7000002)) C.1 aw_802 rfl dL_refuses_524 ?_
  refine fl_icmp_ne (tgt := 533) C.1 (rgk (-7000002) rfl) (rgk (-7000002) rfl) dL_refuses_526 (by decide) (fun h => absurd rfl h) (fun _ => ?_)
  refine fl_iconst C.1 dL_refuses_529 ?_
  refine fl_goto (tgt := 534) C.1 dL_refuses_530 (by decide) ?_
  refine lv_istore (lv' := [(13, iv 1), (12, iv 501), (11, iv 4), (10, iv 8), (9, iv qq), (8, iv pp), (7, iv (-2147483648)), (6, iv 1), (5, iv ((callRun S 500 1).2.1)), (4, iv ((boardS S 3 1 0).2.1)), (3, iv 2147483647), (0, .ref x), (1, iv pp), (2, iv qq)]) C.1.1 C.1.2.1 dL_refuses_534 hl (by decide) rfl (fun ls hl => ?_)
  exact W.widen (Nat.le_of_ble_eq_true rfl) (Nat.le_of_ble_eq_true rfl) (kk H locs ls hI hl)
set_option maxRecDepth 100000 in
set_option maxHeartbeats 4000000 in
theorem w_ref_1_1 (hst : l.stackTraces = false) (C : LC p s m meth c D cy B cL_refuses 14) (rp : rg pp) (rq : rg qq) (hp : pp = (S.np : Int)) (hq : qq = (S.ne : Int)) (rbv : rg (boardS S 3 1 0).2.1) (rsv : rg (callRun S 500 1).2.1) (kk : ∀ (H : Heap) (locs : List Loc) (ls : Array Slot), HI D cy B s.heap H locs x S → lv_has ls 14 [(13, iv 1), (12, iv 501), (11, iv 4), (10, iv 8), (9, iv qq), (8, iv pp), (7, iv (-2147483648)), (6, iv 1), (5, iv ((callRun S 500 1).2.1)), (4, iv ((boardS S 3 1 0).2.1)), (3, iv 2147483647), (0, .ref x), (1, iv pp), (2, iv qq)] → W p l e rm_L_refuses s m args below meth c H locs 535 121623 Q (F0 m 737 ls [])) : ∀ (H : Heap) (locs : List Loc) (ls : Array Slot), HI D cy B s.heap H locs x S → lv_has ls 14 [(13, iv 1), (12, iv 501), (11, iv 4), (10, iv 8), (9, iv qq), (8, iv pp), (7, iv (-2147483648)), (6, iv 1), (5, iv ((callRun S 500 1).2.1)), (4, iv ((boardS S 3 1 0).2.1)), (3, iv 2147483647), (0, .ref x), (1, iv pp), (2, iv qq)] → W p l e rm_L_refuses s m args below meth c H locs 445 101013 Q (F0 m 536 ls []) := by
  intro H locs ls hI hl
  have hok := hI.ok
  have hn6 := hok.2.2.1
  have hn60 := hok.2.2.2.2.1
  refine lv_iload C.1.1 C.1.2.1 dL_refuses_536 (lv_at hl 0 rfl) ?_
  refine fl_if_eq (tgt := 729) C.1 (rgk 1 rfl) dL_refuses_538 (by decide) (fun h => absurd h (by decide)) (fun _ => ?_)
  refine lv_aload_n C.1.1 C.1.2.1 dL_refuses_541 rfl (lv_at hl 11 rfl) ?_
  refine fl_bipush C.1 dL_refuses_542 (by decide) ?_
  refine lv_iload C.1.1 C.1.2.1 dL_refuses_544 (lv_at hl 5 rfl) ?_
  refine fl_iconst C.1 dL_refuses_546 ?_
  refine fl_iconst C.1 dL_refuses_547 ?_
  refine k_act hst C ⟨(Nat.le_of_ble_eq_true rfl), (Nat.le_of_ble_eq_true rfl)⟩ hI hl.1 (rgk 10 rfl) rp (rgk 0 rfl) (rgk 0 rfl) (rA_rejudge (by omega)) (Nat.le_of_ble_eq_true rfl) ⟨(Nat.le_of_ble_eq_true rfl), (Nat.le_of_ble_eq_true rfl)⟩ dL_refuses_548 (fun H locs hI _ => ?_)
  refine fl_ldc (n := (-7000001)) C.1 aw_801 rfl dL_refuses_551 ?_
  refine fl_icmp_ne (tgt := 729) C.1 (rgk (-7000001) rfl) (rgk (-7000001) rfl) dL_refuses_553 (by decide) (fun h => absurd rfl h) (fun _ => ?_)
  refine lv_aload_n C.1.1 C.1.2.1 dL_refuses_556 rfl (lv_at hl 11 rfl) ?_
  refine fl_bipush C.1 dL_refuses_557 (by decide) ?_
  refine lv_iload C.1.1 C.1.2.1 dL_refuses_559 (lv_at hl 4 rfl) ?_
  refine fl_bipush C.1 dL_refuses_561 (by decide) ?_
  refine fl_iconst C.1 dL_refuses_563 ?_
  refine k_act hst C ⟨(Nat.le_of_ble_eq_true rfl), (Nat.le_of_ble_eq_true rfl)⟩ hI hl.1 (rgk 11 rfl) rq (rgk 9 rfl) (rgk 0 rfl) (rA_entry (by omega)) (Nat.le_of_ble_eq_true rfl) ⟨(Nat.le_of_ble_eq_true rfl), (Nat.le_of_ble_eq_true rfl)⟩ dL_refuses_564 (fun H locs hI _ => ?_)
  refine fl_ldc (n := (-7000001)) C.1 aw_801 rfl dL_refuses_567 ?_
  refine fl_icmp_ne (tgt := 729) C.1 (rgk (-7000001) rfl) (rgk (-7000001) rfl) dL_refuses_569 (by decide) (fun h => absurd rfl h) (fun _ => ?_)
  refine lv_aload_n C.1.1 C.1.2.1 dL_refuses_572 rfl (lv_at hl 11 rfl) ?_
  refine fl_bipush C.1 dL_refuses_573 (by decide) ?_
  refine lv_iload C.1.1 C.1.2.1 dL_refuses_575 (lv_at hl 4 rfl) ?_
  refine fl_iconst C.1 dL_refuses_577 ?_
  refine fl_iconst C.1 dL_refuses_578 ?_
  refine k_act hst C ⟨(Nat.le_of_ble_eq_true rfl), (Nat.le_of_ble_eq_true rfl)⟩ hI hl.1 (rgk 12 rfl) rq (rgk 0 rfl) (rgk 0 rfl) (rA_likeness (by omega)) (Nat.le_of_ble_eq_true rfl) ⟨(Nat.le_of_ble_eq_true rfl), (Nat.le_of_ble_eq_true rfl)⟩ dL_refuses_579 (fun H locs hI _ => ?_)
  refine fl_ldc (n := (-7000001)) C.1 aw_801 rfl dL_refuses_582 ?_
  refine fl_icmp_ne (tgt := 729) C.1 (rgk (-7000001) rfl) (rgk (-7000001) rfl) dL_refuses_584 (by decide) (fun h => absurd rfl h) (fun _ => ?_)
  refine lv_aload_n C.1.1 C.1.2.1 dL_refuses_587 rfl (lv_at hl 11 rfl) ?_
  refine fl_bipush C.1 dL_refuses_588 (by decide) ?_
  refine fl_iconst C.1 dL_refuses_590 ?_
  refine lv_iload C.1.1 C.1.2.1 dL_refuses_591 (lv_at hl 4 rfl) ?_
  refine fl_iconst C.1 dL_refuses_593 ?_
  refine k_act hst C ⟨(Nat.le_of_ble_eq_true rfl), (Nat.le_of_ble_eq_true rfl)⟩ hI hl.1 (rgk 12 rfl) (rgk 0 rfl) rq (rgk 0 rfl) (rA_likeness (by omega)) (Nat.le_of_ble_eq_true rfl) ⟨(Nat.le_of_ble_eq_true rfl), (Nat.le_of_ble_eq_true rfl)⟩ dL_refuses_594 (fun H locs hI _ => ?_)
  refine fl_ldc (n := (-7000001)) C.1 aw_801 rfl dL_refuses_597 ?_
  refine fl_icmp_ne (tgt := 729) C.1 (rgk (-7000001) rfl) (rgk (-7000001) rfl) dL_refuses_599 (by decide) (fun h => absurd rfl h) (fun _ => ?_)
  refine lv_aload_n C.1.1 C.1.2.1 dL_refuses_602 rfl (lv_at hl 11 rfl) ?_
  refine fl_bipush C.1 dL_refuses_603 (by decide) ?_
  refine lv_iload C.1.1 C.1.2.1 dL_refuses_605 (lv_at hl 7 rfl) ?_
  refine fl_if_ne (tgt := 615) C.1 (rgk 1 rfl) dL_refuses_607 (by decide) (fun _ => ?_) (fun h => absurd h (by decide))
  refine lv_iload C.1.1 C.1.2.1 dL_refuses_615 (lv_at hl 7 rfl) ?_
  refine fl_iconst C.1 dL_refuses_617 ?_
  refine fl_icmp_ne (tgt := 627) C.1 (rgk 1 rfl) (rgk 1 rfl) dL_refuses_618 (by decide) (fun h => absurd rfl h) (fun _ => ?_)
  refine fl_sipush C.1 dL_refuses_621 (by decide) ?_
  refine fl_goto (tgt := 629) C.1 dL_refuses_624 (by decide) ?_
  refine fl_iconst C.1 dL_refuses_629 ?_
  refine fl_iconst C.1 dL_refuses_630 ?_
  refine k_act hst C ⟨(Nat.le_of_ble_eq_true rfl), (Nat.le_of_ble_eq_true rfl)⟩ hI hl.1 (rgk 13 rfl) (rgk 10000 rfl) (rgk 0 rfl) (rgk 0 rfl) (rA_freeze (by omega)) (Nat.le_of_ble_eq_true rfl) ⟨(Nat.le_of_ble_eq_true rfl), (Nat.le_of_ble_eq_true rfl)⟩ dL_refuses_631 (fun H locs hI _ => ?_)
  refine fl_ldc (n := (-7000002)) C.1 aw_802 rfl dL_refuses_634 ?_
  refine fl_icmp_ne (tgt := 729) C.1 (rgk (-7000002) rfl) (rgk (-7000002) rfl) dL_refuses_636 (by decide) (fun h => absurd rfl h) (fun _ => ?_)
  refine lv_aload_n C.1.1 C.1.2.1 dL_refuses_639 rfl (lv_at hl 11 rfl) ?_
  refine fl_bipush C.1 dL_refuses_640 (by decide) ?_
  refine lv_iload C.1.1 C.1.2.1 dL_refuses_642 (lv_at hl 3 rfl) ?_
  refine fl_iconst C.1 dL_refuses_644 ?_
  refine fl_bipush C.1 dL_refuses_645 (by decide) ?_
  refine k_act hst C ⟨(Nat.le_of_ble_eq_true rfl), (Nat.le_of_ble_eq_true rfl)⟩ hI hl.1 (rgk 14 rfl) (rgk 8 rfl) (rgk 0 rfl) (rgk 9 rfl) (rA_board (by omega)) (Nat.le_of_ble_eq_true rfl) ⟨(Nat.le_of_ble_eq_true rfl), (Nat.le_of_ble_eq_true rfl)⟩ dL_refuses_647 (fun H locs hI _ => ?_)
  refine fl_ldc (n := (-7000001)) C.1 aw_801 rfl dL_refuses_650 ?_
  refine fl_icmp_ne (tgt := 729) C.1 (rgk (-7000001) rfl) (rgk (-7000001) rfl) dL_refuses_652 (by decide) (fun h => absurd rfl h) (fun _ => ?_)
  refine lv_aload_n C.1.1 C.1.2.1 dL_refuses_655 rfl (lv_at hl 11 rfl) ?_
  refine fl_bipush C.1 dL_refuses_656 (by decide) ?_
  refine fl_iconst C.1 dL_refuses_658 ?_
  refine fl_iconst C.1 dL_refuses_659 ?_
  refine lv_iload C.1.1 C.1.2.1 dL_refuses_660 (lv_at hl 7 rfl) ?_
  refine fl_iconst C.1 dL_refuses_662 ?_
  refine fl_icmp_ne (tgt := 670) C.1 (rgk 1 rfl) (rgk 1 rfl) dL_refuses_663 (by decide) (fun h => absurd rfl h) (fun _ => ?_)
  refine fl_iconst C.1 dL_refuses_666 ?_
  refine fl_goto (tgt := 672) C.1 dL_refuses_667 (by decide) ?_
  refine k_act hst C ⟨(Nat.le_of_ble_eq_true rfl), (Nat.le_of_ble_eq_true rfl)⟩ hI hl.1 (rgk 14 rfl) (rgk 0 rfl) (rgk 0 rfl) (rgk 5 rfl) (rA_board2 (by omega)) (Nat.le_of_ble_eq_true rfl) ⟨(Nat.le_of_ble_eq_true rfl), (Nat.le_of_ble_eq_true rfl)⟩ dL_refuses_672 (fun H locs hI _ => ?_)
  refine fl_ldc (n := (-7000002)) C.1 aw_802 rfl dL_refuses_675 ?_
  refine fl_icmp_ne (tgt := 729) C.1 (rgk (-7000002) rfl) (rgk (-7000002) rfl) dL_refuses_677 (by decide) (fun h => absurd rfl h) (fun _ => ?_)
  refine lv_aload_n C.1.1 C.1.2.1 dL_refuses_680 rfl (lv_at hl 11 rfl) ?_
  refine fl_bipush C.1 dL_refuses_681 (by decide) ?_
  refine lv_iload C.1.1 C.1.2.1 dL_refuses_683 (lv_at hl 3 rfl) ?_
  refine fl_iconst C.1 dL_refuses_685 ?_
  refine fl_iconst C.1 dL_refuses_686 ?_
  refine k_act hst C ⟨(Nat.le_of_ble_eq_true rfl), (Nat.le_of_ble_eq_true rfl)⟩ hI hl.1 (rgk 15 rfl) (rgk 8 rfl) (rgk 0 rfl) (rgk 0 rfl) (rA_placeAnew (by omega)) (Nat.le_of_ble_eq_true rfl) ⟨(Nat.le_of_ble_eq_true rfl), (Nat.le_of_ble_eq_true rfl)⟩ dL_refuses_687 (fun H locs hI _ => ?_)
  refine fl_ldc (n := (-7000001)) C.1 aw_801 rfl dL_refuses_690 ?_
  refine fl_icmp_ne (tgt := 729) C.1 (rgk (-7000001) rfl) (rgk (-7000001) rfl) dL_refuses_692 (by decide) (fun h => absurd rfl h) (fun _ => ?_)
  refine lv_aload_n C.1.1 C.1.2.1 dL_refuses_695 rfl (lv_at hl 11 rfl) ?_
  refine fl_bipush C.1 dL_refuses_696 (by decide) ?_
  refine lv_iload C.1.1 C.1.2.1 dL_refuses_698 (lv_at hl 3 rfl) ?_
  refine fl_iconst C.1 dL_refuses_700 ?_
  refine fl_iconst C.1 dL_refuses_701 ?_
  refine k_act hst C ⟨(Nat.le_of_ble_eq_true rfl), (Nat.le_of_ble_eq_true rfl)⟩ hI hl.1 (rgk 16 rfl) (rgk 8 rfl) (rgk 0 rfl) (rgk 0 rfl) (rA_hack (by omega)) (Nat.le_of_ble_eq_true rfl) ⟨(Nat.le_of_ble_eq_true rfl), (Nat.le_of_ble_eq_true rfl)⟩ dL_refuses_702 (fun H locs hI _ => ?_)
  refine fl_ldc (n := (-7000001)) C.1 aw_801 rfl dL_refuses_705 ?_
  refine fl_icmp_ne (tgt := 729) C.1 (rgk (-7000001) rfl) (rgk (-7000001) rfl) dL_refuses_707 (by decide) (fun h => absurd rfl h) (fun _ => ?_)
  refine lv_aload_n C.1.1 C.1.2.1 dL_refuses_710 rfl (lv_at hl 11 rfl) ?_
  refine fl_bipush C.1 dL_refuses_711 (by decide) ?_
  refine fl_iconst C.1 dL_refuses_713 ?_
  refine lv_iload C.1.1 C.1.2.1 dL_refuses_714 (lv_at hl 4 rfl) ?_
  refine fl_iconst C.1 dL_refuses_716 ?_
  refine k_act hst C ⟨(Nat.le_of_ble_eq_true rfl), (Nat.le_of_ble_eq_true rfl)⟩ hI hl.1 (rgk 16 rfl) (rgk 0 rfl) rq (rgk 0 rfl) (rA_hack (by omega)) (Nat.le_of_ble_eq_true rfl) ⟨(Nat.le_of_ble_eq_true rfl), (Nat.le_of_ble_eq_true rfl)⟩ dL_refuses_717 (fun H locs hI _ => ?_)
  refine fl_ldc (n := (-7000001)) C.1 aw_801 rfl dL_refuses_720 ?_
  refine fl_icmp_ne (tgt := 729) C.1 (rgk (-7000001) rfl) (rgk (-7000001) rfl) dL_refuses_722 (by decide) (fun h => absurd rfl h) (fun _ => ?_)
  refine fl_iconst C.1 dL_refuses_725 ?_
  refine fl_goto (tgt := 730) C.1 dL_refuses_726 (by decide) ?_
  refine lv_istore (lv' := [(13, iv 1), (12, iv 501), (11, iv 4), (10, iv 8), (9, iv qq), (8, iv pp), (7, iv (-2147483648)), (6, iv 1), (5, iv ((callRun S 500 1).2.1)), (4, iv ((boardS S 3 1 0).2.1)), (3, iv 2147483647), (0, .ref x), (1, iv pp), (2, iv qq)]) C.1.1 C.1.2.1 dL_refuses_730 hl (by decide) rfl (fun ls hl => ?_)
  refine lv_iload C.1.1 C.1.2.1 dL_refuses_732 (lv_at hl 0 rfl) ?_
  refine fl_if_eq (tgt := 825) C.1 (rgk 1 rfl) dL_refuses_734 (by decide) (fun h => absurd h (by decide)) (fun _ => ?_)
  exact W.widen (Nat.le_of_ble_eq_true rfl) (Nat.le_of_ble_eq_true rfl) (kk H locs ls hI hl)
set_option maxRecDepth 100000 in
set_option maxHeartbeats 4000000 in
theorem w_ref_1_2 (hst : l.stackTraces = false) (C : LC p s m meth c D cy B cL_refuses 14) (rp : rg pp) (rq : rg qq) (hp : pp = (S.np : Int)) (hq : qq = (S.ne : Int)) (rbv : rg (boardS S 3 1 0).2.1) (rsv : rg (callRun S 500 1).2.1) (kk : ∀ (H : Heap) (locs : List Loc) (ls : Array Slot), HI D cy B s.heap H locs x S → lv_has ls 14 [(13, iv 1), (12, iv 501), (11, iv 4), (10, iv 8), (9, iv qq), (8, iv pp), (7, iv (-2147483648)), (6, iv 1), (5, iv ((callRun S 500 1).2.1)), (4, iv ((boardS S 3 1 0).2.1)), (3, iv 2147483647), (0, .ref x), (1, iv pp), (2, iv qq)] → W p l e rm_L_refuses s m args below meth c H locs 553 125745 Q (F0 m 791 ls [])) : ∀ (H : Heap) (locs : List Loc) (ls : Array Slot), HI D cy B s.heap H locs x S → lv_has ls 14 [(13, iv 1), (12, iv 501), (11, iv 4), (10, iv 8), (9, iv qq), (8, iv pp), (7, iv (-2147483648)), (6, iv 1), (5, iv ((callRun S 500 1).2.1)), (4, iv ((boardS S 3 1 0).2.1)), (3, iv 2147483647), (0, .ref x), (1, iv pp), (2, iv qq)] → W p l e rm_L_refuses s m args below meth c H locs 535 121623 Q (F0 m 737 ls []) := by
  intro H locs ls hI hl
  have hok := hI.ok
  have hn6 := hok.2.2.1
  have hn60 := hok.2.2.2.2.1
  refine lv_iload_n C.1.1 C.1.2.1 dL_refuses_737 rfl (lv_at hl 12 rfl) ?_
  refine fl_if_eq (tgt := 791) C.1 rp dL_refuses_738 (by decide) (fun _ => W.widen (Nat.le_of_ble_eq_true rfl) (Nat.le_of_ble_eq_true rfl) (kk H locs ls hI (lv_sub hl [0, 1, 2, 3, 4, 5, 6, 7, 8, 9, 10, 11, 12, 13] rfl))) (fun hz => ?_)
  refine lv_aload_n C.1.1 C.1.2.1 dL_refuses_741 rfl (lv_at hl 11 rfl) ?_
  refine fl_iconst C.1 dL_refuses_742 ?_
  refine fl_iconst C.1 dL_refuses_743 ?_
  refine fl_iconst C.1 dL_refuses_744 ?_
  refine lv_iload C.1.1 C.1.2.1 dL_refuses_745 (lv_at hl 7 rfl) ?_
  refine fl_iconst C.1 dL_refuses_747 ?_
  refine fl_icmp_ne (tgt := 756) C.1 (rgk 1 rfl) (rgk 1 rfl) dL_refuses_748 (by decide) (fun h => absurd rfl h) (fun _ => ?_)
  refine fl_bipush C.1 dL_refuses_751 (by decide) ?_
  refine fl_goto (tgt := 758) C.1 dL_refuses_753 (by decide) ?_
  refine k_act hst C ⟨(Nat.le_of_ble_eq_true rfl), (Nat.le_of_ble_eq_true rfl)⟩ hI hl.1 (rgk 5 rfl) (rgk 0 rfl) (rgk 0 rfl) (rgk 101 rfl) (rA_points2 (by omega)) (Nat.le_of_ble_eq_true rfl) ⟨(Nat.le_of_ble_eq_true rfl), (Nat.le_of_ble_eq_true rfl)⟩ dL_refuses_758 (fun H locs hI _ => ?_)
  refine fl_ldc (n := (-7000002)) C.1 aw_802 rfl dL_refuses_761 ?_
  refine fl_icmp_ne (tgt := 825) C.1 (rgk (-7000002) rfl) (rgk (-7000002) rfl) dL_refuses_763 (by decide) (fun h => absurd rfl h) (fun _ => ?_)
  refine lv_aload_n C.1.1 C.1.2.1 dL_refuses_766 rfl (lv_at hl 11 rfl) ?_
  refine fl_bipush C.1 dL_refuses_767 (by decide) ?_
  refine fl_iconst C.1 dL_refuses_769 ?_
  refine lv_iload C.1.1 C.1.2.1 dL_refuses_770 (lv_at hl 7 rfl) ?_
  refine fl_iconst C.1 dL_refuses_772 ?_
  refine fl_icmp_ne (tgt := 780) C.1 (rgk 1 rfl) (rgk 1 rfl) dL_refuses_773 (by decide) (fun h => absurd rfl h) (fun _ => ?_)
  refine fl_iconst C.1 dL_refuses_776 ?_
  refine fl_goto (tgt := 782) C.1 dL_refuses_777 (by decide) ?_
  refine fl_iconst C.1 dL_refuses_782 ?_
  refine k_act hst C ⟨(Nat.le_of_ble_eq_true rfl), (Nat.le_of_ble_eq_true rfl)⟩ hI hl.1 (rgk 6 rfl) (rgk 0 rfl) (rgk 2 rfl) (rgk 0 rfl) (rA_mend2 (by omega)) (Nat.le_of_ble_eq_true rfl) ⟨(Nat.le_of_ble_eq_true rfl), (Nat.le_of_ble_eq_true rfl)⟩ dL_refuses_783 (fun H locs hI _ => ?_)
  refine fl_ldc (n := (-7000002)) C.1 aw_802 rfl dL_refuses_786 ?_
  refine fl_icmp_ne (tgt := 825) C.1 (rgk (-7000002) rfl) (rgk (-7000002) rfl) dL_refuses_788 (by decide) (fun h => absurd rfl h) (fun _ => ?_)
  exact W.widen (Nat.le_of_ble_eq_true rfl) (Nat.le_of_ble_eq_true rfl) (kk H locs ls hI hl)
set_option maxRecDepth 100000 in
set_option maxHeartbeats 4000000 in
theorem w_ref_1_3 (hst : l.stackTraces = false) (C : LC p s m meth c D cy B cL_refuses 14) (rp : rg pp) (rq : rg qq) (hp : pp = (S.np : Int)) (hq : qq = (S.ne : Int)) (rbv : rg (boardS S 3 1 0).2.1) (rsv : rg (callRun S 500 1).2.1) (kk : ∀ (H : Heap) (locs : List Loc) (ls : Array Slot), HI D cy B s.heap H locs x S → lv_has ls 14 [(13, iv 1), (12, iv 501), (11, iv 4), (10, iv 8), (9, iv qq), (8, iv pp), (7, iv (-2147483648)), (6, iv 1), (5, iv ((callRun S 500 1).2.1)), (4, iv ((boardS S 3 1 0).2.1)), (3, iv 2147483647), (0, .ref x), (1, iv pp), (2, iv qq)] → W p l e rm_L_refuses s m args below meth c H locs 562 127806 Q (F0 m 821 ls [])) : ∀ (H : Heap) (locs : List Loc) (ls : Array Slot), HI D cy B s.heap H locs x S → lv_has ls 14 [(13, iv 1), (12, iv 501), (11, iv 4), (10, iv 8), (9, iv qq), (8, iv pp), (7, iv (-2147483648)), (6, iv 1), (5, iv ((callRun S 500 1).2.1)), (4, iv ((boardS S 3 1 0).2.1)), (3, iv 2147483647), (0, .ref x), (1, iv pp), (2, iv qq)] → W p l e rm_L_refuses s m args below meth c H locs 553 125745 Q (F0 m 791 ls []) := by
  intro H locs ls hI hl
  have hok := hI.ok
  have hn6 := hok.2.2.1
  have hn60 := hok.2.2.2.2.1
  refine lv_iload_n C.1.1 C.1.2.1 dL_refuses_791 rfl (lv_at hl 13 rfl) ?_
  refine fl_if_eq (tgt := 821) C.1 rq dL_refuses_792 (by decide) (fun _ => W.widen (Nat.le_of_ble_eq_true rfl) (Nat.le_of_ble_eq_true rfl) (kk H locs ls hI (lv_sub hl [0, 1, 2, 3, 4, 5, 6, 7, 8, 9, 10, 11, 12, 13] rfl))) (fun hz => ?_)
  refine lv_aload_n C.1.1 C.1.2.1 dL_refuses_795 rfl (lv_at hl 11 rfl) ?_
  refine fl_bipush C.1 dL_refuses_796 (by decide) ?_
  refine fl_iconst C.1 dL_refuses_798 ?_
  refine lv_iload C.1.1 C.1.2.1 dL_refuses_799 (lv_at hl 7 rfl) ?_
  refine fl_iconst C.1 dL_refuses_801 ?_
  refine fl_icmp_ne (tgt := 810) C.1 (rgk 1 rfl) (rgk 1 rfl) dL_refuses_802 (by decide) (fun h => absurd rfl h) (fun _ => ?_)
  refine fl_bipush C.1 dL_refuses_805 (by decide) ?_
  refine fl_goto (tgt := 812) C.1 dL_refuses_807 (by decide) ?_
  refine fl_iconst C.1 dL_refuses_812 ?_
  refine k_act hst C ⟨(Nat.le_of_ble_eq_true rfl), (Nat.le_of_ble_eq_true rfl)⟩ hI hl.1 (rgk 11 rfl) (rgk 0 rfl) (rgk 7 rfl) (rgk 0 rfl) (rA_entry2 (by omega)) (Nat.le_of_ble_eq_true rfl) ⟨(Nat.le_of_ble_eq_true rfl), (Nat.le_of_ble_eq_true rfl)⟩ dL_refuses_813 (fun H locs hI _ => ?_)
  refine fl_ldc (n := (-7000002)) C.1 aw_802 rfl dL_refuses_816 ?_
  refine fl_icmp_ne (tgt := 825) C.1 (rgk (-7000002) rfl) (rgk (-7000002) rfl) dL_refuses_818 (by decide) (fun h => absurd rfl h) (fun _ => ?_)
  exact W.widen (Nat.le_of_ble_eq_true rfl) (Nat.le_of_ble_eq_true rfl) (kk H locs ls hI hl)
set_option maxRecDepth 100000 in
set_option maxHeartbeats 4000000 in
theorem w_ref_1_4 (hst : l.stackTraces = false) (C : LC p s m meth c D cy B cL_refuses 14) (rp : rg pp) (rq : rg qq) (hp : pp = (S.np : Int)) (hq : qq = (S.ne : Int)) (rbv : rg (boardS S 3 1 0).2.1) (rsv : rg (callRun S 500 1).2.1) (kk : ∀ (H : Heap) (locs : List Loc) (ls : Array Slot), HI D cy B s.heap H locs x S → lv_has ls 14 [(6, iv 2), (13, iv 1), (12, iv 501), (11, iv 4), (10, iv 8), (9, iv qq), (8, iv pp), (7, iv (-2147483648)), (5, iv ((callRun S 500 1).2.1)), (4, iv ((boardS S 3 1 0).2.1)), (3, iv 2147483647), (0, .ref x), (1, iv pp), (2, iv qq)] → W p l e rm_L_refuses s m args below meth c H locs 562 127806 Q (F0 m 25 ls [])) : ∀ (H : Heap) (locs : List Loc) (ls : Array Slot), HI D cy B s.heap H locs x S → lv_has ls 14 [(13, iv 1), (12, iv 501), (11, iv 4), (10, iv 8), (9, iv qq), (8, iv pp), (7, iv (-2147483648)), (6, iv 1), (5, iv ((callRun S 500 1).2.1)), (4, iv ((boardS S 3 1 0).2.1)), (3, iv 2147483647), (0, .ref x), (1, iv pp), (2, iv qq)] → W p l e rm_L_refuses s m args below meth c H locs 562 127806 Q (F0 m 821 ls []) := by
  intro H locs ls hI hl
  have hok := hI.ok
  have hn6 := hok.2.2.1
  have hn60 := hok.2.2.2.2.1
  refine fl_iconst C.1 dL_refuses_821 ?_
  refine fl_goto (tgt := 826) C.1 dL_refuses_822 (by decide) ?_
  refine lv_istore (lv' := [(13, iv 1), (12, iv 501), (11, iv 4), (10, iv 8), (9, iv qq), (8, iv pp), (7, iv (-2147483648)), (6, iv 1), (5, iv ((callRun S 500 1).2.1)), (4, iv ((boardS S 3 1 0).2.1)), (3, iv 2147483647), (0, .ref x), (1, iv pp), (2, iv qq)]) C.1.1 C.1.2.1 dL_refuses_826 hl (by decide) rfl (fun ls hl => ?_)
  refine lv_iload C.1.1 C.1.2.1 dL_refuses_828 (lv_at hl 0 rfl) ?_
  refine fl_if_ne (tgt := 835) C.1 (rgk 1 rfl) dL_refuses_830 (by decide) (fun _ => ?_) (fun h => absurd h (by decide))
  refine fl_iinc (k := 7) (lv' := [(6, iv (wr (1 + 1))), (13, iv 1), (12, iv 501), (11, iv 4), (10, iv 8), (9, iv qq), (8, iv pp), (7, iv (-2147483648)), (5, iv ((callRun S 500 1).2.1)), (4, iv ((boardS S 3 1 0).2.1)), (3, iv 2147483647), (0, .ref x), (1, iv pp), (2, iv qq)]) C.1 dL_refuses_835 hl rfl (by decide) rfl (fun ls hl => ?_)
  rw [show wr (1 + 1) = (2 : Int) from by decide +kernel] at hl
  refine fl_goto (tgt := 25) C.1 dL_refuses_838 (by decide) ?_
  exact W.widen (Nat.le_of_ble_eq_true rfl) (Nat.le_of_ble_eq_true rfl) (kk H locs ls hI hl)
set_option maxRecDepth 100000 in
set_option maxHeartbeats 4000000 in
theorem w_ref_2_0 (hst : l.stackTraces = false) (C : LC p s m meth c D cy B cL_refuses 14) (rp : rg pp) (rq : rg qq) (hp : pp = (S.np : Int)) (hq : qq = (S.ne : Int)) (rbv : rg (boardS S 3 1 0).2.1) (rsv : rg (callRun S 500 1).2.1) (kk : ∀ (H : Heap) (locs : List Loc) (ls : Array Slot), HI D cy B s.heap H locs x S → lv_has ls 14 [(13, iv 1), (12, iv 2147483647), (11, iv 2147483647), (10, iv 2147483647), (9, iv 2147483647), (8, iv 2147483647), (7, iv 2147483647), (6, iv 2), (5, iv ((callRun S 500 1).2.1)), (4, iv ((boardS S 3 1 0).2.1)), (3, iv 2147483647), (0, .ref x), (1, iv pp), (2, iv qq)] → W p l e rm_L_refuses s m args below meth c H locs 724 164904 Q (F0 m 536 ls [])) : ∀ (H : Heap) (locs : List Loc) (ls : Array Slot), HI D cy B s.heap H locs x S → lv_has ls 14 [(6, iv 2), (13, iv 1), (12, iv 501), (11, iv 4), (10, iv 8), (9, iv qq), (8, iv pp), (7, iv (-2147483648)), (5, iv ((callRun S 500 1).2.1)), (4, iv ((boardS S 3 1 0).2.1)), (3, iv 2147483647), (0, .ref x), (1, iv pp), (2, iv qq)] → W p l e rm_L_refuses s m args below meth c H locs 562 127806 Q (F0 m 25 ls []) := by
  intro H locs ls hI hl
  have hok := hI.ok
  have hn6 := hok.2.2.1
  have hn60 := hok.2.2.2.2.1
  refine lv_iload C.1.1 C.1.2.1 dL_refuses_25 (lv_at hl 0 rfl) ?_
  refine fl_iconst C.1 dL_refuses_27 ?_
  refine fl_icmp_ge (tgt := 841) C.1 (rgk 2 rfl) (rgk 4 rfl) dL_refuses_28 (by decide) (fun h => absurd h (by decide)) (fun _ => ?_)
  refine lv_iload C.1.1 C.1.2.1 dL_refuses_31 (lv_at hl 0 rfl) ?_
  refine fl_if_ne (tgt := 40) C.1 (rgk 2 rfl) dL_refuses_33 (by decide) (fun _ => ?_) (fun h => absurd h (by decide))
  refine lv_iload C.1.1 C.1.2.1 dL_refuses_40 (lv_at hl 0 rfl) ?_
  refine fl_iconst C.1 dL_refuses_42 ?_
  refine fl_icmp_ne (tgt := 50) C.1 (rgk 2 rfl) (rgk 2 rfl) dL_refuses_43 (by decide) (fun h => absurd rfl h) (fun _ => ?_)
  refine lv_iload_n C.1.1 C.1.2.1 dL_refuses_46 rfl (lv_at hl 10 rfl) ?_
  refine fl_goto (tgt := 54) C.1 dL_refuses_47 (by decide) ?_
  refine lv_istore (lv' := [(7, iv 2147483647), (6, iv 2), (13, iv 1), (12, iv 501), (11, iv 4), (10, iv 8), (9, iv qq), (8, iv pp), (5, iv ((callRun S 500 1).2.1)), (4, iv ((boardS S 3 1 0).2.1)), (3, iv 2147483647), (0, .ref x), (1, iv pp), (2, iv qq)]) C.1.1 C.1.2.1 dL_refuses_54 hl (by decide) rfl (fun ls hl => ?_)
  refine lv_iload C.1.1 C.1.2.1 dL_refuses_56 (lv_at hl 1 rfl) ?_
  refine fl_iconst C.1 dL_refuses_58 ?_
  refine fl_icmp_ne (tgt := 66) C.1 (rgk 2 rfl) (rgk 1 rfl) dL_refuses_59 (by decide) (fun _ => ?_) (fun h => absurd h (by decide))
  refine lv_iload C.1.1 C.1.2.1 dL_refuses_66 (lv_at hl 0 rfl) ?_
  refine lv_istore (lv' := [(8, iv 2147483647), (7, iv 2147483647), (6, iv 2), (13, iv 1), (12, iv 501), (11, iv 4), (10, iv 8), (9, iv qq), (5, iv ((callRun S 500 1).2.1)), (4, iv ((boardS S 3 1 0).2.1)), (3, iv 2147483647), (0, .ref x), (1, iv pp), (2, iv qq)]) C.1.1 C.1.2.1 dL_refuses_68 hl (by decide) rfl (fun ls hl => ?_)
  refine lv_iload C.1.1 C.1.2.1 dL_refuses_70 (lv_at hl 2 rfl) ?_
  refine fl_iconst C.1 dL_refuses_72 ?_
  refine fl_icmp_ne (tgt := 80) C.1 (rgk 2 rfl) (rgk 1 rfl) dL_refuses_73 (by decide) (fun _ => ?_) (fun h => absurd h (by decide))
  refine lv_iload C.1.1 C.1.2.1 dL_refuses_80 (lv_at hl 1 rfl) ?_
  refine lv_istore (lv' := [(9, iv 2147483647), (8, iv 2147483647), (7, iv 2147483647), (6, iv 2), (13, iv 1), (12, iv 501), (11, iv 4), (10, iv 8), (5, iv ((callRun S 500 1).2.1)), (4, iv ((boardS S 3 1 0).2.1)), (3, iv 2147483647), (0, .ref x), (1, iv pp), (2, iv qq)]) C.1.1 C.1.2.1 dL_refuses_82 hl (by decide) rfl (fun ls hl => ?_)
  refine lv_iload C.1.1 C.1.2.1 dL_refuses_84 (lv_at hl 3 rfl) ?_
  refine fl_iconst C.1 dL_refuses_86 ?_
  refine fl_icmp_ne (tgt := 95) C.1 (rgk 2 rfl) (rgk 1 rfl) dL_refuses_87 (by decide) (fun _ => ?_) (fun h => absurd h (by decide))
  refine lv_iload C.1.1 C.1.2.1 dL_refuses_95 (lv_at hl 2 rfl) ?_
  refine lv_istore (lv' := [(10, iv 2147483647), (9, iv 2147483647), (8, iv 2147483647), (7, iv 2147483647), (6, iv 2), (13, iv 1), (12, iv 501), (11, iv 4), (5, iv ((callRun S 500 1).2.1)), (4, iv ((boardS S 3 1 0).2.1)), (3, iv 2147483647), (0, .ref x), (1, iv pp), (2, iv qq)]) C.1.1 C.1.2.1 dL_refuses_97 hl (by decide) rfl (fun ls hl => ?_)
  refine lv_iload C.1.1 C.1.2.1 dL_refuses_99 (lv_at hl 4 rfl) ?_
  refine fl_iconst C.1 dL_refuses_101 ?_
  refine fl_icmp_ne (tgt := 109) C.1 (rgk 2 rfl) (rgk 1 rfl) dL_refuses_102 (by decide) (fun _ => ?_) (fun h => absurd h (by decide))
  refine lv_iload C.1.1 C.1.2.1 dL_refuses_109 (lv_at hl 3 rfl) ?_
  refine lv_istore (lv' := [(11, iv 2147483647), (10, iv 2147483647), (9, iv 2147483647), (8, iv 2147483647), (7, iv 2147483647), (6, iv 2), (13, iv 1), (12, iv 501), (5, iv ((callRun S 500 1).2.1)), (4, iv ((boardS S 3 1 0).2.1)), (3, iv 2147483647), (0, .ref x), (1, iv pp), (2, iv qq)]) C.1.1 C.1.2.1 dL_refuses_111 hl (by decide) rfl (fun ls hl => ?_)
  refine lv_iload C.1.1 C.1.2.1 dL_refuses_113 (lv_at hl 5 rfl) ?_
  refine fl_if_ne (tgt := 122) C.1 (rgk 2 rfl) dL_refuses_115 (by decide) (fun _ => ?_) (fun h => absurd h (by decide))
  refine lv_iload C.1.1 C.1.2.1 dL_refuses_122 (lv_at hl 5 rfl) ?_
  refine fl_iconst C.1 dL_refuses_124 ?_
  refine fl_icmp_ne (tgt := 134) C.1 (rgk 2 rfl) (rgk 1 rfl) dL_refuses_125 (by decide) (fun _ => ?_) (fun h => absurd h (by decide))
  refine lv_iload C.1.1 C.1.2.1 dL_refuses_134 (lv_at hl 4 rfl) ?_
  refine lv_istore (lv' := [(12, iv 2147483647), (11, iv 2147483647), (10, iv 2147483647), (9, iv 2147483647), (8, iv 2147483647), (7, iv 2147483647), (6, iv 2), (13, iv 1), (5, iv ((callRun S 500 1).2.1)), (4, iv ((boardS S 3 1 0).2.1)), (3, iv 2147483647), (0, .ref x), (1, iv pp), (2, iv qq)]) C.1.1 C.1.2.1 dL_refuses_136 hl (by decide) rfl (fun ls hl => ?_)
  refine lv_aload_n C.1.1 C.1.2.1 dL_refuses_138 rfl (lv_at hl 11 rfl) ?_
  refine fl_iconst C.1 dL_refuses_139 ?_
  refine lv_iload C.1.1 C.1.2.1 dL_refuses_140 (lv_at hl 6 rfl) ?_
  refine fl_iconst C.1 dL_refuses_142 ?_
  refine fl_icmp_ne (tgt := 151) C.1 (rgk 2 rfl) (rgk 1 rfl) dL_refuses_143 (by decide) (fun _ => ?_) (fun h => absurd h (by decide))
  refine lv_iload C.1.1 C.1.2.1 dL_refuses_151 (lv_at hl 5 rfl) ?_
  refine fl_iconst C.1 dL_refuses_153 ?_
  refine fl_iconst C.1 dL_refuses_154 ?_
  refine k_act hst C ⟨(Nat.le_of_ble_eq_true rfl), (Nat.le_of_ble_eq_true rfl)⟩ hI hl.1 (rgk 0 rfl) (rgk 2147483647 rfl) (rgk 0 rfl) (rgk 0 rfl) (rA_code (by omega)) (Nat.le_of_ble_eq_true rfl) ⟨(Nat.le_of_ble_eq_true rfl), (Nat.le_of_ble_eq_true rfl)⟩ dL_refuses_155 (fun H locs hI _ => ?_)
  refine fl_ldc (n := (-7000002)) C.1 aw_802 rfl dL_refuses_158 ?_
  refine fl_icmp_ne (tgt := 533) C.1 (rgk (-7000002) rfl) (rgk (-7000002) rfl) dL_refuses_160 (by decide) (fun h => absurd rfl h) (fun _ => ?_)
  refine lv_aload_n C.1.1 C.1.2.1 dL_refuses_163 rfl (lv_at hl 11 rfl) ?_
  refine fl_iconst C.1 dL_refuses_164 ?_
  refine fl_iconst C.1 dL_refuses_165 ?_
  refine lv_iload C.1.1 C.1.2.1 dL_refuses_166 (lv_at hl 6 rfl) ?_
  refine fl_if_ne (tgt := 176) C.1 (rgk 2 rfl) dL_refuses_168 (by decide) (fun _ => ?_) (fun h => absurd h (by decide))
  refine lv_iload C.1.1 C.1.2.1 dL_refuses_176 (lv_at hl 6 rfl) ?_
  refine fl_iconst C.1 dL_refuses_178 ?_
  refine fl_icmp_ne (tgt := 187) C.1 (rgk 2 rfl) (rgk 1 rfl) dL_refuses_179 (by decide) (fun _ => ?_) (fun h => absurd h (by decide))
  refine lv_iload C.1.1 C.1.2.1 dL_refuses_187 (lv_at hl 5 rfl) ?_
  refine fl_iconst C.1 dL_refuses_189 ?_
  refine k_act hst C ⟨(Nat.le_of_ble_eq_true rfl), (Nat.le_of_ble_eq_true rfl)⟩ hI hl.1 (rgk 0 rfl) (rgk 0 rfl) (rgk 2147483647 rfl) (rgk 0 rfl) (rA_code (by omega)) (Nat.le_of_ble_eq_true rfl) ⟨(Nat.le_of_ble_eq_true rfl), (Nat.le_of_ble_eq_true rfl)⟩ dL_refuses_190 (fun H locs hI _ => ?_)
  refine fl_ldc (n := (-7000002)) C.1 aw_802 rfl dL_refuses_193 ?_
  refine fl_icmp_ne (tgt := 533) C.1 (rgk (-7000002) rfl) (rgk (-7000002) rfl) dL_refuses_195 (by decide) (fun h => absurd rfl h) (fun _ => ?_)
  refine lv_aload_n C.1.1 C.1.2.1 dL_refuses_198 rfl (lv_at hl 11 rfl) ?_
  refine fl_iconst C.1 dL_refuses_199 ?_
  refine lv_iload C.1.1 C.1.2.1 dL_refuses_200 (lv_at hl 6 rfl) ?_
  refine fl_if_ne (tgt := 210) C.1 (rgk 2 rfl) dL_refuses_202 (by decide) (fun _ => ?_) (fun h => absurd h (by decide))
  refine lv_iload C.1.1 C.1.2.1 dL_refuses_210 (lv_at hl 6 rfl) ?_
  refine fl_iconst C.1 dL_refuses_212 ?_
  refine fl_icmp_ne (tgt := 221) C.1 (rgk 2 rfl) (rgk 1 rfl) dL_refuses_213 (by decide) (fun _ => ?_) (fun h => absurd h (by decide))
  refine lv_iload C.1.1 C.1.2.1 dL_refuses_221 (lv_at hl 5 rfl) ?_
  refine fl_iconst C.1 dL_refuses_223 ?_
  refine fl_iconst C.1 dL_refuses_224 ?_
  refine k_act hst C ⟨(Nat.le_of_ble_eq_true rfl), (Nat.le_of_ble_eq_true rfl)⟩ hI hl.1 (rgk 1 rfl) (rgk 2147483647 rfl) (rgk 0 rfl) (rgk 0 rfl) (rA_input (by omega)) (Nat.le_of_ble_eq_true rfl) ⟨(Nat.le_of_ble_eq_true rfl), (Nat.le_of_ble_eq_true rfl)⟩ dL_refuses_225 (fun H locs hI _ => ?_)
  refine fl_ldc (n := (-7000002)) C.1 aw_802 rfl dL_refuses_228 ?_
  refine fl_icmp_ne (tgt := 533) C.1 (rgk (-7000002) rfl) (rgk (-7000002) rfl) dL_refuses_230 (by decide) (fun h => absurd rfl h) (fun _ => ?_)
  refine lv_aload_n C.1.1 C.1.2.1 dL_refuses_233 rfl (lv_at hl 11 rfl) ?_
  refine fl_iconst C.1 dL_refuses_234 ?_
  refine lv_iload C.1.1 C.1.2.1 dL_refuses_235 (lv_at hl 0 rfl) ?_
  refine fl_iconst C.1 dL_refuses_237 ?_
  refine fl_iconst C.1 dL_refuses_238 ?_
  refine k_act hst C ⟨(Nat.le_of_ble_eq_true rfl), (Nat.le_of_ble_eq_true rfl)⟩ hI hl.1 (rgk 2 rfl) (rgk 2147483647 rfl) (rgk 0 rfl) (rgk 0 rfl) (rA_run (by omega)) (Nat.le_of_ble_eq_true rfl) ⟨(Nat.le_of_ble_eq_true rfl), (Nat.le_of_ble_eq_true rfl)⟩ dL_refuses_239 (fun H locs hI _ => ?_)
  refine fl_ldc (n := (-7000002)) C.1 aw_802 rfl dL_refuses_242 ?_
  refine fl_icmp_ne (tgt := 533) C.1 (rgk (-7000002) rfl) (rgk (-7000002) rfl) dL_refuses_244 (by decide) (fun h => absurd rfl h) (fun _ => ?_)
  refine lv_aload_n C.1.1 C.1.2.1 dL_refuses_247 rfl (lv_at hl 11 rfl) ?_
  refine fl_iconst C.1 dL_refuses_248 ?_
  refine fl_iconst C.1 dL_refuses_249 ?_
  refine lv_iload C.1.1 C.1.2.1 dL_refuses_250 (lv_at hl 6 rfl) ?_
  refine fl_iconst C.1 dL_refuses_252 ?_
  refine fl_icmp_ne (tgt := 261) C.1 (rgk 2 rfl) (rgk 1 rfl) dL_refuses_253 (by decide) (fun _ => ?_) (fun h => absurd h (by decide))
  refine lv_iload C.1.1 C.1.2.1 dL_refuses_261 (lv_at hl 5 rfl) ?_
  refine fl_iconst C.1 dL_refuses_263 ?_
  refine k_act hst C ⟨(Nat.le_of_ble_eq_true rfl), (Nat.le_of_ble_eq_true rfl)⟩ hI hl.1 (rgk 2 rfl) (rgk 1 rfl) (rgk 2147483647 rfl) (rgk 0 rfl) (rA_run (by omega)) (Nat.le_of_ble_eq_true rfl) ⟨(Nat.le_of_ble_eq_true rfl), (Nat.le_of_ble_eq_true rfl)⟩ dL_refuses_264 (fun H locs hI _ => ?_)
  refine fl_ldc (n := (-7000002)) C.1 aw_802 rfl dL_refuses_267 ?_
  refine fl_icmp_ne (tgt := 533) C.1 (rgk (-7000002) rfl) (rgk (-7000002) rfl) dL_refuses_269 (by decide) (fun h => absurd rfl h) (fun _ => ?_)
  refine lv_aload_n C.1.1 C.1.2.1 dL_refuses_272 rfl (lv_at hl 11 rfl) ?_
  refine fl_iconst C.1 dL_refuses_273 ?_
  refine lv_iload C.1.1 C.1.2.1 dL_refuses_274 (lv_at hl 0 rfl) ?_
  refine fl_iconst C.1 dL_refuses_276 ?_
  refine fl_iconst C.1 dL_refuses_277 ?_
  refine k_act hst C ⟨(Nat.le_of_ble_eq_true rfl), (Nat.le_of_ble_eq_true rfl)⟩ hI hl.1 (rgk 3 rfl) (rgk 2147483647 rfl) (rgk 0 rfl) (rgk 0 rfl) (rA_problem (by omega)) (Nat.le_of_ble_eq_true rfl) ⟨(Nat.le_of_ble_eq_true rfl), (Nat.le_of_ble_eq_true rfl)⟩ dL_refuses_278 (fun H locs hI _ => ?_)
  refine fl_ldc (n := (-7000002)) C.1 aw_802 rfl dL_refuses_281 ?_
  refine fl_icmp_ne (tgt := 533) C.1 (rgk (-7000002) rfl) (rgk (-7000002) rfl) dL_refuses_283 (by decide) (fun h => absurd rfl h) (fun _ => ?_)
  refine lv_aload_n C.1.1 C.1.2.1 dL_refuses_286 rfl (lv_at hl 11 rfl) ?_
  refine fl_iconst C.1 dL_refuses_287 ?_
  refine fl_iconst C.1 dL_refuses_288 ?_
  refine lv_iload C.1.1 C.1.2.1 dL_refuses_289 (lv_at hl 6 rfl) ?_
  refine fl_iconst C.1 dL_refuses_291 ?_
  refine fl_icmp_ne (tgt := 299) C.1 (rgk 2 rfl) (rgk 1 rfl) dL_refuses_292 (by decide) (fun _ => ?_) (fun h => absurd h (by decide))
  refine lv_iload C.1.1 C.1.2.1 dL_refuses_299 (lv_at hl 5 rfl) ?_
  refine fl_iconst C.1 dL_refuses_301 ?_
  refine k_act hst C ⟨(Nat.le_of_ble_eq_true rfl), (Nat.le_of_ble_eq_true rfl)⟩ hI hl.1 (rgk 3 rfl) (rgk 1 rfl) (rgk 2147483647 rfl) (rgk 0 rfl) (rA_problem (by omega)) (Nat.le_of_ble_eq_true rfl) ⟨(Nat.le_of_ble_eq_true rfl), (Nat.le_of_ble_eq_true rfl)⟩ dL_refuses_302 (fun H locs hI _ => ?_)
  refine fl_ldc (n := (-7000002)) C.1 aw_802 rfl dL_refuses_305 ?_
  refine fl_icmp_ne (tgt := 533) C.1 (rgk (-7000002) rfl) (rgk (-7000002) rfl) dL_refuses_307 (by decide) (fun h => absurd rfl h) (fun _ => ?_)
  refine lv_aload_n C.1.1 C.1.2.1 dL_refuses_310 rfl (lv_at hl 11 rfl) ?_
  refine fl_iconst C.1 dL_refuses_311 ?_
  refine lv_iload C.1.1 C.1.2.1 dL_refuses_312 (lv_at hl 4 rfl) ?_
  refine fl_iconst C.1 dL_refuses_314 ?_
  refine fl_iconst C.1 dL_refuses_315 ?_
  refine k_act hst C ⟨(Nat.le_of_ble_eq_true rfl), (Nat.le_of_ble_eq_true rfl)⟩ hI hl.1 (rgk 4 rfl) (rgk 2147483647 rfl) (rgk 0 rfl) (rgk 0 rfl) (rA_test (by omega)) (Nat.le_of_ble_eq_true rfl) ⟨(Nat.le_of_ble_eq_true rfl), (Nat.le_of_ble_eq_true rfl)⟩ dL_refuses_316 (fun H locs hI _ => ?_)
  refine fl_ldc (n := (-7000001)) C.1 aw_801 rfl dL_refuses_319 ?_
  refine fl_icmp_ne (tgt := 533) C.1 (rgk (-7000001) rfl) (rgk (-7000001) rfl) dL_refuses_321 (by decide) (fun h => absurd rfl h) (fun _ => ?_)
  refine lv_aload_n C.1.1 C.1.2.1 dL_refuses_324 rfl (lv_at hl 11 rfl) ?_
  refine fl_iconst C.1 dL_refuses_325 ?_
  refine fl_iconst C.1 dL_refuses_326 ?_
  refine lv_iload C.1.1 C.1.2.1 dL_refuses_327 (lv_at hl 1 rfl) ?_
  refine fl_iconst C.1 dL_refuses_329 ?_
  refine k_act hst C ⟨(Nat.le_of_ble_eq_true rfl), (Nat.le_of_ble_eq_true rfl)⟩ hI hl.1 (rgk 4 rfl) (rgk 0 rfl) (rgk 2147483647 rfl) (rgk 0 rfl) (rA_test (by omega)) (Nat.le_of_ble_eq_true rfl) ⟨(Nat.le_of_ble_eq_true rfl), (Nat.le_of_ble_eq_true rfl)⟩ dL_refuses_330 (fun H locs hI _ => ?_)
  refine fl_ldc (n := (-7000001)) C.1 aw_801 rfl dL_refuses_333 ?_
  refine fl_icmp_ne (tgt := 533) C.1 (rgk (-7000001) rfl) (rgk (-7000001) rfl) dL_refuses_335 (by decide) (fun h => absurd rfl h) (fun _ => ?_)
  refine lv_aload_n C.1.1 C.1.2.1 dL_refuses_338 rfl (lv_at hl 11 rfl) ?_
  refine fl_iconst C.1 dL_refuses_339 ?_
  refine lv_iload C.1.1 C.1.2.1 dL_refuses_340 (lv_at hl 4 rfl) ?_
  refine fl_iconst C.1 dL_refuses_342 ?_
  refine fl_sipush C.1 dL_refuses_343 (by decide) ?_
  refine k_act hst C ⟨(Nat.le_of_ble_eq_true rfl), (Nat.le_of_ble_eq_true rfl)⟩ hI hl.1 (rgk 5 rfl) (rgk 2147483647 rfl) (rgk 0 rfl) (rgk 999 rfl) (rA_points (by omega)) (Nat.le_of_ble_eq_true rfl) ⟨(Nat.le_of_ble_eq_true rfl), (Nat.le_of_ble_eq_true rfl)⟩ dL_refuses_346 (fun H locs hI _ => ?_)
  refine fl_ldc (n := (-7000001)) C.1 aw_801 rfl dL_refuses_349 ?_
  refine fl_icmp_ne (tgt := 533) C.1 (rgk (-7000001) rfl) (rgk (-7000001) rfl) dL_refuses_351 (by decide) (fun h => absurd rfl h) (fun _ => ?_)
  refine lv_aload_n C.1.1 C.1.2.1 dL_refuses_354 rfl (lv_at hl 11 rfl) ?_
  refine fl_iconst C.1 dL_refuses_355 ?_
  refine fl_iconst C.1 dL_refuses_356 ?_
  refine lv_iload C.1.1 C.1.2.1 dL_refuses_357 (lv_at hl 1 rfl) ?_
  refine fl_sipush C.1 dL_refuses_359 (by decide) ?_
  refine k_act hst C ⟨(Nat.le_of_ble_eq_true rfl), (Nat.le_of_ble_eq_true rfl)⟩ hI hl.1 (rgk 5 rfl) (rgk 0 rfl) (rgk 2147483647 rfl) (rgk 999 rfl) (rA_points (by omega)) (Nat.le_of_ble_eq_true rfl) ⟨(Nat.le_of_ble_eq_true rfl), (Nat.le_of_ble_eq_true rfl)⟩ dL_refuses_362 (fun H locs hI _ => ?_)
  refine fl_ldc (n := (-7000001)) C.1 aw_801 rfl dL_refuses_365 ?_
  refine fl_icmp_ne (tgt := 533) C.1 (rgk (-7000001) rfl) (rgk (-7000001) rfl) dL_refuses_367 (by decide) (fun h => absurd rfl h) (fun _ => ?_)
  refine lv_aload_n C.1.1 C.1.2.1 dL_refuses_370 rfl (lv_at hl 11 rfl) ?_
  refine fl_bipush C.1 dL_refuses_371 (by decide) ?_
  refine lv_iload C.1.1 C.1.2.1 dL_refuses_373 (lv_at hl 4 rfl) ?_
  refine fl_bipush C.1 dL_refuses_375 (by decide) ?_
  refine fl_iconst C.1 dL_refuses_377 ?_
  refine k_act hst C ⟨(Nat.le_of_ble_eq_true rfl), (Nat.le_of_ble_eq_true rfl)⟩ hI hl.1 (rgk 6 rfl) (rgk 2147483647 rfl) (rgk 9 rfl) (rgk 0 rfl) (rA_mend (by omega)) (Nat.le_of_ble_eq_true rfl) ⟨(Nat.le_of_ble_eq_true rfl), (Nat.le_of_ble_eq_true rfl)⟩ dL_refuses_378 (fun H locs hI _ => ?_)
  refine fl_ldc (n := (-7000001)) C.1 aw_801 rfl dL_refuses_381 ?_
  refine fl_icmp_ne (tgt := 533) C.1 (rgk (-7000001) rfl) (rgk (-7000001) rfl) dL_refuses_383 (by decide) (fun h => absurd rfl h) (fun _ => ?_)
  refine lv_aload_n C.1.1 C.1.2.1 dL_refuses_386 rfl (lv_at hl 11 rfl) ?_
  refine fl_bipush C.1 dL_refuses_387 (by decide) ?_
  refine lv_iload C.1.1 C.1.2.1 dL_refuses_389 (lv_at hl 4 rfl) ?_
  refine fl_iconst C.1 dL_refuses_391 ?_
  refine fl_iconst C.1 dL_refuses_392 ?_
  refine k_act hst C ⟨(Nat.le_of_ble_eq_true rfl), (Nat.le_of_ble_eq_true rfl)⟩ hI hl.1 (rgk 7 rfl) (rgk 2147483647 rfl) (rgk 0 rfl) (rgk 0 rfl) (rA_answer hok (by omega)) (Nat.le_of_ble_eq_true rfl) ⟨(Nat.le_of_ble_eq_true rfl), (Nat.le_of_ble_eq_true rfl)⟩ dL_refuses_393 (fun H locs hI _ => ?_)
  refine fl_ldc (n := (-7000001)) C.1 aw_801 rfl dL_refuses_396 ?_
  refine fl_icmp_ne (tgt := 533) C.1 (rgk (-7000001) rfl) (rgk (-7000001) rfl) dL_refuses_398 (by decide) (fun h => absurd rfl h) (fun _ => ?_)
  refine lv_aload_n C.1.1 C.1.2.1 dL_refuses_401 rfl (lv_at hl 11 rfl) ?_
  refine fl_bipush C.1 dL_refuses_402 (by decide) ?_
  refine fl_iconst C.1 dL_refuses_404 ?_
  refine lv_iload C.1.1 C.1.2.1 dL_refuses_405 (lv_at hl 6 rfl) ?_
  refine fl_iconst C.1 dL_refuses_407 ?_
  refine fl_icmp_ne (tgt := 416) C.1 (rgk 2 rfl) (rgk 1 rfl) dL_refuses_408 (by decide) (fun _ => ?_) (fun h => absurd h (by decide))
  refine lv_iload C.1.1 C.1.2.1 dL_refuses_416 (lv_at hl 5 rfl) ?_
  refine fl_iconst C.1 dL_refuses_418 ?_
  refine k_act hst C ⟨(Nat.le_of_ble_eq_true rfl), (Nat.le_of_ble_eq_true rfl)⟩ hI hl.1 (rgk 7 rfl) (rgk 0 rfl) (rgk 2147483647 rfl) (rgk 0 rfl) (rA_answer hok (by omega)) (Nat.le_of_ble_eq_true rfl) ⟨(Nat.le_of_ble_eq_true rfl), (Nat.le_of_ble_eq_true rfl)⟩ dL_refuses_419 (fun H locs hI _ => ?_)
  refine fl_ldc (n := (-7000001)) C.1 aw_801 rfl dL_refuses_422 ?_
  refine fl_icmp_ne (tgt := 533) C.1 (rgk (-7000001) rfl) (rgk (-7000001) rfl) dL_refuses_424 (by decide) (fun h => absurd rfl h) (fun _ => ?_)
  refine lv_aload_n C.1.1 C.1.2.1 dL_refuses_427 rfl (lv_at hl 11 rfl) ?_
  refine fl_bipush C.1 dL_refuses_428 (by decide) ?_
  refine fl_iconst C.1 dL_refuses_430 ?_
  refine fl_iconst C.1 dL_refuses_431 ?_
  refine lv_iload C.1.1 C.1.2.1 dL_refuses_432 (lv_at hl 6 rfl) ?_
  refine fl_iconst C.1 dL_refuses_434 ?_
  refine fl_icmp_ne (tgt := 443) C.1 (rgk 2 rfl) (rgk 1 rfl) dL_refuses_435 (by decide) (fun _ => ?_) (fun h => absurd h (by decide))
  refine lv_iload C.1.1 C.1.2.1 dL_refuses_443 (lv_at hl 6 rfl) ?_
  refine fl_iconst C.1 dL_refuses_445 ?_
  refine fl_icmp_ne (tgt := 453) C.1 (rgk 2 rfl) (rgk 2 rfl) dL_refuses_446 (by decide) (fun h => absurd rfl h) (fun _ => ?_)
  refine fl_iconst C.1 dL_refuses_449 ?_
  refine fl_goto (tgt := 455) C.1 dL_refuses_450 (by decide) ?_
  refine k_act hst C ⟨(Nat.le_of_ble_eq_true rfl), (Nat.le_of_ble_eq_true rfl)⟩ hI hl.1 (rgk 7 rfl) (rgk 0 rfl) (rgk 0 rfl) (rgk (-1) rfl) (rA_answer hok (by omega)) (Nat.le_of_ble_eq_true rfl) ⟨(Nat.le_of_ble_eq_true rfl), (Nat.le_of_ble_eq_true rfl)⟩ dL_refuses_455 (fun H locs hI _ => ?_)
  refine fl_ldc (n := (-7000001)) C.1 aw_801 rfl dL_refuses_458 ?_
  refine fl_icmp_ne (tgt := 533) C.1 (rgk (-7000001) rfl) (rgk (-7000001) rfl) dL_refuses_460 (by decide) (fun h => absurd rfl h) (fun _ => ?_)
  refine lv_aload_n C.1.1 C.1.2.1 dL_refuses_463 rfl (lv_at hl 11 rfl) ?_
  refine fl_bipush C.1 dL_refuses_464 (by decide) ?_
  refine lv_iload C.1.1 C.1.2.1 dL_refuses_466 (lv_at hl 2 rfl) ?_
  refine fl_iconst C.1 dL_refuses_468 ?_
  refine fl_iconst C.1 dL_refuses_469 ?_
  refine k_act hst C ⟨(Nat.le_of_ble_eq_true rfl), (Nat.le_of_ble_eq_true rfl)⟩ hI hl.1 (rgk 8 rfl) (rgk 2147483647 rfl) (rgk 0 rfl) (rgk 0 rfl) (rA_enter (by omega)) (Nat.le_of_ble_eq_true rfl) ⟨(Nat.le_of_ble_eq_true rfl), (Nat.le_of_ble_eq_true rfl)⟩ dL_refuses_470 (fun H locs hI _ => ?_)
  refine fl_ldc (n := (-7000001)) C.1 aw_801 rfl dL_refuses_473 ?_
  refine fl_icmp_ne (tgt := 533) C.1 (rgk (-7000001) rfl) (rgk (-7000001) rfl) dL_refuses_475 (by decide) (fun h => absurd rfl h) (fun _ => ?_)
  refine lv_aload_n C.1.1 C.1.2.1 dL_refuses_478 rfl (lv_at hl 11 rfl) ?_
  refine fl_bipush C.1 dL_refuses_479 (by decide) ?_
  refine fl_iconst C.1 dL_refuses_481 ?_
  refine lv_iload C.1.1 C.1.2.1 dL_refuses_482 (lv_at hl 4 rfl) ?_
  refine fl_iconst C.1 dL_refuses_484 ?_
  refine k_act hst C ⟨(Nat.le_of_ble_eq_true rfl), (Nat.le_of_ble_eq_true rfl)⟩ hI hl.1 (rgk 8 rfl) (rgk 0 rfl) (rgk 2147483647 rfl) (rgk 0 rfl) (rA_enter (by omega)) (Nat.le_of_ble_eq_true rfl) ⟨(Nat.le_of_ble_eq_true rfl), (Nat.le_of_ble_eq_true rfl)⟩ dL_refuses_485 (fun H locs hI _ => ?_)
  refine fl_ldc (n := (-7000001)) C.1 aw_801 rfl dL_refuses_488 ?_
  refine fl_icmp_ne (tgt := 533) C.1 (rgk (-7000001) rfl) (rgk (-7000001) rfl) dL_refuses_490 (by decide) (fun h => absurd rfl h) (fun _ => ?_)
  refine lv_aload_n C.1.1 C.1.2.1 dL_refuses_493 rfl (lv_at hl 11 rfl) ?_
  refine fl_bipush C.1 dL_refuses_494 (by decide) ?_
  refine lv_iload C.1.1 C.1.2.1 dL_refuses_496 (lv_at hl 6 rfl) ?_
  refine fl_if_ne (tgt := 505) C.1 (rgk 2 rfl) dL_refuses_498 (by decide) (fun _ => ?_) (fun h => absurd h (by decide))
  refine lv_iload C.1.1 C.1.2.1 dL_refuses_505 (lv_at hl 6 rfl) ?_
  refine fl_iconst C.1 dL_refuses_507 ?_
  refine fl_icmp_ne (tgt := 517) C.1 (rgk 2 rfl) (rgk 1 rfl) dL_refuses_508 (by decide) (fun _ => ?_) (fun h => absurd h (by decide))
  refine lv_iload C.1.1 C.1.2.1 dL_refuses_517 (lv_at hl 5 rfl) ?_
  refine fl_iconst C.1 dL_refuses_519 ?_
  refine fl_iconst C.1 dL_refuses_520 ?_
  refine k_act hst C ⟨(Nat.le_of_ble_eq_true rfl), (Nat.le_of_ble_eq_true rfl)⟩ hI hl.1 (rgk 9 rfl) (rgk 2147483647 rfl) (rgk 0 rfl) (rgk 0 rfl) (rA_pass (by omega)) (Nat.le_of_ble_eq_true rfl) ⟨(Nat.le_of_ble_eq_true rfl), (Nat.le_of_ble_eq_true rfl)⟩ dL_refuses_521 (fun H locs hI _ => ?_)
  refine fl_ldc (n := (-7000002)) C.1 aw_802 rfl dL_refuses_524 ?_
  refine fl_icmp_ne (tgt := 533) C.1 (rgk (-7000002) rfl) (rgk (-7000002) rfl) dL_refuses_526 (by decide) (fun h => absurd rfl h) (fun _ => ?_)
  refine fl_iconst C.1 dL_refuses_529 ?_
  refine fl_goto (tgt := 534) C.1 dL_refuses_530 (by decide) ?_
  refine lv_istore (lv' := [(13, iv 1), (12, iv 2147483647), (11, iv 2147483647), (10, iv 2147483647), (9, iv 2147483647), (8, iv 2147483647), (7, iv 2147483647), (6, iv 2), (5, iv ((callRun S 500 1).2.1)), (4, iv ((boardS S 3 1 0).2.1)), (3, iv 2147483647), (0, .ref x), (1, iv pp), (2, iv qq)]) C.1.1 C.1.2.1 dL_refuses_534 hl (by decide) rfl (fun ls hl => ?_)
  exact W.widen (Nat.le_of_ble_eq_true rfl) (Nat.le_of_ble_eq_true rfl) (kk H locs ls hI hl)
set_option maxRecDepth 100000 in
set_option maxHeartbeats 4000000 in
theorem w_ref_2_1 (hst : l.stackTraces = false) (C : LC p s m meth c D cy B cL_refuses 14) (rp : rg pp) (rq : rg qq) (hp : pp = (S.np : Int)) (hq : qq = (S.ne : Int)) (rbv : rg (boardS S 3 1 0).2.1) (rsv : rg (callRun S 500 1).2.1) (kk : ∀ (H : Heap) (locs : List Loc) (ls : Array Slot), HI D cy B s.heap H locs x S → lv_has ls 14 [(13, iv 1), (12, iv 2147483647), (11, iv 2147483647), (10, iv 2147483647), (9, iv 2147483647), (8, iv 2147483647), (7, iv 2147483647), (6, iv 2), (5, iv ((callRun S 500 1).2.1)), (4, iv ((boardS S 3 1 0).2.1)), (3, iv 2147483647), (0, .ref x), (1, iv pp), (2, iv qq)] → W p l e rm_L_refuses s m args below meth c H locs 814 185514 Q (F0 m 737 ls [])) : ∀ (H : Heap) (locs : List Loc) (ls : Array Slot), HI D cy B s.heap H locs x S → lv_has ls 14 [(13, iv 1), (12, iv 2147483647), (11, iv 2147483647), (10, iv 2147483647), (9, iv 2147483647), (8, iv 2147483647), (7, iv 2147483647), (6, iv 2), (5, iv ((callRun S 500 1).2.1)), (4, iv ((boardS S 3 1 0).2.1)), (3, iv 2147483647), (0, .ref x), (1, iv pp), (2, iv qq)] → W p l e rm_L_refuses s m args below meth c H locs 724 164904 Q (F0 m 536 ls []) := by
  intro H locs ls hI hl
  have hok := hI.ok
  have hn6 := hok.2.2.1
  have hn60 := hok.2.2.2.2.1
  refine lv_iload C.1.1 C.1.2.1 dL_refuses_536 (lv_at hl 0 rfl) ?_
  refine fl_if_eq (tgt := 729) C.1 (rgk 1 rfl) dL_refuses_538 (by decide) (fun h => absurd h (by decide)) (fun _ => ?_)
  refine lv_aload_n C.1.1 C.1.2.1 dL_refuses_541 rfl (lv_at hl 11 rfl) ?_
  refine fl_bipush C.1 dL_refuses_542 (by decide) ?_
  refine lv_iload C.1.1 C.1.2.1 dL_refuses_544 (lv_at hl 5 rfl) ?_
  refine fl_iconst C.1 dL_refuses_546 ?_
  refine fl_iconst C.1 dL_refuses_547 ?_
  refine k_act hst C ⟨(Nat.le_of_ble_eq_true rfl), (Nat.le_of_ble_eq_true rfl)⟩ hI hl.1 (rgk 10 rfl) (rgk 2147483647 rfl) (rgk 0 rfl) (rgk 0 rfl) (rA_rejudge (by omega)) (Nat.le_of_ble_eq_true rfl) ⟨(Nat.le_of_ble_eq_true rfl), (Nat.le_of_ble_eq_true rfl)⟩ dL_refuses_548 (fun H locs hI _ => ?_)
  refine fl_ldc (n := (-7000001)) C.1 aw_801 rfl dL_refuses_551 ?_
  refine fl_icmp_ne (tgt := 729) C.1 (rgk (-7000001) rfl) (rgk (-7000001) rfl) dL_refuses_553 (by decide) (fun h => absurd rfl h) (fun _ => ?_)
  refine lv_aload_n C.1.1 C.1.2.1 dL_refuses_556 rfl (lv_at hl 11 rfl) ?_
  refine fl_bipush C.1 dL_refuses_557 (by decide) ?_
  refine lv_iload C.1.1 C.1.2.1 dL_refuses_559 (lv_at hl 4 rfl) ?_
  refine fl_bipush C.1 dL_refuses_561 (by decide) ?_
  refine fl_iconst C.1 dL_refuses_563 ?_
  refine k_act hst C ⟨(Nat.le_of_ble_eq_true rfl), (Nat.le_of_ble_eq_true rfl)⟩ hI hl.1 (rgk 11 rfl) (rgk 2147483647 rfl) (rgk 9 rfl) (rgk 0 rfl) (rA_entry (by omega)) (Nat.le_of_ble_eq_true rfl) ⟨(Nat.le_of_ble_eq_true rfl), (Nat.le_of_ble_eq_true rfl)⟩ dL_refuses_564 (fun H locs hI _ => ?_)
  refine fl_ldc (n := (-7000001)) C.1 aw_801 rfl dL_refuses_567 ?_
  refine fl_icmp_ne (tgt := 729) C.1 (rgk (-7000001) rfl) (rgk (-7000001) rfl) dL_refuses_569 (by decide) (fun h => absurd rfl h) (fun _ => ?_)
  refine lv_aload_n C.1.1 C.1.2.1 dL_refuses_572 rfl (lv_at hl 11 rfl) ?_
  refine fl_bipush C.1 dL_refuses_573 (by decide) ?_
  refine lv_iload C.1.1 C.1.2.1 dL_refuses_575 (lv_at hl 4 rfl) ?_
  refine fl_iconst C.1 dL_refuses_577 ?_
  refine fl_iconst C.1 dL_refuses_578 ?_
  refine k_act hst C ⟨(Nat.le_of_ble_eq_true rfl), (Nat.le_of_ble_eq_true rfl)⟩ hI hl.1 (rgk 12 rfl) (rgk 2147483647 rfl) (rgk 0 rfl) (rgk 0 rfl) (rA_likeness (by omega)) (Nat.le_of_ble_eq_true rfl) ⟨(Nat.le_of_ble_eq_true rfl), (Nat.le_of_ble_eq_true rfl)⟩ dL_refuses_579 (fun H locs hI _ => ?_)
  refine fl_ldc (n := (-7000001)) C.1 aw_801 rfl dL_refuses_582 ?_
  refine fl_icmp_ne (tgt := 729) C.1 (rgk (-7000001) rfl) (rgk (-7000001) rfl) dL_refuses_584 (by decide) (fun h => absurd rfl h) (fun _ => ?_)
  refine lv_aload_n C.1.1 C.1.2.1 dL_refuses_587 rfl (lv_at hl 11 rfl) ?_
  refine fl_bipush C.1 dL_refuses_588 (by decide) ?_
  refine fl_iconst C.1 dL_refuses_590 ?_
  refine lv_iload C.1.1 C.1.2.1 dL_refuses_591 (lv_at hl 4 rfl) ?_
  refine fl_iconst C.1 dL_refuses_593 ?_
  refine k_act hst C ⟨(Nat.le_of_ble_eq_true rfl), (Nat.le_of_ble_eq_true rfl)⟩ hI hl.1 (rgk 12 rfl) (rgk 0 rfl) (rgk 2147483647 rfl) (rgk 0 rfl) (rA_likeness (by omega)) (Nat.le_of_ble_eq_true rfl) ⟨(Nat.le_of_ble_eq_true rfl), (Nat.le_of_ble_eq_true rfl)⟩ dL_refuses_594 (fun H locs hI _ => ?_)
  refine fl_ldc (n := (-7000001)) C.1 aw_801 rfl dL_refuses_597 ?_
  refine fl_icmp_ne (tgt := 729) C.1 (rgk (-7000001) rfl) (rgk (-7000001) rfl) dL_refuses_599 (by decide) (fun h => absurd rfl h) (fun _ => ?_)
  refine lv_aload_n C.1.1 C.1.2.1 dL_refuses_602 rfl (lv_at hl 11 rfl) ?_
  refine fl_bipush C.1 dL_refuses_603 (by decide) ?_
  refine lv_iload C.1.1 C.1.2.1 dL_refuses_605 (lv_at hl 7 rfl) ?_
  refine fl_if_ne (tgt := 615) C.1 (rgk 2 rfl) dL_refuses_607 (by decide) (fun _ => ?_) (fun h => absurd h (by decide))
  refine lv_iload C.1.1 C.1.2.1 dL_refuses_615 (lv_at hl 7 rfl) ?_
  refine fl_iconst C.1 dL_refuses_617 ?_
  refine fl_icmp_ne (tgt := 627) C.1 (rgk 2 rfl) (rgk 1 rfl) dL_refuses_618 (by decide) (fun _ => ?_) (fun h => absurd h (by decide))
  refine lv_iload C.1.1 C.1.2.1 dL_refuses_627 (lv_at hl 6 rfl) ?_
  refine fl_iconst C.1 dL_refuses_629 ?_
  refine fl_iconst C.1 dL_refuses_630 ?_
  refine k_act hst C ⟨(Nat.le_of_ble_eq_true rfl), (Nat.le_of_ble_eq_true rfl)⟩ hI hl.1 (rgk 13 rfl) (rgk 2147483647 rfl) (rgk 0 rfl) (rgk 0 rfl) (rA_freeze (by omega)) (Nat.le_of_ble_eq_true rfl) ⟨(Nat.le_of_ble_eq_true rfl), (Nat.le_of_ble_eq_true rfl)⟩ dL_refuses_631 (fun H locs hI _ => ?_)
  refine fl_ldc (n := (-7000002)) C.1 aw_802 rfl dL_refuses_634 ?_
  refine fl_icmp_ne (tgt := 729) C.1 (rgk (-7000002) rfl) (rgk (-7000002) rfl) dL_refuses_636 (by decide) (fun h => absurd rfl h) (fun _ => ?_)
  refine lv_aload_n C.1.1 C.1.2.1 dL_refuses_639 rfl (lv_at hl 11 rfl) ?_
  refine fl_bipush C.1 dL_refuses_640 (by decide) ?_
  refine lv_iload C.1.1 C.1.2.1 dL_refuses_642 (lv_at hl 3 rfl) ?_
  refine fl_iconst C.1 dL_refuses_644 ?_
  refine fl_bipush C.1 dL_refuses_645 (by decide) ?_
  refine k_act hst C ⟨(Nat.le_of_ble_eq_true rfl), (Nat.le_of_ble_eq_true rfl)⟩ hI hl.1 (rgk 14 rfl) (rgk 2147483647 rfl) (rgk 0 rfl) (rgk 9 rfl) (rA_board (by omega)) (Nat.le_of_ble_eq_true rfl) ⟨(Nat.le_of_ble_eq_true rfl), (Nat.le_of_ble_eq_true rfl)⟩ dL_refuses_647 (fun H locs hI _ => ?_)
  refine fl_ldc (n := (-7000001)) C.1 aw_801 rfl dL_refuses_650 ?_
  refine fl_icmp_ne (tgt := 729) C.1 (rgk (-7000001) rfl) (rgk (-7000001) rfl) dL_refuses_652 (by decide) (fun h => absurd rfl h) (fun _ => ?_)
  refine lv_aload_n C.1.1 C.1.2.1 dL_refuses_655 rfl (lv_at hl 11 rfl) ?_
  refine fl_bipush C.1 dL_refuses_656 (by decide) ?_
  refine fl_iconst C.1 dL_refuses_658 ?_
  refine fl_iconst C.1 dL_refuses_659 ?_
  refine lv_iload C.1.1 C.1.2.1 dL_refuses_660 (lv_at hl 7 rfl) ?_
  refine fl_iconst C.1 dL_refuses_662 ?_
  refine fl_icmp_ne (tgt := 670) C.1 (rgk 2 rfl) (rgk 1 rfl) dL_refuses_663 (by decide) (fun _ => ?_) (fun h => absurd h (by decide))
  refine lv_iload C.1.1 C.1.2.1 dL_refuses_670 (lv_at hl 6 rfl) ?_
  refine k_act hst C ⟨(Nat.le_of_ble_eq_true rfl), (Nat.le_of_ble_eq_true rfl)⟩ hI hl.1 (rgk 14 rfl) (rgk 0 rfl) (rgk 0 rfl) (rgk 2147483647 rfl) (rA_board2 (by omega)) (Nat.le_of_ble_eq_true rfl) ⟨(Nat.le_of_ble_eq_true rfl), (Nat.le_of_ble_eq_true rfl)⟩ dL_refuses_672 (fun H locs hI _ => ?_)
  refine fl_ldc (n := (-7000002)) C.1 aw_802 rfl dL_refuses_675 ?_
  refine fl_icmp_ne (tgt := 729) C.1 (rgk (-7000002) rfl) (rgk (-7000002) rfl) dL_refuses_677 (by decide) (fun h => absurd rfl h) (fun _ => ?_)
  refine lv_aload_n C.1.1 C.1.2.1 dL_refuses_680 rfl (lv_at hl 11 rfl) ?_
  refine fl_bipush C.1 dL_refuses_681 (by decide) ?_
  refine lv_iload C.1.1 C.1.2.1 dL_refuses_683 (lv_at hl 3 rfl) ?_
  refine fl_iconst C.1 dL_refuses_685 ?_
  refine fl_iconst C.1 dL_refuses_686 ?_
  refine k_act hst C ⟨(Nat.le_of_ble_eq_true rfl), (Nat.le_of_ble_eq_true rfl)⟩ hI hl.1 (rgk 15 rfl) (rgk 2147483647 rfl) (rgk 0 rfl) (rgk 0 rfl) (rA_placeAnew (by omega)) (Nat.le_of_ble_eq_true rfl) ⟨(Nat.le_of_ble_eq_true rfl), (Nat.le_of_ble_eq_true rfl)⟩ dL_refuses_687 (fun H locs hI _ => ?_)
  refine fl_ldc (n := (-7000001)) C.1 aw_801 rfl dL_refuses_690 ?_
  refine fl_icmp_ne (tgt := 729) C.1 (rgk (-7000001) rfl) (rgk (-7000001) rfl) dL_refuses_692 (by decide) (fun h => absurd rfl h) (fun _ => ?_)
  refine lv_aload_n C.1.1 C.1.2.1 dL_refuses_695 rfl (lv_at hl 11 rfl) ?_
  refine fl_bipush C.1 dL_refuses_696 (by decide) ?_
  refine lv_iload C.1.1 C.1.2.1 dL_refuses_698 (lv_at hl 3 rfl) ?_
  refine fl_iconst C.1 dL_refuses_700 ?_
  refine fl_iconst C.1 dL_refuses_701 ?_
  refine k_act hst C ⟨(Nat.le_of_ble_eq_true rfl), (Nat.le_of_ble_eq_true rfl)⟩ hI hl.1 (rgk 16 rfl) (rgk 2147483647 rfl) (rgk 0 rfl) (rgk 0 rfl) (rA_hack (by omega)) (Nat.le_of_ble_eq_true rfl) ⟨(Nat.le_of_ble_eq_true rfl), (Nat.le_of_ble_eq_true rfl)⟩ dL_refuses_702 (fun H locs hI _ => ?_)
  refine fl_ldc (n := (-7000001)) C.1 aw_801 rfl dL_refuses_705 ?_
  refine fl_icmp_ne (tgt := 729) C.1 (rgk (-7000001) rfl) (rgk (-7000001) rfl) dL_refuses_707 (by decide) (fun h => absurd rfl h) (fun _ => ?_)
  refine lv_aload_n C.1.1 C.1.2.1 dL_refuses_710 rfl (lv_at hl 11 rfl) ?_
  refine fl_bipush C.1 dL_refuses_711 (by decide) ?_
  refine fl_iconst C.1 dL_refuses_713 ?_
  refine lv_iload C.1.1 C.1.2.1 dL_refuses_714 (lv_at hl 4 rfl) ?_
  refine fl_iconst C.1 dL_refuses_716 ?_
  refine k_act hst C ⟨(Nat.le_of_ble_eq_true rfl), (Nat.le_of_ble_eq_true rfl)⟩ hI hl.1 (rgk 16 rfl) (rgk 0 rfl) (rgk 2147483647 rfl) (rgk 0 rfl) (rA_hack (by omega)) (Nat.le_of_ble_eq_true rfl) ⟨(Nat.le_of_ble_eq_true rfl), (Nat.le_of_ble_eq_true rfl)⟩ dL_refuses_717 (fun H locs hI _ => ?_)
  refine fl_ldc (n := (-7000001)) C.1 aw_801 rfl dL_refuses_720 ?_
  refine fl_icmp_ne (tgt := 729) C.1 (rgk (-7000001) rfl) (rgk (-7000001) rfl) dL_refuses_722 (by decide) (fun h => absurd rfl h) (fun _ => ?_)
  refine fl_iconst C.1 dL_refuses_725 ?_
  refine fl_goto (tgt := 730) C.1 dL_refuses_726 (by decide) ?_
  refine lv_istore (lv' := [(13, iv 1), (12, iv 2147483647), (11, iv 2147483647), (10, iv 2147483647), (9, iv 2147483647), (8, iv 2147483647), (7, iv 2147483647), (6, iv 2), (5, iv ((callRun S 500 1).2.1)), (4, iv ((boardS S 3 1 0).2.1)), (3, iv 2147483647), (0, .ref x), (1, iv pp), (2, iv qq)]) C.1.1 C.1.2.1 dL_refuses_730 hl (by decide) rfl (fun ls hl => ?_)
  refine lv_iload C.1.1 C.1.2.1 dL_refuses_732 (lv_at hl 0 rfl) ?_
  refine fl_if_eq (tgt := 825) C.1 (rgk 1 rfl) dL_refuses_734 (by decide) (fun h => absurd h (by decide)) (fun _ => ?_)
  exact W.widen (Nat.le_of_ble_eq_true rfl) (Nat.le_of_ble_eq_true rfl) (kk H locs ls hI hl)
set_option maxRecDepth 100000 in
set_option maxHeartbeats 4000000 in
theorem w_ref_2_2 (hst : l.stackTraces = false) (C : LC p s m meth c D cy B cL_refuses 14) (rp : rg pp) (rq : rg qq) (hp : pp = (S.np : Int)) (hq : qq = (S.ne : Int)) (rbv : rg (boardS S 3 1 0).2.1) (rsv : rg (callRun S 500 1).2.1) (kk : ∀ (H : Heap) (locs : List Loc) (ls : Array Slot), HI D cy B s.heap H locs x S → lv_has ls 14 [(13, iv 1), (12, iv 2147483647), (11, iv 2147483647), (10, iv 2147483647), (9, iv 2147483647), (8, iv 2147483647), (7, iv 2147483647), (6, iv 2), (5, iv ((callRun S 500 1).2.1)), (4, iv ((boardS S 3 1 0).2.1)), (3, iv 2147483647), (0, .ref x), (1, iv pp), (2, iv qq)] → W p l e rm_L_refuses s m args below meth c H locs 832 189636 Q (F0 m 791 ls [])) : ∀ (H : Heap) (locs : List Loc) (ls : Array Slot), HI D cy B s.heap H locs x S → lv_has ls 14 [(13, iv 1), (12, iv 2147483647), (11, iv 2147483647), (10, iv 2147483647), (9, iv 2147483647), (8, iv 2147483647), (7, iv 2147483647), (6, iv 2), (5, iv ((callRun S 500 1).2.1)), (4, iv ((boardS S 3 1 0).2.1)), (3, iv 2147483647), (0, .ref x), (1, iv pp), (2, iv qq)] → W p l e rm_L_refuses s m args below meth c H locs 814 185514 Q (F0 m 737 ls []) := by
  intro H locs ls hI hl
  have hok := hI.ok
  have hn6 := hok.2.2.1
  have hn60 := hok.2.2.2.2.1
  refine lv_iload_n C.1.1 C.1.2.1 dL_refuses_737 rfl (lv_at hl 12 rfl) ?_
  refine fl_if_eq (tgt := 791) C.1 rp dL_refuses_738 (by decide) (fun _ => W.widen (Nat.le_of_ble_eq_true rfl) (Nat.le_of_ble_eq_true rfl) (kk H locs ls hI (lv_sub hl [0, 1, 2, 3, 4, 5, 6, 7, 8, 9, 10, 11, 12, 13] rfl))) (fun hz => ?_)
  refine lv_aload_n C.1.1 C.1.2.1 dL_refuses_741 rfl (lv_at hl 11 rfl) ?_
  refine fl_iconst C.1 dL_refuses_742 ?_
  refine fl_iconst C.1 dL_refuses_743 ?_
  refine fl_iconst C.1 dL_refuses_744 ?_
  refine lv_iload C.1.1 C.1.2.1 dL_refuses_745 (lv_at hl 7 rfl) ?_
  refine fl_iconst C.1 dL_refuses_747 ?_
  refine fl_icmp_ne (tgt := 756) C.1 (rgk 2 rfl) (rgk 1 rfl) dL_refuses_748 (by decide) (fun _ => ?_) (fun h => absurd h (by decide))
  refine lv_iload C.1.1 C.1.2.1 dL_refuses_756 (lv_at hl 6 rfl) ?_
  refine k_act hst C ⟨(Nat.le_of_ble_eq_true rfl), (Nat.le_of_ble_eq_true rfl)⟩ hI hl.1 (rgk 5 rfl) (rgk 0 rfl) (rgk 0 rfl) (rgk 2147483647 rfl) (rA_points2 (by omega)) (Nat.le_of_ble_eq_true rfl) ⟨(Nat.le_of_ble_eq_true rfl), (Nat.le_of_ble_eq_true rfl)⟩ dL_refuses_758 (fun H locs hI _ => ?_)
  refine fl_ldc (n := (-7000002)) C.1 aw_802 rfl dL_refuses_761 ?_
  refine fl_icmp_ne (tgt := 825) C.1 (rgk (-7000002) rfl) (rgk (-7000002) rfl) dL_refuses_763 (by decide) (fun h => absurd rfl h) (fun _ => ?_)
  refine lv_aload_n C.1.1 C.1.2.1 dL_refuses_766 rfl (lv_at hl 11 rfl) ?_
  refine fl_bipush C.1 dL_refuses_767 (by decide) ?_
  refine fl_iconst C.1 dL_refuses_769 ?_
  refine lv_iload C.1.1 C.1.2.1 dL_refuses_770 (lv_at hl 7 rfl) ?_
  refine fl_iconst C.1 dL_refuses_772 ?_
  refine fl_icmp_ne (tgt := 780) C.1 (rgk 2 rfl) (rgk 1 rfl) dL_refuses_773 (by decide) (fun _ => ?_) (fun h => absurd h (by decide))
  refine lv_iload C.1.1 C.1.2.1 dL_refuses_780 (lv_at hl 6 rfl) ?_
  refine fl_iconst C.1 dL_refuses_782 ?_
  refine k_act hst C ⟨(Nat.le_of_ble_eq_true rfl), (Nat.le_of_ble_eq_true rfl)⟩ hI hl.1 (rgk 6 rfl) (rgk 0 rfl) (rgk 2147483647 rfl) (rgk 0 rfl) (rA_mend2 (by omega)) (Nat.le_of_ble_eq_true rfl) ⟨(Nat.le_of_ble_eq_true rfl), (Nat.le_of_ble_eq_true rfl)⟩ dL_refuses_783 (fun H locs hI _ => ?_)
  refine fl_ldc (n := (-7000002)) C.1 aw_802 rfl dL_refuses_786 ?_
  refine fl_icmp_ne (tgt := 825) C.1 (rgk (-7000002) rfl) (rgk (-7000002) rfl) dL_refuses_788 (by decide) (fun h => absurd rfl h) (fun _ => ?_)
  exact W.widen (Nat.le_of_ble_eq_true rfl) (Nat.le_of_ble_eq_true rfl) (kk H locs ls hI hl)
set_option maxRecDepth 100000 in
set_option maxHeartbeats 4000000 in
theorem w_ref_2_3 (hst : l.stackTraces = false) (C : LC p s m meth c D cy B cL_refuses 14) (rp : rg pp) (rq : rg qq) (hp : pp = (S.np : Int)) (hq : qq = (S.ne : Int)) (rbv : rg (boardS S 3 1 0).2.1) (rsv : rg (callRun S 500 1).2.1) (kk : ∀ (H : Heap) (locs : List Loc) (ls : Array Slot), HI D cy B s.heap H locs x S → lv_has ls 14 [(13, iv 1), (12, iv 2147483647), (11, iv 2147483647), (10, iv 2147483647), (9, iv 2147483647), (8, iv 2147483647), (7, iv 2147483647), (6, iv 2), (5, iv ((callRun S 500 1).2.1)), (4, iv ((boardS S 3 1 0).2.1)), (3, iv 2147483647), (0, .ref x), (1, iv pp), (2, iv qq)] → W p l e rm_L_refuses s m args below meth c H locs 841 191697 Q (F0 m 821 ls [])) : ∀ (H : Heap) (locs : List Loc) (ls : Array Slot), HI D cy B s.heap H locs x S → lv_has ls 14 [(13, iv 1), (12, iv 2147483647), (11, iv 2147483647), (10, iv 2147483647), (9, iv 2147483647), (8, iv 2147483647), (7, iv 2147483647), (6, iv 2), (5, iv ((callRun S 500 1).2.1)), (4, iv ((boardS S 3 1 0).2.1)), (3, iv 2147483647), (0, .ref x), (1, iv pp), (2, iv qq)] → W p l e rm_L_refuses s m args below meth c H locs 832 189636 Q (F0 m 791 ls []) := by
  intro H locs ls hI hl
  have hok := hI.ok
  have hn6 := hok.2.2.1
  have hn60 := hok.2.2.2.2.1
  refine lv_iload_n C.1.1 C.1.2.1 dL_refuses_791 rfl (lv_at hl 13 rfl) ?_
  refine fl_if_eq (tgt := 821) C.1 rq dL_refuses_792 (by decide) (fun _ => W.widen (Nat.le_of_ble_eq_true rfl) (Nat.le_of_ble_eq_true rfl) (kk H locs ls hI (lv_sub hl [0, 1, 2, 3, 4, 5, 6, 7, 8, 9, 10, 11, 12, 13] rfl))) (fun hz => ?_)
  refine lv_aload_n C.1.1 C.1.2.1 dL_refuses_795 rfl (lv_at hl 11 rfl) ?_
  refine fl_bipush C.1 dL_refuses_796 (by decide) ?_
  refine fl_iconst C.1 dL_refuses_798 ?_
  refine lv_iload C.1.1 C.1.2.1 dL_refuses_799 (lv_at hl 7 rfl) ?_
  refine fl_iconst C.1 dL_refuses_801 ?_
  refine fl_icmp_ne (tgt := 810) C.1 (rgk 2 rfl) (rgk 1 rfl) dL_refuses_802 (by decide) (fun _ => ?_) (fun h => absurd h (by decide))
  refine lv_iload C.1.1 C.1.2.1 dL_refuses_810 (lv_at hl 6 rfl) ?_
  refine fl_iconst C.1 dL_refuses_812 ?_
  refine k_act hst C ⟨(Nat.le_of_ble_eq_true rfl), (Nat.le_of_ble_eq_true rfl)⟩ hI hl.1 (rgk 11 rfl) (rgk 0 rfl) (rgk 2147483647 rfl) (rgk 0 rfl) (rA_entry2 (by omega)) (Nat.le_of_ble_eq_true rfl) ⟨(Nat.le_of_ble_eq_true rfl), (Nat.le_of_ble_eq_true rfl)⟩ dL_refuses_813 (fun H locs hI _ => ?_)
  refine fl_ldc (n := (-7000002)) C.1 aw_802 rfl dL_refuses_816 ?_
  refine fl_icmp_ne (tgt := 825) C.1 (rgk (-7000002) rfl) (rgk (-7000002) rfl) dL_refuses_818 (by decide) (fun h => absurd rfl h) (fun _ => ?_)
  exact W.widen (Nat.le_of_ble_eq_true rfl) (Nat.le_of_ble_eq_true rfl) (kk H locs ls hI hl)
set_option maxRecDepth 100000 in
set_option maxHeartbeats 4000000 in
theorem w_ref_2_4 (hst : l.stackTraces = false) (C : LC p s m meth c D cy B cL_refuses 14) (rp : rg pp) (rq : rg qq) (hp : pp = (S.np : Int)) (hq : qq = (S.ne : Int)) (rbv : rg (boardS S 3 1 0).2.1) (rsv : rg (callRun S 500 1).2.1) (kk : ∀ (H : Heap) (locs : List Loc) (ls : Array Slot), HI D cy B s.heap H locs x S → lv_has ls 14 [(6, iv 3), (13, iv 1), (12, iv 2147483647), (11, iv 2147483647), (10, iv 2147483647), (9, iv 2147483647), (8, iv 2147483647), (7, iv 2147483647), (5, iv ((callRun S 500 1).2.1)), (4, iv ((boardS S 3 1 0).2.1)), (3, iv 2147483647), (0, .ref x), (1, iv pp), (2, iv qq)] → W p l e rm_L_refuses s m args below meth c H locs 841 191697 Q (F0 m 25 ls [])) : ∀ (H : Heap) (locs : List Loc) (ls : Array Slot), HI D cy B s.heap H locs x S → lv_has ls 14 [(13, iv 1), (12, iv 2147483647), (11, iv 2147483647), (10, iv 2147483647), (9, iv 2147483647), (8, iv 2147483647), (7, iv 2147483647), (6, iv 2), (5, iv ((callRun S 500 1).2.1)), (4, iv ((boardS S 3 1 0).2.1)), (3, iv 2147483647), (0, .ref x), (1, iv pp), (2, iv qq)] → W p l e rm_L_refuses s m args below meth c H locs 841 191697 Q (F0 m 821 ls []) := by
  intro H locs ls hI hl
  have hok := hI.ok
  have hn6 := hok.2.2.1
  have hn60 := hok.2.2.2.2.1
  refine fl_iconst C.1 dL_refuses_821 ?_
  refine fl_goto (tgt := 826) C.1 dL_refuses_822 (by decide) ?_
  refine lv_istore (lv' := [(13, iv 1), (12, iv 2147483647), (11, iv 2147483647), (10, iv 2147483647), (9, iv 2147483647), (8, iv 2147483647), (7, iv 2147483647), (6, iv 2), (5, iv ((callRun S 500 1).2.1)), (4, iv ((boardS S 3 1 0).2.1)), (3, iv 2147483647), (0, .ref x), (1, iv pp), (2, iv qq)]) C.1.1 C.1.2.1 dL_refuses_826 hl (by decide) rfl (fun ls hl => ?_)
  refine lv_iload C.1.1 C.1.2.1 dL_refuses_828 (lv_at hl 0 rfl) ?_
  refine fl_if_ne (tgt := 835) C.1 (rgk 1 rfl) dL_refuses_830 (by decide) (fun _ => ?_) (fun h => absurd h (by decide))
  refine fl_iinc (k := 7) (lv' := [(6, iv (wr (2 + 1))), (13, iv 1), (12, iv 2147483647), (11, iv 2147483647), (10, iv 2147483647), (9, iv 2147483647), (8, iv 2147483647), (7, iv 2147483647), (5, iv ((callRun S 500 1).2.1)), (4, iv ((boardS S 3 1 0).2.1)), (3, iv 2147483647), (0, .ref x), (1, iv pp), (2, iv qq)]) C.1 dL_refuses_835 hl rfl (by decide) rfl (fun ls hl => ?_)
  rw [show wr (2 + 1) = (3 : Int) from by decide +kernel] at hl
  refine fl_goto (tgt := 25) C.1 dL_refuses_838 (by decide) ?_
  exact W.widen (Nat.le_of_ble_eq_true rfl) (Nat.le_of_ble_eq_true rfl) (kk H locs ls hI hl)
set_option maxRecDepth 100000 in
set_option maxHeartbeats 4000000 in
theorem w_ref_3_0 (hst : l.stackTraces = false) (C : LC p s m meth c D cy B cL_refuses 14) (rp : rg pp) (rq : rg qq) (hp : pp = (S.np : Int)) (hq : qq = (S.ne : Int)) (rbv : rg (boardS S 3 1 0).2.1) (rsv : rg (callRun S 500 1).2.1) (kk : ∀ (H : Heap) (locs : List Loc) (ls : Array Slot), HI D cy B s.heap H locs x S → lv_has ls 14 [(13, iv 1), (12, iv (-2147483648)), (11, iv (-2147483648)), (10, iv (-2147483648)), (9, iv (-2147483648)), (8, iv (-2147483648)), (7, iv (-2147483648)), (6, iv 3), (5, iv ((callRun S 500 1).2.1)), (4, iv ((boardS S 3 1 0).2.1)), (3, iv 2147483647), (0, .ref x), (1, iv pp), (2, iv qq)] → W p l e rm_L_refuses s m args below meth c H locs 1003 228795 Q (F0 m 536 ls [])) : ∀ (H : Heap) (locs : List Loc) (ls : Array Slot), HI D cy B s.heap H locs x S → lv_has ls 14 [(6, iv 3), (13, iv 1), (12, iv 2147483647), (11, iv 2147483647), (10, iv 2147483647), (9, iv 2147483647), (8, iv 2147483647), (7, iv 2147483647), (5, iv ((callRun S 500 1).2.1)), (4, iv ((boardS S 3 1 0).2.1)), (3, iv 2147483647), (0, .ref x), (1, iv pp), (2, iv qq)] → W p l e rm_L_refuses s m args below meth c H locs 841 191697 Q (F0 m 25 ls []) := by
  intro H locs ls hI hl
  have hok := hI.ok
  have hn6 := hok.2.2.1
  have hn60 := hok.2.2.2.2.1
  refine lv_iload C.1.1 C.1.2.1 dL_refuses_25 (lv_at hl 0 rfl) ?_
  refine fl_iconst C.1 dL_refuses_27 ?_
  refine fl_icmp_ge (tgt := 841) C.1 (rgk 3 rfl) (rgk 4 rfl) dL_refuses_28 (by decide) (fun h => absurd h (by decide)) (fun _ => ?_)
  refine lv_iload C.1.1 C.1.2.1 dL_refuses_31 (lv_at hl 0 rfl) ?_
  refine fl_if_ne (tgt := 40) C.1 (rgk 3 rfl) dL_refuses_33 (by decide) (fun _ => ?_) (fun h => absurd h (by decide))
  refine lv_iload C.1.1 C.1.2.1 dL_refuses_40 (lv_at hl 0 rfl) ?_
  refine fl_iconst C.1 dL_refuses_42 ?_
  refine fl_icmp_ne (tgt := 50) C.1 (rgk 3 rfl) (rgk 2 rfl) dL_refuses_43 (by decide) (fun _ => ?_) (fun h => absurd h (by decide))
  refine lv_iload_n C.1.1 C.1.2.1 dL_refuses_50 rfl (lv_at hl 10 rfl) ?_
  refine h_ineg (z := (-2147483647)) C.1 (by decide +kernel) dL_refuses_51 ?_
  refine fl_iconst C.1 dL_refuses_52 ?_
  refine h_isub (z := (-2147483648)) C.1 (by decide +kernel) dL_refuses_53 ?_
  refine lv_istore (lv' := [(7, iv (-2147483648)), (6, iv 3), (13, iv 1), (12, iv 2147483647), (11, iv 2147483647), (10, iv 2147483647), (9, iv 2147483647), (8, iv 2147483647), (5, iv ((callRun S 500 1).2.1)), (4, iv ((boardS S 3 1 0).2.1)), (3, iv 2147483647), (0, .ref x), (1, iv pp), (2, iv qq)]) C.1.1 C.1.2.1 dL_refuses_54 hl (by decide) rfl (fun ls hl => ?_)
  refine lv_iload C.1.1 C.1.2.1 dL_refuses_56 (lv_at hl 1 rfl) ?_
  refine fl_iconst C.1 dL_refuses_58 ?_
  refine fl_icmp_ne (tgt := 66) C.1 (rgk 3 rfl) (rgk 1 rfl) dL_refuses_59 (by decide) (fun _ => ?_) (fun h => absurd h (by decide))
  refine lv_iload C.1.1 C.1.2.1 dL_refuses_66 (lv_at hl 0 rfl) ?_
  refine lv_istore (lv' := [(8, iv (-2147483648)), (7, iv (-2147483648)), (6, iv 3), (13, iv 1), (12, iv 2147483647), (11, iv 2147483647), (10, iv 2147483647), (9, iv 2147483647), (5, iv ((callRun S 500 1).2.1)), (4, iv ((boardS S 3 1 0).2.1)), (3, iv 2147483647), (0, .ref x), (1, iv pp), (2, iv qq)]) C.1.1 C.1.2.1 dL_refuses_68 hl (by decide) rfl (fun ls hl => ?_)
  refine lv_iload C.1.1 C.1.2.1 dL_refuses_70 (lv_at hl 2 rfl) ?_
  refine fl_iconst C.1 dL_refuses_72 ?_
  refine fl_icmp_ne (tgt := 80) C.1 (rgk 3 rfl) (rgk 1 rfl) dL_refuses_73 (by decide) (fun _ => ?_) (fun h => absurd h (by decide))
  refine lv_iload C.1.1 C.1.2.1 dL_refuses_80 (lv_at hl 1 rfl) ?_
  refine lv_istore (lv' := [(9, iv (-2147483648)), (8, iv (-2147483648)), (7, iv (-2147483648)), (6, iv 3), (13, iv 1), (12, iv 2147483647), (11, iv 2147483647), (10, iv 2147483647), (5, iv ((callRun S 500 1).2.1)), (4, iv ((boardS S 3 1 0).2.1)), (3, iv 2147483647), (0, .ref x), (1, iv pp), (2, iv qq)]) C.1.1 C.1.2.1 dL_refuses_82 hl (by decide) rfl (fun ls hl => ?_)
  refine lv_iload C.1.1 C.1.2.1 dL_refuses_84 (lv_at hl 3 rfl) ?_
  refine fl_iconst C.1 dL_refuses_86 ?_
  refine fl_icmp_ne (tgt := 95) C.1 (rgk 3 rfl) (rgk 1 rfl) dL_refuses_87 (by decide) (fun _ => ?_) (fun h => absurd h (by decide))
  refine lv_iload C.1.1 C.1.2.1 dL_refuses_95 (lv_at hl 2 rfl) ?_
  refine lv_istore (lv' := [(10, iv (-2147483648)), (9, iv (-2147483648)), (8, iv (-2147483648)), (7, iv (-2147483648)), (6, iv 3), (13, iv 1), (12, iv 2147483647), (11, iv 2147483647), (5, iv ((callRun S 500 1).2.1)), (4, iv ((boardS S 3 1 0).2.1)), (3, iv 2147483647), (0, .ref x), (1, iv pp), (2, iv qq)]) C.1.1 C.1.2.1 dL_refuses_97 hl (by decide) rfl (fun ls hl => ?_)
  refine lv_iload C.1.1 C.1.2.1 dL_refuses_99 (lv_at hl 4 rfl) ?_
  refine fl_iconst C.1 dL_refuses_101 ?_
  refine fl_icmp_ne (tgt := 109) C.1 (rgk 3 rfl) (rgk 1 rfl) dL_refuses_102 (by decide) (fun _ => ?_) (fun h => absurd h (by decide))
  refine lv_iload C.1.1 C.1.2.1 dL_refuses_109 (lv_at hl 3 rfl) ?_
  refine lv_istore (lv' := [(11, iv (-2147483648)), (10, iv (-2147483648)), (9, iv (-2147483648)), (8, iv (-2147483648)), (7, iv (-2147483648)), (6, iv 3), (13, iv 1), (12, iv 2147483647), (5, iv ((callRun S 500 1).2.1)), (4, iv ((boardS S 3 1 0).2.1)), (3, iv 2147483647), (0, .ref x), (1, iv pp), (2, iv qq)]) C.1.1 C.1.2.1 dL_refuses_111 hl (by decide) rfl (fun ls hl => ?_)
  refine lv_iload C.1.1 C.1.2.1 dL_refuses_113 (lv_at hl 5 rfl) ?_
  refine fl_if_ne (tgt := 122) C.1 (rgk 3 rfl) dL_refuses_115 (by decide) (fun _ => ?_) (fun h => absurd h (by decide))
  refine lv_iload C.1.1 C.1.2.1 dL_refuses_122 (lv_at hl 5 rfl) ?_
  refine fl_iconst C.1 dL_refuses_124 ?_
  refine fl_icmp_ne (tgt := 134) C.1 (rgk 3 rfl) (rgk 1 rfl) dL_refuses_125 (by decide) (fun _ => ?_) (fun h => absurd h (by decide))
  refine lv_iload C.1.1 C.1.2.1 dL_refuses_134 (lv_at hl 4 rfl) ?_
  refine lv_istore (lv' := [(12, iv (-2147483648)), (11, iv (-2147483648)), (10, iv (-2147483648)), (9, iv (-2147483648)), (8, iv (-2147483648)), (7, iv (-2147483648)), (6, iv 3), (13, iv 1), (5, iv ((callRun S 500 1).2.1)), (4, iv ((boardS S 3 1 0).2.1)), (3, iv 2147483647), (0, .ref x), (1, iv pp), (2, iv qq)]) C.1.1 C.1.2.1 dL_refuses_136 hl (by decide) rfl (fun ls hl => ?_)
  refine lv_aload_n C.1.1 C.1.2.1 dL_refuses_138 rfl (lv_at hl 11 rfl) ?_
  refine fl_iconst C.1 dL_refuses_139 ?_
  refine lv_iload C.1.1 C.1.2.1 dL_refuses_140 (lv_at hl 6 rfl) ?_
  refine fl_iconst C.1 dL_refuses_142 ?_
  refine fl_icmp_ne (tgt := 151) C.1 (rgk 3 rfl) (rgk 1 rfl) dL_refuses_143 (by decide) (fun _ => ?_) (fun h => absurd h (by decide))
  refine lv_iload C.1.1 C.1.2.1 dL_refuses_151 (lv_at hl 5 rfl) ?_
  refine fl_iconst C.1 dL_refuses_153 ?_
  refine fl_iconst C.1 dL_refuses_154 ?_
  refine k_act hst C ⟨(Nat.le_of_ble_eq_true rfl), (Nat.le_of_ble_eq_true rfl)⟩ hI hl.1 (rgk 0 rfl) (rgk (-2147483648) rfl) (rgk 0 rfl) (rgk 0 rfl) (rA_code (by omega)) (Nat.le_of_ble_eq_true rfl) ⟨(Nat.le_of_ble_eq_true rfl), (Nat.le_of_ble_eq_true rfl)⟩ dL_refuses_155 (fun H locs hI _ => ?_)
  refine fl_ldc (n := (-7000002)) C.1 aw_802 rfl dL_refuses_158 ?_
  refine fl_icmp_ne (tgt := 533) C.1 (rgk (-7000002) rfl) (rgk (-7000002) rfl) dL_refuses_160 (by decide) (fun h => absurd rfl h) (fun _ => ?_)
  refine lv_aload_n C.1.1 C.1.2.1 dL_refuses_163 rfl (lv_at hl 11 rfl) ?_
  refine fl_iconst C.1 dL_refuses_164 ?_
  refine fl_iconst C.1 dL_refuses_165 ?_
  refine lv_iload C.1.1 C.1.2.1 dL_refuses_166 (lv_at hl 6 rfl) ?_
  refine fl_if_ne (tgt := 176) C.1 (rgk 3 rfl) dL_refuses_168 (by decide) (fun _ => ?_) (fun h => absurd h (by decide))
  refine lv_iload C.1.1 C.1.2.1 dL_refuses_176 (lv_at hl 6 rfl) ?_
  refine fl_iconst C.1 dL_refuses_178 ?_
  refine fl_icmp_ne (tgt := 187) C.1 (rgk 3 rfl) (rgk 1 rfl) dL_refuses_179 (by decide) (fun _ => ?_) (fun h => absurd h (by decide))
  refine lv_iload C.1.1 C.1.2.1 dL_refuses_187 (lv_at hl 5 rfl) ?_
  refine fl_iconst C.1 dL_refuses_189 ?_
  refine k_act hst C ⟨(Nat.le_of_ble_eq_true rfl), (Nat.le_of_ble_eq_true rfl)⟩ hI hl.1 (rgk 0 rfl) (rgk 0 rfl) (rgk (-2147483648) rfl) (rgk 0 rfl) (rA_code (by omega)) (Nat.le_of_ble_eq_true rfl) ⟨(Nat.le_of_ble_eq_true rfl), (Nat.le_of_ble_eq_true rfl)⟩ dL_refuses_190 (fun H locs hI _ => ?_)
  refine fl_ldc (n := (-7000002)) C.1 aw_802 rfl dL_refuses_193 ?_
  refine fl_icmp_ne (tgt := 533) C.1 (rgk (-7000002) rfl) (rgk (-7000002) rfl) dL_refuses_195 (by decide) (fun h => absurd rfl h) (fun _ => ?_)
  refine lv_aload_n C.1.1 C.1.2.1 dL_refuses_198 rfl (lv_at hl 11 rfl) ?_
  refine fl_iconst C.1 dL_refuses_199 ?_
  refine lv_iload C.1.1 C.1.2.1 dL_refuses_200 (lv_at hl 6 rfl) ?_
  refine fl_if_ne (tgt := 210) C.1 (rgk 3 rfl) dL_refuses_202 (by decide) (fun _ => ?_) (fun h => absurd h (by decide))
  refine lv_iload C.1.1 C.1.2.1 dL_refuses_210 (lv_at hl 6 rfl) ?_
  refine fl_iconst C.1 dL_refuses_212 ?_
  refine fl_icmp_ne (tgt := 221) C.1 (rgk 3 rfl) (rgk 1 rfl) dL_refuses_213 (by decide) (fun _ => ?_) (fun h => absurd h (by decide))
  refine lv_iload C.1.1 C.1.2.1 dL_refuses_221 (lv_at hl 5 rfl) ?_
  refine fl_iconst C.1 dL_refuses_223 ?_
  refine fl_iconst C.1 dL_refuses_224 ?_
  refine k_act hst C ⟨(Nat.le_of_ble_eq_true rfl), (Nat.le_of_ble_eq_true rfl)⟩ hI hl.1 (rgk 1 rfl) (rgk (-2147483648) rfl) (rgk 0 rfl) (rgk 0 rfl) (rA_input (by omega)) (Nat.le_of_ble_eq_true rfl) ⟨(Nat.le_of_ble_eq_true rfl), (Nat.le_of_ble_eq_true rfl)⟩ dL_refuses_225 (fun H locs hI _ => ?_)
  refine fl_ldc (n := (-7000002)) C.1 aw_802 rfl dL_refuses_228 ?_
  refine fl_icmp_ne (tgt := 533) C.1 (rgk (-7000002) rfl) (rgk (-7000002) rfl) dL_refuses_230 (by decide) (fun h => absurd rfl h) (fun _ => ?_)
  refine lv_aload_n C.1.1 C.1.2.1 dL_refuses_233 rfl (lv_at hl 11 rfl) ?_
  refine fl_iconst C.1 dL_refuses_234 ?_
  refine lv_iload C.1.1 C.1.2.1 dL_refuses_235 (lv_at hl 0 rfl) ?_
  refine fl_iconst C.1 dL_refuses_237 ?_
  refine fl_iconst C.1 dL_refuses_238 ?_
  refine k_act hst C ⟨(Nat.le_of_ble_eq_true rfl), (Nat.le_of_ble_eq_true rfl)⟩ hI hl.1 (rgk 2 rfl) (rgk (-2147483648) rfl) (rgk 0 rfl) (rgk 0 rfl) (rA_run (by omega)) (Nat.le_of_ble_eq_true rfl) ⟨(Nat.le_of_ble_eq_true rfl), (Nat.le_of_ble_eq_true rfl)⟩ dL_refuses_239 (fun H locs hI _ => ?_)
  refine fl_ldc (n := (-7000002)) C.1 aw_802 rfl dL_refuses_242 ?_
  refine fl_icmp_ne (tgt := 533) C.1 (rgk (-7000002) rfl) (rgk (-7000002) rfl) dL_refuses_244 (by decide) (fun h => absurd rfl h) (fun _ => ?_)
  refine lv_aload_n C.1.1 C.1.2.1 dL_refuses_247 rfl (lv_at hl 11 rfl) ?_
  refine fl_iconst C.1 dL_refuses_248 ?_
  refine fl_iconst C.1 dL_refuses_249 ?_
  refine lv_iload C.1.1 C.1.2.1 dL_refuses_250 (lv_at hl 6 rfl) ?_
  refine fl_iconst C.1 dL_refuses_252 ?_
  refine fl_icmp_ne (tgt := 261) C.1 (rgk 3 rfl) (rgk 1 rfl) dL_refuses_253 (by decide) (fun _ => ?_) (fun h => absurd h (by decide))
  refine lv_iload C.1.1 C.1.2.1 dL_refuses_261 (lv_at hl 5 rfl) ?_
  refine fl_iconst C.1 dL_refuses_263 ?_
  refine k_act hst C ⟨(Nat.le_of_ble_eq_true rfl), (Nat.le_of_ble_eq_true rfl)⟩ hI hl.1 (rgk 2 rfl) (rgk 1 rfl) (rgk (-2147483648) rfl) (rgk 0 rfl) (rA_run (by omega)) (Nat.le_of_ble_eq_true rfl) ⟨(Nat.le_of_ble_eq_true rfl), (Nat.le_of_ble_eq_true rfl)⟩ dL_refuses_264 (fun H locs hI _ => ?_)
  refine fl_ldc (n := (-7000002)) C.1 aw_802 rfl dL_refuses_267 ?_
  refine fl_icmp_ne (tgt := 533) C.1 (rgk (-7000002) rfl) (rgk (-7000002) rfl) dL_refuses_269 (by decide) (fun h => absurd rfl h) (fun _ => ?_)
  refine lv_aload_n C.1.1 C.1.2.1 dL_refuses_272 rfl (lv_at hl 11 rfl) ?_
  refine fl_iconst C.1 dL_refuses_273 ?_
  refine lv_iload C.1.1 C.1.2.1 dL_refuses_274 (lv_at hl 0 rfl) ?_
  refine fl_iconst C.1 dL_refuses_276 ?_
  refine fl_iconst C.1 dL_refuses_277 ?_
  refine k_act hst C ⟨(Nat.le_of_ble_eq_true rfl), (Nat.le_of_ble_eq_true rfl)⟩ hI hl.1 (rgk 3 rfl) (rgk (-2147483648) rfl) (rgk 0 rfl) (rgk 0 rfl) (rA_problem (by omega)) (Nat.le_of_ble_eq_true rfl) ⟨(Nat.le_of_ble_eq_true rfl), (Nat.le_of_ble_eq_true rfl)⟩ dL_refuses_278 (fun H locs hI _ => ?_)
  refine fl_ldc (n := (-7000002)) C.1 aw_802 rfl dL_refuses_281 ?_
  refine fl_icmp_ne (tgt := 533) C.1 (rgk (-7000002) rfl) (rgk (-7000002) rfl) dL_refuses_283 (by decide) (fun h => absurd rfl h) (fun _ => ?_)
  refine lv_aload_n C.1.1 C.1.2.1 dL_refuses_286 rfl (lv_at hl 11 rfl) ?_
  refine fl_iconst C.1 dL_refuses_287 ?_
  refine fl_iconst C.1 dL_refuses_288 ?_
  refine lv_iload C.1.1 C.1.2.1 dL_refuses_289 (lv_at hl 6 rfl) ?_
  refine fl_iconst C.1 dL_refuses_291 ?_
  refine fl_icmp_ne (tgt := 299) C.1 (rgk 3 rfl) (rgk 1 rfl) dL_refuses_292 (by decide) (fun _ => ?_) (fun h => absurd h (by decide))
  refine lv_iload C.1.1 C.1.2.1 dL_refuses_299 (lv_at hl 5 rfl) ?_
  refine fl_iconst C.1 dL_refuses_301 ?_
  refine k_act hst C ⟨(Nat.le_of_ble_eq_true rfl), (Nat.le_of_ble_eq_true rfl)⟩ hI hl.1 (rgk 3 rfl) (rgk 1 rfl) (rgk (-2147483648) rfl) (rgk 0 rfl) (rA_problem (by omega)) (Nat.le_of_ble_eq_true rfl) ⟨(Nat.le_of_ble_eq_true rfl), (Nat.le_of_ble_eq_true rfl)⟩ dL_refuses_302 (fun H locs hI _ => ?_)
  refine fl_ldc (n := (-7000002)) C.1 aw_802 rfl dL_refuses_305 ?_
  refine fl_icmp_ne (tgt := 533) C.1 (rgk (-7000002) rfl) (rgk (-7000002) rfl) dL_refuses_307 (by decide) (fun h => absurd rfl h) (fun _ => ?_)
  refine lv_aload_n C.1.1 C.1.2.1 dL_refuses_310 rfl (lv_at hl 11 rfl) ?_
  refine fl_iconst C.1 dL_refuses_311 ?_
  refine lv_iload C.1.1 C.1.2.1 dL_refuses_312 (lv_at hl 4 rfl) ?_
  refine fl_iconst C.1 dL_refuses_314 ?_
  refine fl_iconst C.1 dL_refuses_315 ?_
  refine k_act hst C ⟨(Nat.le_of_ble_eq_true rfl), (Nat.le_of_ble_eq_true rfl)⟩ hI hl.1 (rgk 4 rfl) (rgk (-2147483648) rfl) (rgk 0 rfl) (rgk 0 rfl) (rA_test (by omega)) (Nat.le_of_ble_eq_true rfl) ⟨(Nat.le_of_ble_eq_true rfl), (Nat.le_of_ble_eq_true rfl)⟩ dL_refuses_316 (fun H locs hI _ => ?_)
  refine fl_ldc (n := (-7000001)) C.1 aw_801 rfl dL_refuses_319 ?_
  refine fl_icmp_ne (tgt := 533) C.1 (rgk (-7000001) rfl) (rgk (-7000001) rfl) dL_refuses_321 (by decide) (fun h => absurd rfl h) (fun _ => ?_)
  refine lv_aload_n C.1.1 C.1.2.1 dL_refuses_324 rfl (lv_at hl 11 rfl) ?_
  refine fl_iconst C.1 dL_refuses_325 ?_
  refine fl_iconst C.1 dL_refuses_326 ?_
  refine lv_iload C.1.1 C.1.2.1 dL_refuses_327 (lv_at hl 1 rfl) ?_
  refine fl_iconst C.1 dL_refuses_329 ?_
  refine k_act hst C ⟨(Nat.le_of_ble_eq_true rfl), (Nat.le_of_ble_eq_true rfl)⟩ hI hl.1 (rgk 4 rfl) (rgk 0 rfl) (rgk (-2147483648) rfl) (rgk 0 rfl) (rA_test (by omega)) (Nat.le_of_ble_eq_true rfl) ⟨(Nat.le_of_ble_eq_true rfl), (Nat.le_of_ble_eq_true rfl)⟩ dL_refuses_330 (fun H locs hI _ => ?_)
  refine fl_ldc (n := (-7000001)) C.1 aw_801 rfl dL_refuses_333 ?_
  refine fl_icmp_ne (tgt := 533) C.1 (rgk (-7000001) rfl) (rgk (-7000001) rfl) dL_refuses_335 (by decide) (fun h => absurd rfl h) (fun _ => ?_)
  refine lv_aload_n C.1.1 C.1.2.1 dL_refuses_338 rfl (lv_at hl 11 rfl) ?_
  refine fl_iconst C.1 dL_refuses_339 ?_
  refine lv_iload C.1.1 C.1.2.1 dL_refuses_340 (lv_at hl 4 rfl) ?_
  refine fl_iconst C.1 dL_refuses_342 ?_
  refine fl_sipush C.1 dL_refuses_343 (by decide) ?_
  refine k_act hst C ⟨(Nat.le_of_ble_eq_true rfl), (Nat.le_of_ble_eq_true rfl)⟩ hI hl.1 (rgk 5 rfl) (rgk (-2147483648) rfl) (rgk 0 rfl) (rgk 999 rfl) (rA_points (by omega)) (Nat.le_of_ble_eq_true rfl) ⟨(Nat.le_of_ble_eq_true rfl), (Nat.le_of_ble_eq_true rfl)⟩ dL_refuses_346 (fun H locs hI _ => ?_)
  refine fl_ldc (n := (-7000001)) C.1 aw_801 rfl dL_refuses_349 ?_
  refine fl_icmp_ne (tgt := 533) C.1 (rgk (-7000001) rfl) (rgk (-7000001) rfl) dL_refuses_351 (by decide) (fun h => absurd rfl h) (fun _ => ?_)
  refine lv_aload_n C.1.1 C.1.2.1 dL_refuses_354 rfl (lv_at hl 11 rfl) ?_
  refine fl_iconst C.1 dL_refuses_355 ?_
  refine fl_iconst C.1 dL_refuses_356 ?_
  refine lv_iload C.1.1 C.1.2.1 dL_refuses_357 (lv_at hl 1 rfl) ?_
  refine fl_sipush C.1 dL_refuses_359 (by decide) ?_
  refine k_act hst C ⟨(Nat.le_of_ble_eq_true rfl), (Nat.le_of_ble_eq_true rfl)⟩ hI hl.1 (rgk 5 rfl) (rgk 0 rfl) (rgk (-2147483648) rfl) (rgk 999 rfl) (rA_points (by omega)) (Nat.le_of_ble_eq_true rfl) ⟨(Nat.le_of_ble_eq_true rfl), (Nat.le_of_ble_eq_true rfl)⟩ dL_refuses_362 (fun H locs hI _ => ?_)
  refine fl_ldc (n := (-7000001)) C.1 aw_801 rfl dL_refuses_365 ?_
  refine fl_icmp_ne (tgt := 533) C.1 (rgk (-7000001) rfl) (rgk (-7000001) rfl) dL_refuses_367 (by decide) (fun h => absurd rfl h) (fun _ => ?_)
  refine lv_aload_n C.1.1 C.1.2.1 dL_refuses_370 rfl (lv_at hl 11 rfl) ?_
  refine fl_bipush C.1 dL_refuses_371 (by decide) ?_
  refine lv_iload C.1.1 C.1.2.1 dL_refuses_373 (lv_at hl 4 rfl) ?_
  refine fl_bipush C.1 dL_refuses_375 (by decide) ?_
  refine fl_iconst C.1 dL_refuses_377 ?_
  refine k_act hst C ⟨(Nat.le_of_ble_eq_true rfl), (Nat.le_of_ble_eq_true rfl)⟩ hI hl.1 (rgk 6 rfl) (rgk (-2147483648) rfl) (rgk 9 rfl) (rgk 0 rfl) (rA_mend (by omega)) (Nat.le_of_ble_eq_true rfl) ⟨(Nat.le_of_ble_eq_true rfl), (Nat.le_of_ble_eq_true rfl)⟩ dL_refuses_378 (fun H locs hI _ => ?_)
  refine fl_ldc (n := (-7000001)) C.1 aw_801 rfl dL_refuses_381 ?_
  refine fl_icmp_ne (tgt := 533) C.1 (rgk (-7000001) rfl) (rgk (-7000001) rfl) dL_refuses_383 (by decide) (fun h => absurd rfl h) (fun _ => ?_)
  refine lv_aload_n C.1.1 C.1.2.1 dL_refuses_386 rfl (lv_at hl 11 rfl) ?_
  refine fl_bipush C.1 dL_refuses_387 (by decide) ?_
  refine lv_iload C.1.1 C.1.2.1 dL_refuses_389 (lv_at hl 4 rfl) ?_
  refine fl_iconst C.1 dL_refuses_391 ?_
  refine fl_iconst C.1 dL_refuses_392 ?_
  refine k_act hst C ⟨(Nat.le_of_ble_eq_true rfl), (Nat.le_of_ble_eq_true rfl)⟩ hI hl.1 (rgk 7 rfl) (rgk (-2147483648) rfl) (rgk 0 rfl) (rgk 0 rfl) (rA_answer hok (by omega)) (Nat.le_of_ble_eq_true rfl) ⟨(Nat.le_of_ble_eq_true rfl), (Nat.le_of_ble_eq_true rfl)⟩ dL_refuses_393 (fun H locs hI _ => ?_)
  refine fl_ldc (n := (-7000001)) C.1 aw_801 rfl dL_refuses_396 ?_
  refine fl_icmp_ne (tgt := 533) C.1 (rgk (-7000001) rfl) (rgk (-7000001) rfl) dL_refuses_398 (by decide) (fun h => absurd rfl h) (fun _ => ?_)
  refine lv_aload_n C.1.1 C.1.2.1 dL_refuses_401 rfl (lv_at hl 11 rfl) ?_
  refine fl_bipush C.1 dL_refuses_402 (by decide) ?_
  refine fl_iconst C.1 dL_refuses_404 ?_
  refine lv_iload C.1.1 C.1.2.1 dL_refuses_405 (lv_at hl 6 rfl) ?_
  refine fl_iconst C.1 dL_refuses_407 ?_
  refine fl_icmp_ne (tgt := 416) C.1 (rgk 3 rfl) (rgk 1 rfl) dL_refuses_408 (by decide) (fun _ => ?_) (fun h => absurd h (by decide))
  refine lv_iload C.1.1 C.1.2.1 dL_refuses_416 (lv_at hl 5 rfl) ?_
  refine fl_iconst C.1 dL_refuses_418 ?_
  refine k_act hst C ⟨(Nat.le_of_ble_eq_true rfl), (Nat.le_of_ble_eq_true rfl)⟩ hI hl.1 (rgk 7 rfl) (rgk 0 rfl) (rgk (-2147483648) rfl) (rgk 0 rfl) (rA_answer hok (by omega)) (Nat.le_of_ble_eq_true rfl) ⟨(Nat.le_of_ble_eq_true rfl), (Nat.le_of_ble_eq_true rfl)⟩ dL_refuses_419 (fun H locs hI _ => ?_)
  refine fl_ldc (n := (-7000001)) C.1 aw_801 rfl dL_refuses_422 ?_
  refine fl_icmp_ne (tgt := 533) C.1 (rgk (-7000001) rfl) (rgk (-7000001) rfl) dL_refuses_424 (by decide) (fun h => absurd rfl h) (fun _ => ?_)
  refine lv_aload_n C.1.1 C.1.2.1 dL_refuses_427 rfl (lv_at hl 11 rfl) ?_
  refine fl_bipush C.1 dL_refuses_428 (by decide) ?_
  refine fl_iconst C.1 dL_refuses_430 ?_
  refine fl_iconst C.1 dL_refuses_431 ?_
  refine lv_iload C.1.1 C.1.2.1 dL_refuses_432 (lv_at hl 6 rfl) ?_
  refine fl_iconst C.1 dL_refuses_434 ?_
  refine fl_icmp_ne (tgt := 443) C.1 (rgk 3 rfl) (rgk 1 rfl) dL_refuses_435 (by decide) (fun _ => ?_) (fun h => absurd h (by decide))
  refine lv_iload C.1.1 C.1.2.1 dL_refuses_443 (lv_at hl 6 rfl) ?_
  refine fl_iconst C.1 dL_refuses_445 ?_
  refine fl_icmp_ne (tgt := 453) C.1 (rgk 3 rfl) (rgk 2 rfl) dL_refuses_446 (by decide) (fun _ => ?_) (fun h => absurd h (by decide))
  refine lv_iload C.1.1 C.1.2.1 dL_refuses_453 (lv_at hl 5 rfl) ?_
  refine k_act hst C ⟨(Nat.le_of_ble_eq_true rfl), (Nat.le_of_ble_eq_true rfl)⟩ hI hl.1 (rgk 7 rfl) (rgk 0 rfl) (rgk 0 rfl) (rgk (-2147483648) rfl) (rA_answer hok (by omega)) (Nat.le_of_ble_eq_true rfl) ⟨(Nat.le_of_ble_eq_true rfl), (Nat.le_of_ble_eq_true rfl)⟩ dL_refuses_455 (fun H locs hI _ => ?_)
  refine fl_ldc (n := (-7000001)) C.1 aw_801 rfl dL_refuses_458 ?_
  refine fl_icmp_ne (tgt := 533) C.1 (rgk (-7000001) rfl) (rgk (-7000001) rfl) dL_refuses_460 (by decide) (fun h => absurd rfl h) (fun _ => ?_)
  refine lv_aload_n C.1.1 C.1.2.1 dL_refuses_463 rfl (lv_at hl 11 rfl) ?_
  refine fl_bipush C.1 dL_refuses_464 (by decide) ?_
  refine lv_iload C.1.1 C.1.2.1 dL_refuses_466 (lv_at hl 2 rfl) ?_
  refine fl_iconst C.1 dL_refuses_468 ?_
  refine fl_iconst C.1 dL_refuses_469 ?_
  refine k_act hst C ⟨(Nat.le_of_ble_eq_true rfl), (Nat.le_of_ble_eq_true rfl)⟩ hI hl.1 (rgk 8 rfl) (rgk (-2147483648) rfl) (rgk 0 rfl) (rgk 0 rfl) (rA_enter (by omega)) (Nat.le_of_ble_eq_true rfl) ⟨(Nat.le_of_ble_eq_true rfl), (Nat.le_of_ble_eq_true rfl)⟩ dL_refuses_470 (fun H locs hI _ => ?_)
  refine fl_ldc (n := (-7000001)) C.1 aw_801 rfl dL_refuses_473 ?_
  refine fl_icmp_ne (tgt := 533) C.1 (rgk (-7000001) rfl) (rgk (-7000001) rfl) dL_refuses_475 (by decide) (fun h => absurd rfl h) (fun _ => ?_)
  refine lv_aload_n C.1.1 C.1.2.1 dL_refuses_478 rfl (lv_at hl 11 rfl) ?_
  refine fl_bipush C.1 dL_refuses_479 (by decide) ?_
  refine fl_iconst C.1 dL_refuses_481 ?_
  refine lv_iload C.1.1 C.1.2.1 dL_refuses_482 (lv_at hl 4 rfl) ?_
  refine fl_iconst C.1 dL_refuses_484 ?_
  refine k_act hst C ⟨(Nat.le_of_ble_eq_true rfl), (Nat.le_of_ble_eq_true rfl)⟩ hI hl.1 (rgk 8 rfl) (rgk 0 rfl) (rgk (-2147483648) rfl) (rgk 0 rfl) (rA_enter (by omega)) (Nat.le_of_ble_eq_true rfl) ⟨(Nat.le_of_ble_eq_true rfl), (Nat.le_of_ble_eq_true rfl)⟩ dL_refuses_485 (fun H locs hI _ => ?_)
  refine fl_ldc (n := (-7000001)) C.1 aw_801 rfl dL_refuses_488 ?_
  refine fl_icmp_ne (tgt := 533) C.1 (rgk (-7000001) rfl) (rgk (-7000001) rfl) dL_refuses_490 (by decide) (fun h => absurd rfl h) (fun _ => ?_)
  refine lv_aload_n C.1.1 C.1.2.1 dL_refuses_493 rfl (lv_at hl 11 rfl) ?_
  refine fl_bipush C.1 dL_refuses_494 (by decide) ?_
  refine lv_iload C.1.1 C.1.2.1 dL_refuses_496 (lv_at hl 6 rfl) ?_
  refine fl_if_ne (tgt := 505) C.1 (rgk 3 rfl) dL_refuses_498 (by decide) (fun _ => ?_) (fun h => absurd h (by decide))
  refine lv_iload C.1.1 C.1.2.1 dL_refuses_505 (lv_at hl 6 rfl) ?_
  refine fl_iconst C.1 dL_refuses_507 ?_
  refine fl_icmp_ne (tgt := 517) C.1 (rgk 3 rfl) (rgk 1 rfl) dL_refuses_508 (by decide) (fun _ => ?_) (fun h => absurd h (by decide))
  refine lv_iload C.1.1 C.1.2.1 dL_refuses_517 (lv_at hl 5 rfl) ?_
  refine fl_iconst C.1 dL_refuses_519 ?_
  refine fl_iconst C.1 dL_refuses_520 ?_
  refine k_act hst C ⟨(Nat.le_of_ble_eq_true rfl), (Nat.le_of_ble_eq_true rfl)⟩ hI hl.1 (rgk 9 rfl) (rgk (-2147483648) rfl) (rgk 0 rfl) (rgk 0 rfl) (rA_pass (by omega)) (Nat.le_of_ble_eq_true rfl) ⟨(Nat.le_of_ble_eq_true rfl), (Nat.le_of_ble_eq_true rfl)⟩ dL_refuses_521 (fun H locs hI _ => ?_)
  refine fl_ldc (n := (-7000002)) C.1 aw_802 rfl dL_refuses_524 ?_
  refine fl_icmp_ne (tgt := 533) C.1 (rgk (-7000002) rfl) (rgk (-7000002) rfl) dL_refuses_526 (by decide) (fun h => absurd rfl h) (fun _ => ?_)
  refine fl_iconst C.1 dL_refuses_529 ?_
  refine fl_goto (tgt := 534) C.1 dL_refuses_530 (by decide) ?_
  refine lv_istore (lv' := [(13, iv 1), (12, iv (-2147483648)), (11, iv (-2147483648)), (10, iv (-2147483648)), (9, iv (-2147483648)), (8, iv (-2147483648)), (7, iv (-2147483648)), (6, iv 3), (5, iv ((callRun S 500 1).2.1)), (4, iv ((boardS S 3 1 0).2.1)), (3, iv 2147483647), (0, .ref x), (1, iv pp), (2, iv qq)]) C.1.1 C.1.2.1 dL_refuses_534 hl (by decide) rfl (fun ls hl => ?_)
  exact W.widen (Nat.le_of_ble_eq_true rfl) (Nat.le_of_ble_eq_true rfl) (kk H locs ls hI hl)
set_option maxRecDepth 100000 in
set_option maxHeartbeats 4000000 in
theorem w_ref_3_1 (hst : l.stackTraces = false) (C : LC p s m meth c D cy B cL_refuses 14) (rp : rg pp) (rq : rg qq) (hp : pp = (S.np : Int)) (hq : qq = (S.ne : Int)) (rbv : rg (boardS S 3 1 0).2.1) (rsv : rg (callRun S 500 1).2.1) (kk : ∀ (H : Heap) (locs : List Loc) (ls : Array Slot), HI D cy B s.heap H locs x S → lv_has ls 14 [(13, iv 1), (12, iv (-2147483648)), (11, iv (-2147483648)), (10, iv (-2147483648)), (9, iv (-2147483648)), (8, iv (-2147483648)), (7, iv (-2147483648)), (6, iv 3), (5, iv ((callRun S 500 1).2.1)), (4, iv ((boardS S 3 1 0).2.1)), (3, iv 2147483647), (0, .ref x), (1, iv pp), (2, iv qq)] → W p l e rm_L_refuses s m args below meth c H locs 1093 249405 Q (F0 m 737 ls [])) : ∀ (H : Heap) (locs : List Loc) (ls : Array Slot), HI D cy B s.heap H locs x S → lv_has ls 14 [(13, iv 1), (12, iv (-2147483648)), (11, iv (-2147483648)), (10, iv (-2147483648)), (9, iv (-2147483648)), (8, iv (-2147483648)), (7, iv (-2147483648)), (6, iv 3), (5, iv ((callRun S 500 1).2.1)), (4, iv ((boardS S 3 1 0).2.1)), (3, iv 2147483647), (0, .ref x), (1, iv pp), (2, iv qq)] → W p l e rm_L_refuses s m args below meth c H locs 1003 228795 Q (F0 m 536 ls []) := by
  intro H locs ls hI hl
  have hok := hI.ok
  have hn6 := hok.2.2.1
  have hn60 := hok.2.2.2.2.1
  refine lv_iload C.1.1 C.1.2.1 dL_refuses_536 (lv_at hl 0 rfl) ?_
  refine fl_if_eq (tgt := 729) C.1 (rgk 1 rfl) dL_refuses_538 (by decide) (fun h => absurd h (by decide)) (fun _ => ?_)
  refine lv_aload_n C.1.1 C.1.2.1 dL_refuses_541 rfl (lv_at hl 11 rfl) ?_
  refine fl_bipush C.1 dL_refuses_542 (by decide) ?_
  refine lv_iload C.1.1 C.1.2.1 dL_refuses_544 (lv_at hl 5 rfl) ?_
  refine fl_iconst C.1 dL_refuses_546 ?_
  refine fl_iconst C.1 dL_refuses_547 ?_
  refine k_act hst C ⟨(Nat.le_of_ble_eq_true rfl), (Nat.le_of_ble_eq_true rfl)⟩ hI hl.1 (rgk 10 rfl) (rgk (-2147483648) rfl) (rgk 0 rfl) (rgk 0 rfl) (rA_rejudge (by omega)) (Nat.le_of_ble_eq_true rfl) ⟨(Nat.le_of_ble_eq_true rfl), (Nat.le_of_ble_eq_true rfl)⟩ dL_refuses_548 (fun H locs hI _ => ?_)
  refine fl_ldc (n := (-7000001)) C.1 aw_801 rfl dL_refuses_551 ?_
  refine fl_icmp_ne (tgt := 729) C.1 (rgk (-7000001) rfl) (rgk (-7000001) rfl) dL_refuses_553 (by decide) (fun h => absurd rfl h) (fun _ => ?_)
  refine lv_aload_n C.1.1 C.1.2.1 dL_refuses_556 rfl (lv_at hl 11 rfl) ?_
  refine fl_bipush C.1 dL_refuses_557 (by decide) ?_
  refine lv_iload C.1.1 C.1.2.1 dL_refuses_559 (lv_at hl 4 rfl) ?_
  refine fl_bipush C.1 dL_refuses_561 (by decide) ?_
  refine fl_iconst C.1 dL_refuses_563 ?_
  refine k_act hst C ⟨(Nat.le_of_ble_eq_true rfl), (Nat.le_of_ble_eq_true rfl)⟩ hI hl.1 (rgk 11 rfl) (rgk (-2147483648) rfl) (rgk 9 rfl) (rgk 0 rfl) (rA_entry (by omega)) (Nat.le_of_ble_eq_true rfl) ⟨(Nat.le_of_ble_eq_true rfl), (Nat.le_of_ble_eq_true rfl)⟩ dL_refuses_564 (fun H locs hI _ => ?_)
  refine fl_ldc (n := (-7000001)) C.1 aw_801 rfl dL_refuses_567 ?_
  refine fl_icmp_ne (tgt := 729) C.1 (rgk (-7000001) rfl) (rgk (-7000001) rfl) dL_refuses_569 (by decide) (fun h => absurd rfl h) (fun _ => ?_)
  refine lv_aload_n C.1.1 C.1.2.1 dL_refuses_572 rfl (lv_at hl 11 rfl) ?_
  refine fl_bipush C.1 dL_refuses_573 (by decide) ?_
  refine lv_iload C.1.1 C.1.2.1 dL_refuses_575 (lv_at hl 4 rfl) ?_
  refine fl_iconst C.1 dL_refuses_577 ?_
  refine fl_iconst C.1 dL_refuses_578 ?_
  refine k_act hst C ⟨(Nat.le_of_ble_eq_true rfl), (Nat.le_of_ble_eq_true rfl)⟩ hI hl.1 (rgk 12 rfl) (rgk (-2147483648) rfl) (rgk 0 rfl) (rgk 0 rfl) (rA_likeness (by omega)) (Nat.le_of_ble_eq_true rfl) ⟨(Nat.le_of_ble_eq_true rfl), (Nat.le_of_ble_eq_true rfl)⟩ dL_refuses_579 (fun H locs hI _ => ?_)
  refine fl_ldc (n := (-7000001)) C.1 aw_801 rfl dL_refuses_582 ?_
  refine fl_icmp_ne (tgt := 729) C.1 (rgk (-7000001) rfl) (rgk (-7000001) rfl) dL_refuses_584 (by decide) (fun h => absurd rfl h) (fun _ => ?_)
  refine lv_aload_n C.1.1 C.1.2.1 dL_refuses_587 rfl (lv_at hl 11 rfl) ?_
  refine fl_bipush C.1 dL_refuses_588 (by decide) ?_
  refine fl_iconst C.1 dL_refuses_590 ?_
  refine lv_iload C.1.1 C.1.2.1 dL_refuses_591 (lv_at hl 4 rfl) ?_
  refine fl_iconst C.1 dL_refuses_593 ?_
  refine k_act hst C ⟨(Nat.le_of_ble_eq_true rfl), (Nat.le_of_ble_eq_true rfl)⟩ hI hl.1 (rgk 12 rfl) (rgk 0 rfl) (rgk (-2147483648) rfl) (rgk 0 rfl) (rA_likeness (by omega)) (Nat.le_of_ble_eq_true rfl) ⟨(Nat.le_of_ble_eq_true rfl), (Nat.le_of_ble_eq_true rfl)⟩ dL_refuses_594 (fun H locs hI _ => ?_)
  refine fl_ldc (n := (-7000001)) C.1 aw_801 rfl dL_refuses_597 ?_
  refine fl_icmp_ne (tgt := 729) C.1 (rgk (-7000001) rfl) (rgk (-7000001) rfl) dL_refuses_599 (by decide) (fun h => absurd rfl h) (fun _ => ?_)
  refine lv_aload_n C.1.1 C.1.2.1 dL_refuses_602 rfl (lv_at hl 11 rfl) ?_
  refine fl_bipush C.1 dL_refuses_603 (by decide) ?_
  refine lv_iload C.1.1 C.1.2.1 dL_refuses_605 (lv_at hl 7 rfl) ?_
  refine fl_if_ne (tgt := 615) C.1 (rgk 3 rfl) dL_refuses_607 (by decide) (fun _ => ?_) (fun h => absurd h (by decide))
  refine lv_iload C.1.1 C.1.2.1 dL_refuses_615 (lv_at hl 7 rfl) ?_
  refine fl_iconst C.1 dL_refuses_617 ?_
  refine fl_icmp_ne (tgt := 627) C.1 (rgk 3 rfl) (rgk 1 rfl) dL_refuses_618 (by decide) (fun _ => ?_) (fun h => absurd h (by decide))
  refine lv_iload C.1.1 C.1.2.1 dL_refuses_627 (lv_at hl 6 rfl) ?_
  refine fl_iconst C.1 dL_refuses_629 ?_
  refine fl_iconst C.1 dL_refuses_630 ?_
  refine k_act hst C ⟨(Nat.le_of_ble_eq_true rfl), (Nat.le_of_ble_eq_true rfl)⟩ hI hl.1 (rgk 13 rfl) (rgk (-2147483648) rfl) (rgk 0 rfl) (rgk 0 rfl) (rA_freeze (by omega)) (Nat.le_of_ble_eq_true rfl) ⟨(Nat.le_of_ble_eq_true rfl), (Nat.le_of_ble_eq_true rfl)⟩ dL_refuses_631 (fun H locs hI _ => ?_)
  refine fl_ldc (n := (-7000002)) C.1 aw_802 rfl dL_refuses_634 ?_
  refine fl_icmp_ne (tgt := 729) C.1 (rgk (-7000002) rfl) (rgk (-7000002) rfl) dL_refuses_636 (by decide) (fun h => absurd rfl h) (fun _ => ?_)
  refine lv_aload_n C.1.1 C.1.2.1 dL_refuses_639 rfl (lv_at hl 11 rfl) ?_
  refine fl_bipush C.1 dL_refuses_640 (by decide) ?_
  refine lv_iload C.1.1 C.1.2.1 dL_refuses_642 (lv_at hl 3 rfl) ?_
  refine fl_iconst C.1 dL_refuses_644 ?_
  refine fl_bipush C.1 dL_refuses_645 (by decide) ?_
  refine k_act hst C ⟨(Nat.le_of_ble_eq_true rfl), (Nat.le_of_ble_eq_true rfl)⟩ hI hl.1 (rgk 14 rfl) (rgk (-2147483648) rfl) (rgk 0 rfl) (rgk 9 rfl) (rA_board (by omega)) (Nat.le_of_ble_eq_true rfl) ⟨(Nat.le_of_ble_eq_true rfl), (Nat.le_of_ble_eq_true rfl)⟩ dL_refuses_647 (fun H locs hI _ => ?_)
  refine fl_ldc (n := (-7000001)) C.1 aw_801 rfl dL_refuses_650 ?_
  refine fl_icmp_ne (tgt := 729) C.1 (rgk (-7000001) rfl) (rgk (-7000001) rfl) dL_refuses_652 (by decide) (fun h => absurd rfl h) (fun _ => ?_)
  refine lv_aload_n C.1.1 C.1.2.1 dL_refuses_655 rfl (lv_at hl 11 rfl) ?_
  refine fl_bipush C.1 dL_refuses_656 (by decide) ?_
  refine fl_iconst C.1 dL_refuses_658 ?_
  refine fl_iconst C.1 dL_refuses_659 ?_
  refine lv_iload C.1.1 C.1.2.1 dL_refuses_660 (lv_at hl 7 rfl) ?_
  refine fl_iconst C.1 dL_refuses_662 ?_
  refine fl_icmp_ne (tgt := 670) C.1 (rgk 3 rfl) (rgk 1 rfl) dL_refuses_663 (by decide) (fun _ => ?_) (fun h => absurd h (by decide))
  refine lv_iload C.1.1 C.1.2.1 dL_refuses_670 (lv_at hl 6 rfl) ?_
  refine k_act hst C ⟨(Nat.le_of_ble_eq_true rfl), (Nat.le_of_ble_eq_true rfl)⟩ hI hl.1 (rgk 14 rfl) (rgk 0 rfl) (rgk 0 rfl) (rgk (-2147483648) rfl) (rA_board2 (by omega)) (Nat.le_of_ble_eq_true rfl) ⟨(Nat.le_of_ble_eq_true rfl), (Nat.le_of_ble_eq_true rfl)⟩ dL_refuses_672 (fun H locs hI _ => ?_)
  refine fl_ldc (n := (-7000002)) C.1 aw_802 rfl dL_refuses_675 ?_
  refine fl_icmp_ne (tgt := 729) C.1 (rgk (-7000002) rfl) (rgk (-7000002) rfl) dL_refuses_677 (by decide) (fun h => absurd rfl h) (fun _ => ?_)
  refine lv_aload_n C.1.1 C.1.2.1 dL_refuses_680 rfl (lv_at hl 11 rfl) ?_
  refine fl_bipush C.1 dL_refuses_681 (by decide) ?_
  refine lv_iload C.1.1 C.1.2.1 dL_refuses_683 (lv_at hl 3 rfl) ?_
  refine fl_iconst C.1 dL_refuses_685 ?_
  refine fl_iconst C.1 dL_refuses_686 ?_
  refine k_act hst C ⟨(Nat.le_of_ble_eq_true rfl), (Nat.le_of_ble_eq_true rfl)⟩ hI hl.1 (rgk 15 rfl) (rgk (-2147483648) rfl) (rgk 0 rfl) (rgk 0 rfl) (rA_placeAnew (by omega)) (Nat.le_of_ble_eq_true rfl) ⟨(Nat.le_of_ble_eq_true rfl), (Nat.le_of_ble_eq_true rfl)⟩ dL_refuses_687 (fun H locs hI _ => ?_)
  refine fl_ldc (n := (-7000001)) C.1 aw_801 rfl dL_refuses_690 ?_
  refine fl_icmp_ne (tgt := 729) C.1 (rgk (-7000001) rfl) (rgk (-7000001) rfl) dL_refuses_692 (by decide) (fun h => absurd rfl h) (fun _ => ?_)
  refine lv_aload_n C.1.1 C.1.2.1 dL_refuses_695 rfl (lv_at hl 11 rfl) ?_
  refine fl_bipush C.1 dL_refuses_696 (by decide) ?_
  refine lv_iload C.1.1 C.1.2.1 dL_refuses_698 (lv_at hl 3 rfl) ?_
  refine fl_iconst C.1 dL_refuses_700 ?_
  refine fl_iconst C.1 dL_refuses_701 ?_
  refine k_act hst C ⟨(Nat.le_of_ble_eq_true rfl), (Nat.le_of_ble_eq_true rfl)⟩ hI hl.1 (rgk 16 rfl) (rgk (-2147483648) rfl) (rgk 0 rfl) (rgk 0 rfl) (rA_hack (by omega)) (Nat.le_of_ble_eq_true rfl) ⟨(Nat.le_of_ble_eq_true rfl), (Nat.le_of_ble_eq_true rfl)⟩ dL_refuses_702 (fun H locs hI _ => ?_)
  refine fl_ldc (n := (-7000001)) C.1 aw_801 rfl dL_refuses_705 ?_
  refine fl_icmp_ne (tgt := 729) C.1 (rgk (-7000001) rfl) (rgk (-7000001) rfl) dL_refuses_707 (by decide) (fun h => absurd rfl h) (fun _ => ?_)
  refine lv_aload_n C.1.1 C.1.2.1 dL_refuses_710 rfl (lv_at hl 11 rfl) ?_
  refine fl_bipush C.1 dL_refuses_711 (by decide) ?_
  refine fl_iconst C.1 dL_refuses_713 ?_
  refine lv_iload C.1.1 C.1.2.1 dL_refuses_714 (lv_at hl 4 rfl) ?_
  refine fl_iconst C.1 dL_refuses_716 ?_
  refine k_act hst C ⟨(Nat.le_of_ble_eq_true rfl), (Nat.le_of_ble_eq_true rfl)⟩ hI hl.1 (rgk 16 rfl) (rgk 0 rfl) (rgk (-2147483648) rfl) (rgk 0 rfl) (rA_hack (by omega)) (Nat.le_of_ble_eq_true rfl) ⟨(Nat.le_of_ble_eq_true rfl), (Nat.le_of_ble_eq_true rfl)⟩ dL_refuses_717 (fun H locs hI _ => ?_)
  refine fl_ldc (n := (-7000001)) C.1 aw_801 rfl dL_refuses_720 ?_
  refine fl_icmp_ne (tgt := 729) C.1 (rgk (-7000001) rfl) (rgk (-7000001) rfl) dL_refuses_722 (by decide) (fun h => absurd rfl h) (fun _ => ?_)
  refine fl_iconst C.1 dL_refuses_725 ?_
  refine fl_goto (tgt := 730) C.1 dL_refuses_726 (by decide) ?_
  refine lv_istore (lv' := [(13, iv 1), (12, iv (-2147483648)), (11, iv (-2147483648)), (10, iv (-2147483648)), (9, iv (-2147483648)), (8, iv (-2147483648)), (7, iv (-2147483648)), (6, iv 3), (5, iv ((callRun S 500 1).2.1)), (4, iv ((boardS S 3 1 0).2.1)), (3, iv 2147483647), (0, .ref x), (1, iv pp), (2, iv qq)]) C.1.1 C.1.2.1 dL_refuses_730 hl (by decide) rfl (fun ls hl => ?_)
  refine lv_iload C.1.1 C.1.2.1 dL_refuses_732 (lv_at hl 0 rfl) ?_
  refine fl_if_eq (tgt := 825) C.1 (rgk 1 rfl) dL_refuses_734 (by decide) (fun h => absurd h (by decide)) (fun _ => ?_)
  exact W.widen (Nat.le_of_ble_eq_true rfl) (Nat.le_of_ble_eq_true rfl) (kk H locs ls hI hl)
set_option maxRecDepth 100000 in
set_option maxHeartbeats 4000000 in
theorem w_ref_3_2 (hst : l.stackTraces = false) (C : LC p s m meth c D cy B cL_refuses 14) (rp : rg pp) (rq : rg qq) (hp : pp = (S.np : Int)) (hq : qq = (S.ne : Int)) (rbv : rg (boardS S 3 1 0).2.1) (rsv : rg (callRun S 500 1).2.1) (kk : ∀ (H : Heap) (locs : List Loc) (ls : Array Slot), HI D cy B s.heap H locs x S → lv_has ls 14 [(13, iv 1), (12, iv (-2147483648)), (11, iv (-2147483648)), (10, iv (-2147483648)), (9, iv (-2147483648)), (8, iv (-2147483648)), (7, iv (-2147483648)), (6, iv 3), (5, iv ((callRun S 500 1).2.1)), (4, iv ((boardS S 3 1 0).2.1)), (3, iv 2147483647), (0, .ref x), (1, iv pp), (2, iv qq)] → W p l e rm_L_refuses s m args below meth c H locs 1111 253527 Q (F0 m 791 ls [])) : ∀ (H : Heap) (locs : List Loc) (ls : Array Slot), HI D cy B s.heap H locs x S → lv_has ls 14 [(13, iv 1), (12, iv (-2147483648)), (11, iv (-2147483648)), (10, iv (-2147483648)), (9, iv (-2147483648)), (8, iv (-2147483648)), (7, iv (-2147483648)), (6, iv 3), (5, iv ((callRun S 500 1).2.1)), (4, iv ((boardS S 3 1 0).2.1)), (3, iv 2147483647), (0, .ref x), (1, iv pp), (2, iv qq)] → W p l e rm_L_refuses s m args below meth c H locs 1093 249405 Q (F0 m 737 ls []) := by
  intro H locs ls hI hl
  have hok := hI.ok
  have hn6 := hok.2.2.1
  have hn60 := hok.2.2.2.2.1
  refine lv_iload_n C.1.1 C.1.2.1 dL_refuses_737 rfl (lv_at hl 12 rfl) ?_
  refine fl_if_eq (tgt := 791) C.1 rp dL_refuses_738 (by decide) (fun _ => W.widen (Nat.le_of_ble_eq_true rfl) (Nat.le_of_ble_eq_true rfl) (kk H locs ls hI (lv_sub hl [0, 1, 2, 3, 4, 5, 6, 7, 8, 9, 10, 11, 12, 13] rfl))) (fun hz => ?_)
  refine lv_aload_n C.1.1 C.1.2.1 dL_refuses_741 rfl (lv_at hl 11 rfl) ?_
  refine fl_iconst C.1 dL_refuses_742 ?_
  refine fl_iconst C.1 dL_refuses_743 ?_
  refine fl_iconst C.1 dL_refuses_744 ?_
  refine lv_iload C.1.1 C.1.2.1 dL_refuses_745 (lv_at hl 7 rfl) ?_
  refine fl_iconst C.1 dL_refuses_747 ?_
  refine fl_icmp_ne (tgt := 756) C.1 (rgk 3 rfl) (rgk 1 rfl) dL_refuses_748 (by decide) (fun _ => ?_) (fun h => absurd h (by decide))
  refine lv_iload C.1.1 C.1.2.1 dL_refuses_756 (lv_at hl 6 rfl) ?_
  refine k_act hst C ⟨(Nat.le_of_ble_eq_true rfl), (Nat.le_of_ble_eq_true rfl)⟩ hI hl.1 (rgk 5 rfl) (rgk 0 rfl) (rgk 0 rfl) (rgk (-2147483648) rfl) (rA_points2 (by omega)) (Nat.le_of_ble_eq_true rfl) ⟨(Nat.le_of_ble_eq_true rfl), (Nat.le_of_ble_eq_true rfl)⟩ dL_refuses_758 (fun H locs hI _ => ?_)
  refine fl_ldc (n := (-7000002)) C.1 aw_802 rfl dL_refuses_761 ?_
  refine fl_icmp_ne (tgt := 825) C.1 (rgk (-7000002) rfl) (rgk (-7000002) rfl) dL_refuses_763 (by decide) (fun h => absurd rfl h) (fun _ => ?_)
  refine lv_aload_n C.1.1 C.1.2.1 dL_refuses_766 rfl (lv_at hl 11 rfl) ?_
  refine fl_bipush C.1 dL_refuses_767 (by decide) ?_
  refine fl_iconst C.1 dL_refuses_769 ?_
  refine lv_iload C.1.1 C.1.2.1 dL_refuses_770 (lv_at hl 7 rfl) ?_
  refine fl_iconst C.1 dL_refuses_772 ?_
  refine fl_icmp_ne (tgt := 780) C.1 (rgk 3 rfl) (rgk 1 rfl) dL_refuses_773 (by decide) (fun _ => ?_) (fun h => absurd h (by decide))
  refine lv_iload C.1.1 C.1.2.1 dL_refuses_780 (lv_at hl 6 rfl) ?_
  refine fl_iconst C.1 dL_refuses_782 ?_
  refine k_act hst C ⟨(Nat.le_of_ble_eq_true rfl), (Nat.le_of_ble_eq_true rfl)⟩ hI hl.1 (rgk 6 rfl) (rgk 0 rfl) (rgk (-2147483648) rfl) (rgk 0 rfl) (rA_mend2 (by omega)) (Nat.le_of_ble_eq_true rfl) ⟨(Nat.le_of_ble_eq_true rfl), (Nat.le_of_ble_eq_true rfl)⟩ dL_refuses_783 (fun H locs hI _ => ?_)
  refine fl_ldc (n := (-7000002)) C.1 aw_802 rfl dL_refuses_786 ?_
  refine fl_icmp_ne (tgt := 825) C.1 (rgk (-7000002) rfl) (rgk (-7000002) rfl) dL_refuses_788 (by decide) (fun h => absurd rfl h) (fun _ => ?_)
  exact W.widen (Nat.le_of_ble_eq_true rfl) (Nat.le_of_ble_eq_true rfl) (kk H locs ls hI hl)
set_option maxRecDepth 100000 in
set_option maxHeartbeats 4000000 in
theorem w_ref_3_3 (hst : l.stackTraces = false) (C : LC p s m meth c D cy B cL_refuses 14) (rp : rg pp) (rq : rg qq) (hp : pp = (S.np : Int)) (hq : qq = (S.ne : Int)) (rbv : rg (boardS S 3 1 0).2.1) (rsv : rg (callRun S 500 1).2.1) (kk : ∀ (H : Heap) (locs : List Loc) (ls : Array Slot), HI D cy B s.heap H locs x S → lv_has ls 14 [(13, iv 1), (12, iv (-2147483648)), (11, iv (-2147483648)), (10, iv (-2147483648)), (9, iv (-2147483648)), (8, iv (-2147483648)), (7, iv (-2147483648)), (6, iv 3), (5, iv ((callRun S 500 1).2.1)), (4, iv ((boardS S 3 1 0).2.1)), (3, iv 2147483647), (0, .ref x), (1, iv pp), (2, iv qq)] → W p l e rm_L_refuses s m args below meth c H locs 1120 255588 Q (F0 m 821 ls [])) : ∀ (H : Heap) (locs : List Loc) (ls : Array Slot), HI D cy B s.heap H locs x S → lv_has ls 14 [(13, iv 1), (12, iv (-2147483648)), (11, iv (-2147483648)), (10, iv (-2147483648)), (9, iv (-2147483648)), (8, iv (-2147483648)), (7, iv (-2147483648)), (6, iv 3), (5, iv ((callRun S 500 1).2.1)), (4, iv ((boardS S 3 1 0).2.1)), (3, iv 2147483647), (0, .ref x), (1, iv pp), (2, iv qq)] → W p l e rm_L_refuses s m args below meth c H locs 1111 253527 Q (F0 m 791 ls []) := by
  intro H locs ls hI hl
  have hok := hI.ok
  have hn6 := hok.2.2.1
  have hn60 := hok.2.2.2.2.1
  refine lv_iload_n C.1.1 C.1.2.1 dL_refuses_791 rfl (lv_at hl 13 rfl) ?_
  refine fl_if_eq (tgt := 821) C.1 rq dL_refuses_792 (by decide) (fun _ => W.widen (Nat.le_of_ble_eq_true rfl) (Nat.le_of_ble_eq_true rfl) (kk H locs ls hI (lv_sub hl [0, 1, 2, 3, 4, 5, 6, 7, 8, 9, 10, 11, 12, 13] rfl))) (fun hz => ?_)
  refine lv_aload_n C.1.1 C.1.2.1 dL_refuses_795 rfl (lv_at hl 11 rfl) ?_
  refine fl_bipush C.1 dL_refuses_796 (by decide) ?_
  refine fl_iconst C.1 dL_refuses_798 ?_
  refine lv_iload C.1.1 C.1.2.1 dL_refuses_799 (lv_at hl 7 rfl) ?_
  refine fl_iconst C.1 dL_refuses_801 ?_
  refine fl_icmp_ne (tgt := 810) C.1 (rgk 3 rfl) (rgk 1 rfl) dL_refuses_802 (by decide) (fun _ => ?_) (fun h => absurd h (by decide))
  refine lv_iload C.1.1 C.1.2.1 dL_refuses_810 (lv_at hl 6 rfl) ?_
  refine fl_iconst C.1 dL_refuses_812 ?_
  refine k_act hst C ⟨(Nat.le_of_ble_eq_true rfl), (Nat.le_of_ble_eq_true rfl)⟩ hI hl.1 (rgk 11 rfl) (rgk 0 rfl) (rgk (-2147483648) rfl) (rgk 0 rfl) (rA_entry2 (by omega)) (Nat.le_of_ble_eq_true rfl) ⟨(Nat.le_of_ble_eq_true rfl), (Nat.le_of_ble_eq_true rfl)⟩ dL_refuses_813 (fun H locs hI _ => ?_)
  refine fl_ldc (n := (-7000002)) C.1 aw_802 rfl dL_refuses_816 ?_
  refine fl_icmp_ne (tgt := 825) C.1 (rgk (-7000002) rfl) (rgk (-7000002) rfl) dL_refuses_818 (by decide) (fun h => absurd rfl h) (fun _ => ?_)
  exact W.widen (Nat.le_of_ble_eq_true rfl) (Nat.le_of_ble_eq_true rfl) (kk H locs ls hI hl)
set_option maxRecDepth 100000 in
set_option maxHeartbeats 4000000 in
theorem w_ref_3_4 (hst : l.stackTraces = false) (C : LC p s m meth c D cy B cL_refuses 14) (rp : rg pp) (rq : rg qq) (hp : pp = (S.np : Int)) (hq : qq = (S.ne : Int)) (rbv : rg (boardS S 3 1 0).2.1) (rsv : rg (callRun S 500 1).2.1) (kk : ∀ (H : Heap) (locs : List Loc) (ls : Array Slot), HI D cy B s.heap H locs x S → lv_has ls 14 [(6, iv 4), (13, iv 1), (12, iv (-2147483648)), (11, iv (-2147483648)), (10, iv (-2147483648)), (9, iv (-2147483648)), (8, iv (-2147483648)), (7, iv (-2147483648)), (5, iv ((callRun S 500 1).2.1)), (4, iv ((boardS S 3 1 0).2.1)), (3, iv 2147483647), (0, .ref x), (1, iv pp), (2, iv qq)] → W p l e rm_L_refuses s m args below meth c H locs 1120 255588 Q (F0 m 25 ls [])) : ∀ (H : Heap) (locs : List Loc) (ls : Array Slot), HI D cy B s.heap H locs x S → lv_has ls 14 [(13, iv 1), (12, iv (-2147483648)), (11, iv (-2147483648)), (10, iv (-2147483648)), (9, iv (-2147483648)), (8, iv (-2147483648)), (7, iv (-2147483648)), (6, iv 3), (5, iv ((callRun S 500 1).2.1)), (4, iv ((boardS S 3 1 0).2.1)), (3, iv 2147483647), (0, .ref x), (1, iv pp), (2, iv qq)] → W p l e rm_L_refuses s m args below meth c H locs 1120 255588 Q (F0 m 821 ls []) := by
  intro H locs ls hI hl
  have hok := hI.ok
  have hn6 := hok.2.2.1
  have hn60 := hok.2.2.2.2.1
  refine fl_iconst C.1 dL_refuses_821 ?_
  refine fl_goto (tgt := 826) C.1 dL_refuses_822 (by decide) ?_
  refine lv_istore (lv' := [(13, iv 1), (12, iv (-2147483648)), (11, iv (-2147483648)), (10, iv (-2147483648)), (9, iv (-2147483648)), (8, iv (-2147483648)), (7, iv (-2147483648)), (6, iv 3), (5, iv ((callRun S 500 1).2.1)), (4, iv ((boardS S 3 1 0).2.1)), (3, iv 2147483647), (0, .ref x), (1, iv pp), (2, iv qq)]) C.1.1 C.1.2.1 dL_refuses_826 hl (by decide) rfl (fun ls hl => ?_)
  refine lv_iload C.1.1 C.1.2.1 dL_refuses_828 (lv_at hl 0 rfl) ?_
  refine fl_if_ne (tgt := 835) C.1 (rgk 1 rfl) dL_refuses_830 (by decide) (fun _ => ?_) (fun h => absurd h (by decide))
  refine fl_iinc (k := 7) (lv' := [(6, iv (wr (3 + 1))), (13, iv 1), (12, iv (-2147483648)), (11, iv (-2147483648)), (10, iv (-2147483648)), (9, iv (-2147483648)), (8, iv (-2147483648)), (7, iv (-2147483648)), (5, iv ((callRun S 500 1).2.1)), (4, iv ((boardS S 3 1 0).2.1)), (3, iv 2147483647), (0, .ref x), (1, iv pp), (2, iv qq)]) C.1 dL_refuses_835 hl rfl (by decide) rfl (fun ls hl => ?_)
  rw [show wr (3 + 1) = (4 : Int) from by decide +kernel] at hl
  refine fl_goto (tgt := 25) C.1 dL_refuses_838 (by decide) ?_
  exact W.widen (Nat.le_of_ble_eq_true rfl) (Nat.le_of_ble_eq_true rfl) (kk H locs ls hI hl)
set_option maxRecDepth 100000 in
set_option maxHeartbeats 4000000 in
theorem w_ref_z (hst : l.stackTraces = false) (C : LC p s m meth c D cy B cL_refuses 14) (rp : rg pp) (rq : rg qq) (hp : pp = (S.np : Int)) (hq : qq = (S.ne : Int)) (rbv : rg (boardS S 3 1 0).2.1) (rsv : rg (callRun S 500 1).2.1) (hr : meth.sig.returnType = some .boolean) : ∀ (H : Heap) (locs : List Loc) (ls : Array Slot), HI D cy B s.heap H locs x S → lv_has ls 14 [(6, iv 4), (13, iv 1), (12, iv (-2147483648)), (11, iv (-2147483648)), (10, iv (-2147483648)), (9, iv (-2147483648)), (8, iv (-2147483648)), (7, iv (-2147483648)), (5, iv ((callRun S 500 1).2.1)), (4, iv ((boardS S 3 1 0).2.1)), (3, iv 2147483647), (0, .ref x), (1, iv pp), (2, iv qq)] → W p l e rm_L_refuses s m args below meth c H locs 1120 255588 (MQ below (HQ D cy B x 1 S) args s 1124 255612 (fun q => B ≤ q)) (F0 m 25 ls []) := by
  intro H locs ls hI hl
  have hok := hI.ok
  have hn6 := hok.2.2.1
  have hn60 := hok.2.2.2.2.1
  refine lv_iload C.1.1 C.1.2.1 dL_refuses_25 (lv_at hl 0 rfl) ?_
  refine fl_iconst C.1 dL_refuses_27 ?_
  refine fl_icmp_ge (tgt := 841) C.1 (rgk 4 rfl) (rgk 4 rfl) dL_refuses_28 (by decide) (fun _ => ?_) (fun h => absurd (by decide) h)
  refine lv_aload_n C.1.1 C.1.2.1 dL_refuses_841 rfl (lv_at hl 11 rfl) ?_
  refine fl_iconst C.1 dL_refuses_842 ?_
  refine fl_iconst C.1 dL_refuses_843 ?_
  refine fl_iconst C.1 dL_refuses_844 ?_
  refine j_board hst C (by exact ⟨(Nat.le_of_ble_eq_true rfl), (Nat.le_of_ble_eq_true rfl)⟩) hI hl.1 (rgk 3 rfl) (rgk 1 rfl) (rgk 0 rfl) (Prod.ext (board0) (Prod.ext (show (boardS S 3 1 0).2.1 = _ from rfl) board_st) : boardS S 3 1 0 = (0, (boardS S 3 1 0).2.1, S)) (Nat.le_of_ble_eq_true rfl) ⟨(Nat.le_of_ble_eq_true rfl), (Nat.le_of_ble_eq_true rfl)⟩ dL_refuses_845 (fun H locs hI rbv => ?_)
  refine lv_iload C.1.1 C.1.2.1 dL_refuses_848 (lv_at hl 9 rfl) ?_
  refine fl_icmp_ne (tgt := 870) C.1 rbv rbv dL_refuses_850 (by decide) (fun h => absurd rfl h) (fun _ => ?_)
  refine lv_aload_n C.1.1 C.1.2.1 dL_refuses_853 rfl (lv_at hl 11 rfl) ?_
  refine fl_sipush C.1 dL_refuses_854 (by decide) ?_
  refine fl_iconst C.1 dL_refuses_857 ?_
  refine j_run hst C (by exact ⟨(Nat.le_of_ble_eq_true rfl), (Nat.le_of_ble_eq_true rfl)⟩) hI hl.1 (rgk 500 rfl) (rgk 1 rfl) (Prod.ext (run0) (Prod.ext (show (callRun S 500 1).2.1 = _ from rfl) run_st) : callRun S 500 1 = (0, (callRun S 500 1).2.1, S)) (Nat.le_of_ble_eq_true rfl) ⟨(Nat.le_of_ble_eq_true rfl), (Nat.le_of_ble_eq_true rfl)⟩ dL_refuses_858 (fun H locs hI rsv => ?_)
  refine lv_iload C.1.1 C.1.2.1 dL_refuses_861 (lv_at hl 8 rfl) ?_
  refine fl_icmp_ne (tgt := 870) C.1 rsv rsv dL_refuses_863 (by decide) (fun h => absurd rfl h) (fun _ => ?_)
  refine fl_iconst C.1 dL_refuses_866 ?_
  refine fl_goto (tgt := 871) C.1 dL_refuses_867 (by decide) ?_
  exact k_zret C hI hr (rgk 1 rfl) (Or.inr rfl) dL_refuses_871 (Nat.le_of_ble_eq_true rfl) (Nat.le_of_ble_eq_true rfl)
set_option maxRecDepth 100000 in
set_option maxHeartbeats 4000000 in
theorem d_refuses (hst : l.stackTraces = false) (rp : rg pp) (rq : rg qq) (hp : pp = (S.np : Int)) (hq : qq = (S.ne : Int)) : Met l yL_refuses [.code yL_refuses cL_refuses 14 (some .boolean)] rm_L_refuses (va_Pc [.ref x, iv pp, iv qq] (HW D cy B x S)) (HQ D cy B x 1 S) 1124 255612 (fun q => B ≤ q) := by
  refine hb_body (by decide) rfl (Nat.le_of_ble_eq_true rfl) ?_
  intro p e s m args below meth c ls C hr hI hl
  have hl : lv_has ls 14 [(0, .ref x), (1, iv pp), (2, iv qq)] := hl
  refine fl_ldc (n := 2147483647) C.1 aw_807 rfl dL_refuses_0 ?_
  refine lv_istore_n (lv' := [(3, iv 2147483647), (0, .ref x), (1, iv pp), (2, iv qq)]) C.1.1 C.1.2.1 dL_refuses_2 rfl hl (by decide) rfl (fun ls hl => ?_)
  refine lv_aload_n C.1.1 C.1.2.1 dL_refuses_3 rfl (lv_at hl 1 rfl) ?_
  refine fl_iconst C.1 dL_refuses_4 ?_
  refine fl_iconst C.1 dL_refuses_5 ?_
  refine fl_iconst C.1 dL_refuses_6 ?_
  refine j_board hst C (by exact ⟨(Nat.le_of_ble_eq_true rfl), (Nat.le_of_ble_eq_true rfl)⟩) hI hl.1 (rgk 3 rfl) (rgk 1 rfl) (rgk 0 rfl) (v := (boardS S 3 1 0).2.1) (S' := S) (Prod.ext board0 (Prod.ext rfl board_st)) (Nat.le_of_ble_eq_true rfl) ⟨(Nat.le_of_ble_eq_true rfl), (Nat.le_of_ble_eq_true rfl)⟩ dL_refuses_7 (fun H locs hI rbv => ?_)
  refine lv_istore (lv' := [(4, iv (boardS S 3 1 0).2.1), (3, iv 2147483647), (0, .ref x), (1, iv pp), (2, iv qq)]) C.1.1 C.1.2.1 dL_refuses_10 hl (by decide) rfl (fun ls hl => ?_)
  refine lv_aload_n C.1.1 C.1.2.1 dL_refuses_12 rfl (lv_at hl 2 rfl) ?_
  refine fl_sipush C.1 dL_refuses_13 (by decide) ?_
  refine fl_iconst C.1 dL_refuses_16 ?_
  refine j_run hst C (by exact ⟨(Nat.le_of_ble_eq_true rfl), (Nat.le_of_ble_eq_true rfl)⟩) hI hl.1 (rgk 500 rfl) (rgk 1 rfl) (v := (callRun S 500 1).2.1) (S' := S) (Prod.ext run0 (Prod.ext rfl run_st)) (Nat.le_of_ble_eq_true rfl) ⟨(Nat.le_of_ble_eq_true rfl), (Nat.le_of_ble_eq_true rfl)⟩ dL_refuses_17 (fun H locs hI rsv => ?_)
  refine lv_istore (lv' := [(5, iv (callRun S 500 1).2.1), (4, iv (boardS S 3 1 0).2.1), (3, iv 2147483647), (0, .ref x), (1, iv pp), (2, iv qq)]) C.1.1 C.1.2.1 dL_refuses_20 hl (by decide) rfl (fun ls hl => ?_)
  exact W.widen (Nat.le_of_ble_eq_true rfl) (Nat.le_of_ble_eq_true rfl) ((w_ref_a hst C rp rq hp hq rbv rsv (w_ref_0_0 hst C rp rq hp hq rbv rsv (w_ref_0_1 hst C rp rq hp hq rbv rsv (w_ref_0_2 hst C rp rq hp hq rbv rsv (w_ref_0_3 hst C rp rq hp hq rbv rsv (w_ref_0_4 hst C rp rq hp hq rbv rsv (w_ref_1_0 hst C rp rq hp hq rbv rsv (w_ref_1_1 hst C rp rq hp hq rbv rsv (w_ref_1_2 hst C rp rq hp hq rbv rsv (w_ref_1_3 hst C rp rq hp hq rbv rsv (w_ref_1_4 hst C rp rq hp hq rbv rsv (w_ref_2_0 hst C rp rq hp hq rbv rsv (w_ref_2_1 hst C rp rq hp hq rbv rsv (w_ref_2_2 hst C rp rq hp hq rbv rsv (w_ref_2_3 hst C rp rq hp hq rbv rsv (w_ref_2_4 hst C rp rq hp hq rbv rsv (w_ref_3_0 hst C rp rq hp hq rbv rsv (w_ref_3_1 hst C rp rq hp hq rbv rsv (w_ref_3_2 hst C rp rq hp hq rbv rsv (w_ref_3_3 hst C rp rq hp hq rbv rsv (w_ref_3_4 hst C rp rq hp hq rbv rsv (w_ref_z hst C rp rq hp hq rbv rsv hr)))))))))))))))))))))) H locs ls hI hl)
theorem k_refuses (hst : l.stackTraces = false) (C : LC p s m meth c D cy B cc nL) (hR : 12 ≤ R.frames ∧ 345 ≤ R.locals) (hI : HI D cy B s.heap H locs x S) (hsz : ls.size = nL) (rp : rg pp) (rq : rg qq) (hp : pp = (S.np : Int)) (hq : qq = (S.ne : Int)) (hW : (rest.map fun v => v.category).sum ≤ 8) (hf : cells + 1124 ≤ R.cells ∧ slots + 255612 ≤ R.slots) (hdg : decode cc pc = .ok (.invokestatic 99, 3))
    (kk : ∀ (H : Heap) (locs : List Loc), HI D cy B s.heap H locs x S → rg 1 → W p l e R s m args below meth c H locs (cells + 1124) (slots + 255612) Q (F0 m (pc + 3) ls (iv 1 :: rest))) : W p l e R s m args below meth c H locs cells slots Q (F0 m pc ls (iv qq :: iv pp :: .ref x :: rest)) :=
  k_call C hI hsz (d_refuses hst rp rq hp hq) aw_804 aw_805 aw_44 aw_806 rfl pm_L_refuses rfl rfl ⟨Nat.le_trans (Nat.le_of_ble_eq_true rfl) hR.1, Nat.le_trans (Nat.le_of_ble_eq_true rfl) hR.2⟩ rfl hW hdg hf kk
end HREF
