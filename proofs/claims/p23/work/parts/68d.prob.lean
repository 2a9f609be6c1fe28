/-! THE LAW'S LOOP: a program is told, and a problem made of it -/
theorem code_is {T : Hl} {a d : Int} (h : (0 ≤ a ∧ a ≤ 9) ∧ (-99 ≤ d ∧ d ≤ 99)) (hn : T.desk.n < 16) : codeS T a d = (0, (T.desk.n : Int) + 1, T.sDesk (T.desk.app a d)) := by
  unfold codeS
  rw [if_pos h, if_pos hn]
theorem input_is {T : Hl} {a : Int} (h : -9 ≤ a ∧ a ≤ 9) (hn : T.din.n < 4) : inputS T a = (0, (T.din.n : Int) + 1, T.sDin (T.din.push a)) := by
  unfold inputS
  rw [if_pos h, if_pos hn]
section LL4
variable {p : Program} {l : Launch} {e : Env} {s : State} {m : MethodId} {args : Array Value} {below : List Frame} {meth : Method} {c : Code} {H : Heap} {locs : List Loc} {cells slots : Nat} {Q : State → Prop}
variable {D : va_G} {cy : Nat → ClassId} {b N x k : Nat} {xs : Nat → Int32} {ls : Array Slot} {rest : List Value} {S T : Hl} {w y z : Int}
set_option maxRecDepth 100000 in
set_option maxHeartbeats 4000000 in
theorem cd_loop (hst : l.stackTraces = false) (C : LC p s m meth c D cy s.heap.size cL_law 14) (hY : okY y z) {n : Nat} (hn : n ≤ 8) (hc : cells + 24 ≤ 600130) (hs : slots + 144 ≤ 7301080)
    (kk : ∀ (H : Heap) (locs : List Loc) (ls : Array Slot) (T : Hl) (cells2 slots2 : Nat), HI D cy s.heap.size s.heap H locs x T → kp S T → T.pb = S.pb → T.din.n = 0 → lv_has ls 14 ((7, iv w) :: lvB b x S k y z) → cells2 ≤ cells + 24 → slots2 ≤ slots + 144 → W p l e room_1 s m args below meth c H locs cells2 slots2 Q (F0 m 154 ls [])) :
    ∀ (d t : Nat) (H : Heap) (locs : List Loc) (ls : Array Slot) (T : Hl) (cells1 slots1 : Nat), t + d = n → T.desk.n = t → T.din.n = 0 → kp S T → T.pb = S.pb → cells1 ≤ cells + 3 * t → slots1 ≤ slots + 18 * t → HI D cy s.heap.size s.heap H locs x T → lv_has ls 14 ((11, iv (t : Int)) :: (10, iv (n : Int)) :: (7, iv w) :: lvB b x S k y z) → W p l e room_1 s m args below meth c H locs cells1 slots1 Q (F0 m 104 ls []) := by
  intro d
  induction d with
  | zero =>
    intro t H locs ls T cells1 slots1 ht hdk hdi hkp hpb hc1 hs1 hI hl
    have rt : rg (t : Int) := ⟨by omega, by omega⟩
    have rn : rg (n : Int) := ⟨by omega, by omega⟩
    refine lv_iload C.1.1 C.1.2.1 dL_law_104 (lv_at hl 0 rfl) ?_
    refine lv_iload C.1.1 C.1.2.1 dL_law_106 (lv_at hl 1 rfl) ?_
    refine fl_icmp_ge (tgt := 154) C.1 rt rn dL_law_108 (by decide) (fun _ => ?_) (fun h => absurd (show (n : Int) ≤ (t : Int) by omega) h)
    exact kk H locs ls T cells1 slots1 hI hkp hpb hdi (lv_sub hl [2, 3, 4, 5, 6, 7, 8, 9, 10] rfl) (by omega) (by omega)
  | succ d ih =>
    intro t H locs ls T cells1 slots1 ht hdk hdi hkp hpb hc1 hs1 hI hl
    have rt : rg (t : Int) := ⟨by omega, by omega⟩
    have rn : rg (n : Int) := ⟨by omega, by omega⟩
    have ht7 : t ≤ 7 := by omega
    have hq : 7 * t * t ≤ 343 := Nat.mul_le_mul (Nat.mul_le_mul_left 7 ht7) ht7
    have hu : (Int32.ofInt y).toUInt32.toNat >>> t < 1048576 := by
      rw [u32_nn (by omega), Nat.shiftRight_eq_div_pow]
      exact Nat.lt_of_le_of_lt (Nat.div_le_self _ _) (by omega)
    refine lv_iload C.1.1 C.1.2.1 dL_law_104 (lv_at hl 0 rfl) ?_
    refine lv_iload C.1.1 C.1.2.1 dL_law_106 (lv_at hl 1 rfl) ?_
    refine fl_icmp_ge (tgt := 154) C.1 rt rn dL_law_108 (by decide) (fun h => absurd h (by omega)) (fun _ => ?_)
    refine lv_aload_n C.1.1 C.1.2.1 dL_law_111 rfl (lv_at hl 7 rfl) ?_
    refine lv_iload C.1.1 C.1.2.1 dL_law_112 (lv_at hl 4 rfl) ?_
    refine fl_bipush C.1 dL_law_114 (by decide) ?_
    refine lv_iload C.1.1 C.1.2.1 dL_law_116 (lv_at hl 0 rfl) ?_
    refine h_imul (z := ((7 * t : Nat) : Int)) C.1 (by rw [wr_id (by omega) (by omega)]; omega) dL_law_118 ?_
    refine lv_iload C.1.1 C.1.2.1 dL_law_119 (lv_at hl 0 rfl) ?_
    refine h_imul (z := ((7 * t * t : Nat) : Int)) C.1 (by rw [← Int.natCast_mul]; exact wr_n _ (by omega)) dL_law_121 ?_
    generalize hqe : 7 * t * t = q at hq
    refine h_iadd (z := z + (q : Int)) C.1 (wr_id (by omega) (by omega)) dL_law_122 ?_
    refine fl_bipush C.1 dL_law_123 (by decide) ?_
    refine h_irem C.1 (by omega) (by decide) rfl dL_law_125 ?_
    refine lv_iload C.1.1 C.1.2.1 dL_law_126 (lv_at hl 3 rfl) ?_
    refine lv_iload C.1.1 C.1.2.1 dL_law_128 (lv_at hl 0 rfl) ?_
    refine lv_iushr C.1.1 C.1.2.1 dL_law_130 (ush (m := t) (by omega) rfl (Nat.lt_trans hu (by decide))) ?_
    generalize (Int32.ofInt y).toUInt32.toNat >>> t = u at hu
    refine fl_bipush C.1 dL_law_131 (by decide) ?_
    refine h_irem C.1 (by omega) (by decide) rfl dL_law_133 ?_
    refine fl_iconst C.1 dL_law_134 ?_
    refine h_isub (z := (u : Int) % 12 - 1) C.1 (wr_id (by omega) (by omega)) dL_law_135 ?_
    refine j_code hst C (by exact ⟨(Nat.le_of_ble_eq_true rfl), (Nat.le_of_ble_eq_true rfl)⟩) hI hl.1 ⟨by omega, by omega⟩ ⟨by omega, by omega⟩ (code_is ⟨by omega, by omega⟩ (by rw [hdk]; omega)) (Nat.le_of_ble_eq_true rfl) ⟨show cells1 + 3 ≤ 600130 by omega, show slots1 + 18 ≤ 7301080 by omega⟩ dL_law_136 (fun H locs hI rv => ?_)
    rw [hdk] at rv ⊢
    refine lv_iload C.1.1 C.1.2.1 dL_law_139 (lv_at hl 0 rfl) ?_
    refine fl_iconst C.1 dL_law_141 ?_
    refine h_iadd (z := (t : Int) + 1) C.1 (wr_id (by omega) (by omega)) dL_law_142 ?_
    refine fl_icmp_eq (tgt := 148) C.1 rv rv dL_law_143 (by decide) (fun _ => ?_) (fun h => absurd rfl h)
    refine fl_iinc (k := 0) (lv' := (11, iv (wr ((t : Int) + 1))) :: (10, iv (n : Int)) :: (7, iv w) :: lvB b x S k y z) C.1 dL_law_148 hl rfl (by decide) rfl (fun ls hl => ?_)
    refine fl_goto (tgt := 104) C.1 dL_law_151 (by decide) ?_
    have e5 : wr ((t : Int) + 1) = ((t + 1 : Nat) : Int) := by rw [wr_id (by omega) (by omega)]; omega
    rw [e5] at hl
    exact ih (t + 1) H locs ls (T.sDesk (T.desk.app ((z + (q : Int)) % 10) ((u : Int) % 12 - 1))) _ _ (by omega) (show T.desk.n + 1 = t + 1 by rw [hdk]) hdi hkp hpb (by omega) (by omega) hI hl
set_option maxRecDepth 100000 in
set_option maxHeartbeats 4000000 in
theorem in_loop (hst : l.stackTraces = false) (C : LC p s m meth c D cy s.heap.size cL_law 14) (hY : okY y z) {n : Nat} (hn : (n : Int) = z % 5) (hc : cells + 8 ≤ 600130) (hs : slots + 48 ≤ 7301080)
    (kk : ∀ (H : Heap) (locs : List Loc) (ls : Array Slot) (T : Hl) (cells2 slots2 : Nat), HI D cy s.heap.size s.heap H locs x T → kp S T → T.pb = S.pb → lv_has ls 14 ((7, iv w) :: lvB b x S k y z) → cells2 ≤ cells + 8 → slots2 ≤ slots + 48 → W p l e room_1 s m args below meth c H locs cells2 slots2 Q (F0 m 196 ls [])) :
    ∀ (d t : Nat) (H : Heap) (locs : List Loc) (ls : Array Slot) (T : Hl) (cells1 slots1 : Nat), t + d = n → T.din.n = t → kp S T → T.pb = S.pb → cells1 ≤ cells + 2 * t → slots1 ≤ slots + 12 * t → HI D cy s.heap.size s.heap H locs x T → lv_has ls 14 ((11, iv (t : Int)) :: (7, iv w) :: lvB b x S k y z) → W p l e room_1 s m args below meth c H locs cells1 slots1 Q (F0 m 157 ls []) := by
  intro d
  induction d with
  | zero =>
    intro t H locs ls T cells1 slots1 ht hdi hkp hpb hc1 hs1 hI hl
    have rt : rg (t : Int) := ⟨by omega, by omega⟩
    refine lv_iload C.1.1 C.1.2.1 dL_law_157 (lv_at hl 0 rfl) ?_
    refine lv_iload C.1.1 C.1.2.1 dL_law_159 (lv_at hl 3 rfl) ?_
    refine fl_iconst C.1 dL_law_161 ?_
    refine h_irem C.1 (by omega) (by decide) rfl dL_law_162 ?_
    refine fl_icmp_ge (tgt := 196) C.1 rt ⟨by omega, by omega⟩ dL_law_163 (by decide) (fun _ => ?_) (fun h => absurd (show z % 5 ≤ (t : Int) by omega) h)
    exact kk H locs ls T cells1 slots1 hI hkp hpb (lv_sub hl [1, 2, 3, 4, 5, 6, 7, 8, 9] rfl) (by omega) (by omega)
  | succ d ih =>
    intro t H locs ls T cells1 slots1 ht hdi hkp hpb hc1 hs1 hI hl
    have rt : rg (t : Int) := ⟨by omega, by omega⟩
    refine lv_iload C.1.1 C.1.2.1 dL_law_157 (lv_at hl 0 rfl) ?_
    refine lv_iload C.1.1 C.1.2.1 dL_law_159 (lv_at hl 3 rfl) ?_
    refine fl_iconst C.1 dL_law_161 ?_
    refine h_irem C.1 (by omega) (by decide) rfl dL_law_162 ?_
    refine fl_icmp_ge (tgt := 196) C.1 rt ⟨by omega, by omega⟩ dL_law_163 (by decide) (fun h => absurd h (by omega)) (fun _ => ?_)
    refine lv_aload_n C.1.1 C.1.2.1 dL_law_166 rfl (lv_at hl 6 rfl) ?_
    refine lv_iload C.1.1 C.1.2.1 dL_law_167 (lv_at hl 2 rfl) ?_
    refine lv_iload C.1.1 C.1.2.1 dL_law_169 (lv_at hl 0 rfl) ?_
    refine h_iadd (z := y + (t : Int)) C.1 (wr_id (by omega) (by omega)) dL_law_171 ?_
    refine fl_bipush C.1 dL_law_172 (by decide) ?_
    refine h_irem C.1 (by omega) (by decide) rfl dL_law_174 ?_
    refine fl_bipush C.1 dL_law_175 (by decide) ?_
    refine h_isub (z := (y + (t : Int)) % 19 - 9) C.1 (wr_id (by omega) (by omega)) dL_law_177 ?_
    refine j_input hst C (by exact ⟨(Nat.le_of_ble_eq_true rfl), (Nat.le_of_ble_eq_true rfl)⟩) hI hl.1 ⟨by omega, by omega⟩ (input_is (by omega) (by rw [hdi]; omega)) (Nat.le_of_ble_eq_true rfl) ⟨show cells1 + 2 ≤ 600130 by omega, show slots1 + 12 ≤ 7301080 by omega⟩ dL_law_178 (fun H locs hI rv => ?_)
    rw [hdi] at rv ⊢
    refine lv_iload C.1.1 C.1.2.1 dL_law_181 (lv_at hl 0 rfl) ?_
    refine fl_iconst C.1 dL_law_183 ?_
    refine h_iadd (z := (t : Int) + 1) C.1 (wr_id (by omega) (by omega)) dL_law_184 ?_
    refine fl_icmp_eq (tgt := 190) C.1 rv rv dL_law_185 (by decide) (fun _ => ?_) (fun h => absurd rfl h)
    refine fl_iinc (k := 0) (lv' := (11, iv (wr ((t : Int) + 1))) :: (7, iv w) :: lvB b x S k y z) C.1 dL_law_190 hl rfl (by decide) rfl (fun ls hl => ?_)
    refine fl_goto (tgt := 157) C.1 dL_law_193 (by decide) ?_
    have e5 : wr ((t : Int) + 1) = ((t + 1 : Nat) : Int) := by rw [wr_id (by omega) (by omega)]; omega
    rw [e5] at hl
    exact ih (t + 1) H locs ls (T.sDin (T.din.push ((y + (t : Int)) % 19 - 9))) _ _ (by omega) (show T.din.n + 1 = t + 1 by rw [hdi]) hkp hpb (by omega) (by omega) hI hl
set_option maxRecDepth 100000 in
set_option maxHeartbeats 4000000 in
theorem lb_problem (hst : l.stackTraces = false) (C : LC p s m meth c D cy s.heap.size cL_law 14) (hk : k < 80) (hY : okY y z) (hL : LV S k) (hI : HI D cy s.heap.size s.heap H locs x S) (hl : lv_has ls 14 ((7, iv w) :: lvB b x S k y z)) (hc : cells + 60 ≤ 600130) (hs : slots + 4600 ≤ 7301080)
    (kb : ∀ (H : Heap) (locs : List Loc) (ls : Array Slot) (T : Hl) (cells2 slots2 : Nat), HI D cy s.heap.size s.heap H locs x T → LV T (k + 1) → lv_has ls 14 (lvB b x T k y z) → cells2 ≤ cells + 60 → slots2 ≤ slots + 4600 → W p l e room_1 s m args below meth c H locs cells2 slots2 Q (F0 m 634 ls [])) (hw : 0 ≤ w ∧ w < 16) : W p l e room_1 s m args below meth c H locs cells slots Q (F0 m 89 ls []) := by
  have hok := hI.ok
  have hn6 := hok.2.2.1
  have hn60 := hok.2.2.2.2.1
  have hmin := hok.2.2.2.2.2.2.1
  have rp : rg (S.np : Int) := ⟨by omega, by omega⟩
  have rq : rg (S.ne : Int) := ⟨by omega, by omega⟩
  have rmn : rg S.min := ⟨by omega, by omega⟩
  have rw0 : rg w := ⟨by omega, by omega⟩
  -- a problem is made, or none
  have c205 : ∀ (H : Heap) (locs : List Loc) (ls : Array Slot) (T : Hl) (cells2 slots2 : Nat), HI D cy s.heap.size s.heap H locs x T → kp S T → T.pb = S.pb → lv_has ls 14 ((7, iv w) :: lvB b x S k y z) → cells2 ≤ cells + 32 → slots2 ≤ slots + 192 → W p l e room_1 s m args below meth c H locs cells2 slots2 Q (F0 m 205 ls []) := fun H locs ls T cells2 slots2 hI hkp hpb hl h1 h2 => by
    have hLS : LV T k := fun i hi => by rw [hpb]; exact hL i (by rw [← hkp.1.1]; exact hi)
    obtain ⟨T2, hS, ⟨k1, k2, k3⟩, hLT⟩ := t_problem (S := T) (n := k) (a := 1 + y % 60) (b := z % 2) ⟨by omega, by omega⟩ ⟨by omega, by omega⟩
    have hLT := hLT hLS
    rw [hkp.1.1] at hS k1
    rw [hkp.1.2] at k2
    rw [hkp.2] at k3
    refine lv_aload_n C.1.1 C.1.2.1 dL_law_205 rfl (lv_at hl 5 rfl) ?_
    refine fl_iconst C.1 dL_law_206 ?_
    refine fl_iconst C.1 dL_law_207 ?_
    refine lv_iload C.1.1 C.1.2.1 dL_law_208 (lv_at hl 1 rfl) ?_
    refine fl_bipush C.1 dL_law_210 (by decide) ?_
    refine h_irem C.1 (by omega) (by decide) rfl dL_law_212 ?_
    refine h_iadd (z := 1 + y % 60) C.1 (wr_id (by omega) (by omega)) dL_law_213 ?_
    refine lv_iload C.1.1 C.1.2.1 dL_law_214 (lv_at hl 2 rfl) ?_
    refine fl_iconst C.1 dL_law_216 ?_
    refine h_irem C.1 (by omega) (by decide) rfl dL_law_217 ?_
    refine fl_iconst C.1 dL_law_218 ?_
    refine k_act hst C ⟨(Nat.le_of_ble_eq_true rfl), (Nat.le_of_ble_eq_true rfl)⟩ hI hl.1 (rgk 3 rfl) ⟨by omega, by omega⟩ ⟨by omega, by omega⟩ (rgk 0 rfl) hS (Nat.le_of_ble_eq_true rfl) ⟨show cells2 + 9 ≤ 600130 by omega, show slots2 + 2061 ≤ 7301080 by omega⟩ dL_law_219 (fun H locs hI rv => ?_)
    refine lv_iload_n C.1.1 C.1.2.1 dL_law_222 rfl (lv_at hl 6 rfl) ?_
    refine fl_bipush C.1 dL_law_223 (by decide) ?_
    by_cases cc : S.np < 6
    · rw [if_pos cc] at k1 rv ⊢
      refine fl_icmp_ge (tgt := 232) C.1 rp (rgk 6 rfl) dL_law_225 (by decide) (fun h => absurd h (by omega)) (fun _ => ?_)
      refine lv_iload_n C.1.1 C.1.2.1 dL_law_228 rfl (lv_at hl 6 rfl) ?_
      refine fl_goto (tgt := 234) C.1 dL_law_229 (by decide) ?_
      refine fl_icmp_eq (tgt := 239) C.1 rv rp dL_law_234 (by decide) (fun _ => ?_) (fun h => absurd rfl h)
      refine lv_iload_n C.1.1 C.1.2.1 dL_law_239 rfl (lv_at hl 6 rfl) ?_
      refine lv_iload_n C.1.1 C.1.2.1 dL_law_240 rfl (lv_at hl 6 rfl) ?_
      refine fl_bipush C.1 dL_law_241 (by decide) ?_
      refine fl_icmp_ge (tgt := 250) C.1 rp (rgk 6 rfl) dL_law_243 (by decide) (fun h => absurd h (by omega)) (fun _ => ?_)
      refine fl_iconst C.1 dL_law_246 ?_
      refine fl_goto (tgt := 251) C.1 dL_law_247 (by decide) ?_
      refine h_iadd (z := (T2.np : Int)) C.1 (by rw [wr_id (by omega) (by omega)]; omega) dL_law_251 ?_
      refine lv_istore_n (lv' := (2, iv (T2.np : Int)) :: (7, iv w) :: (8, iv y) :: (9, iv z) :: [(5, iv (k : Int)), (0, .ref b), (1, .ref x), (3, iv (S.ne : Int)), (4, iv S.min)]) C.1.1 C.1.2.1 dL_law_252 rfl hl (by decide) rfl (fun ls hl => ?_)
      refine fl_goto (tgt := 634) C.1 dL_law_253 (by decide) ?_
      rw [← k2, ← k3] at hl
      exact kb H locs ls T2 _ _ hI hLT (lv_sub hl [2, 3, 4, 5, 6, 0, 7, 8] rfl) (by omega) (by omega)
    · rw [if_neg cc] at k1 rv ⊢
      refine fl_icmp_ge (tgt := 232) C.1 rp (rgk 6 rfl) dL_law_225 (by decide) (fun _ => ?_) (fun h => absurd (show (6 : Int) ≤ (S.np : Int) by omega) h)
      refine fl_ldc (n := -7000003) C.1 aw_803 rfl dL_law_232 ?_
      refine fl_icmp_eq (tgt := 239) C.1 rv (rgk (-7000003) rfl) dL_law_234 (by decide) (fun _ => ?_) (fun h => absurd rfl h)
      refine lv_iload_n C.1.1 C.1.2.1 dL_law_239 rfl (lv_at hl 6 rfl) ?_
      refine lv_iload_n C.1.1 C.1.2.1 dL_law_240 rfl (lv_at hl 6 rfl) ?_
      refine fl_bipush C.1 dL_law_241 (by decide) ?_
      refine fl_icmp_ge (tgt := 250) C.1 rp (rgk 6 rfl) dL_law_243 (by decide) (fun _ => ?_) (fun h => absurd (show (6 : Int) ≤ (S.np : Int) by omega) h)
      refine fl_iconst C.1 dL_law_250 ?_
      refine h_iadd (z := (T2.np : Int)) C.1 (by rw [wr_id (by omega) (by omega)]; omega) dL_law_251 ?_
      refine lv_istore_n (lv' := (2, iv (T2.np : Int)) :: (7, iv w) :: (8, iv y) :: (9, iv z) :: [(5, iv (k : Int)), (0, .ref b), (1, .ref x), (3, iv (S.ne : Int)), (4, iv S.min)]) C.1.1 C.1.2.1 dL_law_252 rfl hl (by decide) rfl (fun ls hl => ?_)
      refine fl_goto (tgt := 634) C.1 dL_law_253 (by decide) ?_
      rw [← k2, ← k3] at hl
      exact kb H locs ls T2 _ _ hI hLT (lv_sub hl [2, 3, 4, 5, 6, 0, 7, 8] rfl) (by omega) (by omega)
  have c196 : ∀ (H : Heap) (locs : List Loc) (ls : Array Slot) (T : Hl) (cells2 slots2 : Nat), HI D cy s.heap.size s.heap H locs x T → kp S T → T.pb = S.pb → lv_has ls 14 ((7, iv w) :: lvB b x S k y z) → cells2 ≤ cells + 24 + 8 → slots2 ≤ slots + 144 + 48 → W p l e room_1 s m args below meth c H locs cells2 slots2 Q (F0 m 196 ls []) := fun H locs ls T cells2 slots2 hI hkp hpb hl h1 h2 => by
    refine lv_iload C.1.1 C.1.2.1 dL_law_196 (lv_at hl 0 rfl) ?_
    refine fl_if_eq (tgt := 205) C.1 rw0 dL_law_198 (by decide) (fun _ => c205 H locs ls T cells2 slots2 hI hkp hpb hl (by omega) (by omega)) (fun _ => ?_)
    refine lv_iload_n C.1.1 C.1.2.1 dL_law_201 rfl (lv_at hl 6 rfl) ?_
    refine fl_if_ne (tgt := 253) C.1 rp dL_law_202 (by decide) (fun _ => ?_) (fun _ => c205 H locs ls T cells2 slots2 hI hkp hpb hl (by omega) (by omega))
    refine fl_goto (tgt := 634) C.1 dL_law_253 (by decide) ?_
    exact kb H locs ls T _ _ hI (hL.same hkp.1.1 hpb) (by rw [lvB_kp hkp]; exact lv_sub hl [1, 2, 3, 4, 5, 6, 7, 8] rfl) (by omega) (by omega)
  refine lv_aload_n C.1.1 C.1.2.1 dL_law_89 rfl (lv_at hl 5 rfl) ?_
  refine j_clear (v := (S.desk.n : Int)) (S' := (clearS S).2.2) C (by exact ⟨(Nat.le_of_ble_eq_true rfl), (Nat.le_of_ble_eq_true rfl)⟩) hI hl.1 rfl (Nat.le_of_ble_eq_true rfl) ⟨show cells + 0 ≤ 600130 by omega, show slots + 0 ≤ 7301080 by omega⟩ dL_law_90 (fun H locs hI rv => ?_)
  refine lv_pop C.1.1 C.1.2.1 dL_law_93 rfl ?_
  refine lv_iload C.1.1 C.1.2.1 dL_law_94 (lv_at hl 1 rfl) ?_
  refine fl_bipush C.1 dL_law_96 (by decide) ?_
  refine h_irem (z := (((y % 9).toNat : Nat) : Int)) C.1 (by omega) (by decide) (by omega) dL_law_98 ?_
  refine lv_istore (lv' := (10, iv (((y % 9).toNat : Nat) : Int)) :: (7, iv w) :: lvB b x S k y z) C.1.1 C.1.2.1 dL_law_99 hl (by decide) rfl (fun ls hl => ?_)
  refine fl_iconst C.1 dL_law_101 ?_
  refine lv_istore (lv' := (11, iv 0) :: (10, iv (((y % 9).toNat : Nat) : Int)) :: (7, iv w) :: lvB b x S k y z) C.1.1 C.1.2.1 dL_law_102 hl (by decide) rfl (fun ls hl => ?_)
  refine cd_loop (cells := cells) (slots := slots) (S := S) (z := z) hst C hY (n := (y % 9).toNat) (by omega) (by omega) (by omega) (fun H locs ls T cells2 slots2 hI hkp hpb hdi hl h1 h2 => ?_) (y % 9).toNat 0 H locs ls (clearS S).2.2 _ _ (by omega) rfl rfl ⟨⟨rfl, rfl⟩, rfl⟩ rfl (by omega) (by omega) hI hl
  refine fl_iconst C.1 dL_law_154 ?_
  refine lv_istore (lv' := (11, iv 0) :: (7, iv w) :: lvB b x S k y z) C.1.1 C.1.2.1 dL_law_155 hl (by decide) rfl (fun ls hl => ?_)
  exact in_loop (cells := cells + 24) (slots := slots + 144) (S := S) hst C hY (n := (z % 5).toNat) (by omega) (by omega) (by omega) c196 (z % 5).toNat 0 H locs ls T _ _ (by omega) hdi hkp hpb (by omega) (by omega) hI hl
end LL4
