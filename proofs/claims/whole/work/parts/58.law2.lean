section LW2
variable {p : Program} {l : Launch} {e : Env} {s : State} {m : MethodId} {args : Array Value} {below : List Frame} {meth : Method} {c : Code} {H : Heap} {locs : List Loc} {cells slots : Nat} {Q : State → Prop}
variable {D : va_G} {cy : Nat → ClassId} {b N : Nat} {xs : Nat → Int32} {ls : Array Slot} {x mo o i : Nat}
/-- a number of the script as a truth -/
def bz (v : Int) : Int := if v = 0 then 0 else 1
theorem rg_bz {v : Int} : rg (bz v) := by
  unfold bz
  split
  · exact rgk 0 rfl
  · exact rgk 1 rfl
theorem lw_bool {rest : List Value} {v : Int} {pc : Nat} (C0 : FC D cy s.heap.size p s m meth c "RejudgeHallLaw" cL_law 7) (rv : rg v) (D0 : decode cL_law pc = .ok (.ifCond .eq 7, 3)) (D3 : decode cL_law (pc + 3) = .ok (.iconst 1, 1)) (D4 : decode cL_law (pc + 4) = .ok (.goto 4, 3)) (D7 : decode cL_law (pc + 7) = .ok (.iconst 0, 1)) (h1 : ((pc : Nat) : Int) + 7 = ((pc + 7 : Nat) : Int)) (h2 : ((pc + 4 : Nat) : Int) + 4 = ((pc + 8 : Nat) : Int))
    (kk : W p l e room_1 s m args below meth c H locs cells slots Q (F0 m (pc + 8) ls (iv (bz v) :: rest))) : W p l e room_1 s m args below meth c H locs cells slots Q (F0 m pc ls (iv v :: rest)) := by
  refine fl_if_eq (tgt := pc + 7) C0 rv D0 h1 (fun z => ?_) (fun z => ?_)
  · refine fl_iconst C0 D7 ?_
    rw [show bz v = 0 from if_pos z] at kk
    exact kk
  · refine fl_iconst C0 D3 ?_
    refine fl_goto (tgt := pc + 8) C0 D4 h2 ?_
    rw [show bz v = 1 from if_neg z] at kk
    exact kk
/-- behind a call that answers true or false -/
theorem lw_tailZ {L : List Nat} {K : KT} {P : PT} {J I : IT} {t : Nat} {h r2 : Int} (C : LX p s m meth c D cy b N xs) (hF : FS D cy s.heap.size L K P J s.heap I H locs) (hWT : WT K P) (km : K mo = 9) (ko : K o = 107) (e38 : I mo 38 = h) (rh : rg h) (rr : rg r2) (hJ : h = 0 → J o 0 = (if r2 = 0 then 0 else 1)) (hl : lv_has ls 7 (lv6 b x mo o i h))
    (D0 : decode cL_law t = .ok (.istore 6, 2)) (D2 : decode cL_law (t + 2) = .ok (.aload_n 2, 1)) (D3 : decode cL_law (t + 3) = .ok (.invokevirtual 82, 3)) (D6 : decode cL_law (t + 6) = .ok (.iload 5, 2)) (D8 : decode cL_law (t + 8) = .ok (.if_icmp .eq 5, 3)) (D13 : decode cL_law (t + 13) = .ok (.iload 5, 2)) (D15 : decode cL_law (t + 15) = .ok (.ifCond .ne 22, 3)) (D18 : decode cL_law (t + 18) = .ok (.aload_n 3, 1)) (D19 : decode cL_law (t + 19) = .ok (.iconst 0, 1)) (D20 : decode cL_law (t + 20) = .ok (.laload, 1)) (D21 : decode cL_law (t + 21) = .ok (.iload 6, 2)) (D23 : decode cL_law (t + 23) = .ok (.ifCond .eq 7, 3)) (D26 : decode cL_law (t + 26) = .ok (.lconst 1, 1)) (D27 : decode cL_law (t + 27) = .ok (.goto 4, 3)) (D30 : decode cL_law (t + 30) = .ok (.lconst 0, 1)) (D31 : decode cL_law (t + 31) = .ok (.lcmp, 1)) (D32 : decode cL_law (t + 32) = .ok (.ifCond .eq 5, 3)) (D37 : decode cL_law (t + 37) = .ok (.goto 3, 3)) (ht : t = 1266) (hc : cells ≤ 601024) (hs : slots ≤ 7293034)
    (kk : ∀ (H : Heap) (locs : List Loc) (ls : Array Slot), FS D cy s.heap.size L K P J s.heap I H locs → lv_has ls 7 (lv5 b x mo o i) → W p l e room_1 s m args below meth c H locs cells slots Q (F0 m 1306 ls [])) : W p l e room_1 s m args below meth c H locs cells slots Q (F0 m t ls [iv r2]) := by
  obtain ⟨C0, hN', hX, hbl⟩ := C
  refine lv_istore (lv' := [(6, iv r2), (0, .ref b), (1, .ref x), (2, .ref mo), (3, .ref o), (4, iv (i : Int)), (5, iv h)]) C0.1 C0.2.1 D0 hl (by decide) rfl (fun ls hl => ?_)
  refine lv_aload_n C0.1 C0.2.1 D2 rfl (lv_at hl 3 rfl) ?_
  have hf : f_X8_thrown K P I mo = some (I mo 38) := rfl
  refine fl_ri hF (fl_runV (As := []) (rest := []) C0 hF hl.1 ck_9 km rfl (c_X8_thrown l D cy s.heap.size L K P J hWT I mo km hf) aw_992 aw_993 aw_994 aw_73 aw_995 rfl rfl pm_X8_thrown rfl rfl ⟨Nat.le_of_ble_eq_true rfl, Nat.le_of_ble_eq_true rfl⟩ rfl (Nat.le_of_ble_eq_true rfl) D3 ⟨hc, hs⟩) (fun H locs hF2 rr2 => ?_)
  refine lv_iload C0.1 C0.2.1 D6 (lv_at hl 6 rfl) ?_
  rw [e38]
  refine fl_icmp_eq (tgt := t + 13) C0 rh rh D8 (by omega) (fun _ => ?_) (fun q => absurd rfl q)
  refine lv_iload C0.1 C0.2.1 D13 (lv_at hl 6 rfl) ?_
  have fin : W p l e room_1 s m args below meth c H locs cells slots Q (F0 m (t + 37) ls []) := by
    refine fl_goto (tgt := 1306) C0 D37 (by omega) ?_
    exact kk H locs ls hF2 (lv_sub hl [1, 2, 3, 4, 5] rfl)
  refine fl_if_ne (tgt := t + 37) C0 rh D15 (by omega) (fun _ => fin) (fun h0 => ?_)
  refine lv_aload_n C0.1 C0.2.1 D18 rfl (lv_at hl 4 rfl) ?_
  refine fl_iconst C0 D19 ?_
  refine fl_lald (n := 1) C0 hF2 ko (rgk 0 rfl) (by decide) D20 ?_
  rw [show (0 : Int).toNat = 0 from rfl, hJ h0]
  refine lv_iload C0.1 C0.2.1 D21 (lv_at hl 0 rfl) ?_
  have ec : ∀ z : Int, cmpl z z = 0 := fun z => by unfold cmpl; rw [if_neg (by omega), if_pos rfl]
  have l0 : rl 0 := rl_rg (rgk 0 rfl)
  have l1 : rl 1 := rl_rg (rgk 1 rfl)
  refine fl_if_eq (tgt := t + 30) C0 rr D23 (by omega) (fun z => ?_) (fun z => ?_)
  · rw [if_pos z]
    refine fl_lconst C0 D30 ?_
    refine fl_lcmp (y := 0) C0 l0 l0 D31 ?_
    rw [ec]
    exact fl_if_eq (tgt := t + 37) C0 (rgk 0 rfl) D32 (by omega) (fun _ => fin) (fun q => absurd rfl q)
  · rw [if_neg z]
    refine fl_lconst C0 D26 ?_
    refine fl_goto (tgt := t + 31) C0 D27 (by omega) ?_
    refine fl_lcmp (y := 1) C0 l1 l1 D31 ?_
    rw [ec]
    exact fl_if_eq (tgt := t + 37) C0 (rgk 0 rfl) D32 (by omega) (fun _ => fin) (fun q => absurd rfl q)
set_option maxRecDepth 100000 in
set_option maxHeartbeats 4000000 in
theorem lw_code (hst : l.stackTraces = false) (C : LX p s m meth c D cy b N xs) (hi : i + 3 < N) (hN : N ≤ 2048) (hc : cells + 20 ≤ 601024) (hs : slots + 2200 ≤ 7293034) (hI : LI D cy s H locs x mo o) (hl : lv_has ls 7 (lv5 b x mo o i))
    (kk : ∀ (H : Heap) (locs : List Loc) (ls : Array Slot), LI D cy s H locs x mo o → lv_has ls 7 (lv5 b x mo o i) → W p l e room_1 s m args below meth c H locs (cells + 20) (slots + 2200) Q (F0 m 1306 ls [])) : W p l e room_1 s m args below meth c H locs cells slots Q (F0 m 132 ls []) := by
  obtain ⟨tg, L, K, P, J, I, S, hF, hWT, ⟨hH, hM, hok, hTL⟩, kx, km, ko⟩ := hI
  have C0 := C.1
  refine lv_aload_n C0.1 C0.2.1 dL_law_132 rfl (lv_at hl 1 rfl) ?_
  refine lw_arg (jn := 1) (pc := 133) C hF.2.2.1 (lv_at hl 0 rfl) (lv_at hl 4 rfl) (by omega) hN dL_law_133 dL_law_134 dL_law_136 dL_law_137 dL_law_138 ?_
  refine lw_arg (jn := 2) (pc := 139) C hF.2.2.1 (lv_at hl 0 rfl) (lv_at hl 4 rfl) (by omega) hN dL_law_139 dL_law_140 dL_law_142 dL_law_143 dL_law_144 ?_
  refine lv_aload_n C0.1 C0.2.1 dL_law_145 rfl (lv_at hl 3 rfl) ?_
  obtain ⟨r, I1, e1, e2, e3, e4⟩ := h_code (K := K) (w := (sv xs (i + 1))) (v := (sv xs (i + 2))) hH
  refine fl_riJ hF (fl_runSW (As := [.ref x, iv (sv xs (i + 1)), iv (sv xs (i + 2)), .ref o]) (rest := []) C0 hF C.2.1 hl.1 (d_code l hst D cy s.heap.size L K P J I hWT x (sv xs (i + 1)) (sv xs (i + 2)) o kx rg_sv rg_sv ko e1 codeS_co) aw_401 aw_402 aw_64 aw_403 rfl pm_L_code rfl rfl ⟨Nat.le_of_ble_eq_true rfl, Nat.le_of_ble_eq_true rfl⟩ rfl (Nat.le_of_ble_eq_true rfl) dL_law_146 ⟨show cells + 3 ≤ 601024 by omega, show slots + 18 ≤ 7293034 by omega⟩) (fun H locs hF1 rh => ?_)
  refine lv_istore (lv' := (5, iv (hnm [1, 2] (codeS S (sv xs (i + 1)) (sv xs (i + 2))).1)) :: lv5 b x mo o i) C0.1 C0.2.1 dL_law_149 hl (by decide) rfl (fun ls hl => ?_)
  have hl : lv_has ls 7 (lv6 b x mo o i (hnm [1, 2] (codeS S (sv xs (i + 1)) (sv xs (i + 2))).1)) := lv_sub hl [1, 2, 3, 4, 5, 0] rfl
  refine lv_aload_n C0.1 C0.2.1 dL_law_151 rfl (lv_at hl 2 rfl) ?_
  refine lw_arg (jn := 1) (pc := 152) C hF1.2.2.1 (lv_at hl 0 rfl) (lv_at hl 4 rfl) (by omega) hN dL_law_152 dL_law_153 dL_law_155 dL_law_156 dL_law_157 ?_
  refine lw_arg (jn := 2) (pc := 158) C hF1.2.2.1 (lv_at hl 0 rfl) (lv_at hl 4 rfl) (by omega) hN dL_law_158 dL_law_159 dL_law_161 dL_law_162 dL_law_163 ?_
  have hM1 := hM.h hok e4
  obtain ⟨r2, I2, g1, g2, g3, g4, g5⟩ := x_code (K := K) (w := (sv xs (i + 1))) (v := (sv xs (i + 2))) hM1 hok
  refine fl_ri hF1 (fl_runV (As := [iv (sv xs (i + 1)), iv (sv xs (i + 2))]) (rest := []) C0 hF1 hl.1 ck_9 km rfl (c_X8_code l D cy s.heap.size L K P (if (codeS S (sv xs (i + 1)) (sv xs (i + 2))).1 = 0 then up J o 0 r else J) hWT I1 mo (sv xs (i + 1)) (sv xs (i + 2)) km rg_sv rg_sv g1) aw_996 aw_997 aw_998 aw_73 aw_999 rfl rfl pm_X8_code rfl rfl ⟨Nat.le_of_ble_eq_true rfl, Nat.le_of_ble_eq_true rfl⟩ rfl (Nat.le_of_ble_eq_true rfl) dL_law_164 ⟨show cells + 3 + 0 ≤ 601024 by omega, show slots + 18 + 0 ≤ 7293034 by omega⟩) (fun H locs hF2 rr2 => ?_)
  have hJ : hnm [1, 2] (codeS S (sv xs (i + 1)) (sv xs (i + 2))).1 = 0 → (if (codeS S (sv xs (i + 1)) (sv xs (i + 2))).1 = 0 then up J o 0 r else J) o 0 = r2 := fun h0 => by
    have hc0 := hnm0 h0
    rw [if_pos hc0, up_s, e2 hc0, g2 hc0]
  exact lw_tail (t := 167) C hF2 hWT km ko g3 rh rr2 hJ hl dL_law_167 dL_law_169 dL_law_170 dL_law_173 dL_law_175 dL_law_180 dL_law_182 dL_law_185 dL_law_186 dL_law_187 dL_law_188 dL_law_190 dL_law_191 dL_law_192 dL_law_197 (by decide) (show cells + 3 + 0 ≤ 601024 by omega) (show slots + 18 + 0 ≤ 7293034 by omega) (fun H locs ls hF3 hl => W.widen (by omega) (by omega) (kk H locs ls ⟨tg, L, K, P, _, I2, (codeS S (sv xs (i + 1)) (sv xs (i + 2))).2.2, hF3, hWT, ⟨e3.fr (g5.mono (fun u => scr11)), g4, (codeS_ok hok), hTL⟩, kx, km, ko⟩ hl))
set_option maxRecDepth 100000 in
set_option maxHeartbeats 4000000 in
theorem lw_input (hst : l.stackTraces = false) (C : LX p s m meth c D cy b N xs) (hi : i + 3 < N) (hN : N ≤ 2048) (hc : cells + 20 ≤ 601024) (hs : slots + 2200 ≤ 7293034) (hI : LI D cy s H locs x mo o) (hl : lv_has ls 7 (lv5 b x mo o i))
    (kk : ∀ (H : Heap) (locs : List Loc) (ls : Array Slot), LI D cy s H locs x mo o → lv_has ls 7 (lv5 b x mo o i) → W p l e room_1 s m args below meth c H locs (cells + 20) (slots + 2200) Q (F0 m 1306 ls [])) : W p l e room_1 s m args below meth c H locs cells slots Q (F0 m 200 ls []) := by
  obtain ⟨tg, L, K, P, J, I, S, hF, hWT, ⟨hH, hM, hok, hTL⟩, kx, km, ko⟩ := hI
  have C0 := C.1
  refine lv_aload_n C0.1 C0.2.1 dL_law_200 rfl (lv_at hl 1 rfl) ?_
  refine lw_arg (jn := 1) (pc := 201) C hF.2.2.1 (lv_at hl 0 rfl) (lv_at hl 4 rfl) (by omega) hN dL_law_201 dL_law_202 dL_law_204 dL_law_205 dL_law_206 ?_
  refine lv_aload_n C0.1 C0.2.1 dL_law_207 rfl (lv_at hl 3 rfl) ?_
  obtain ⟨r, I1, e1, e2, e3, e4⟩ := h_input (K := K) (v := (sv xs (i + 1))) hH
  refine fl_riJ hF (fl_runSW (As := [.ref x, iv (sv xs (i + 1)), .ref o]) (rest := []) C0 hF C.2.1 hl.1 (d_input l hst D cy s.heap.size L K P J I hWT x (sv xs (i + 1)) o kx rg_sv ko e1 inputS_co) aw_501 aw_502 aw_64 aw_503 rfl pm_L_input rfl rfl ⟨Nat.le_of_ble_eq_true rfl, Nat.le_of_ble_eq_true rfl⟩ rfl (Nat.le_of_ble_eq_true rfl) dL_law_208 ⟨show cells + 2 ≤ 601024 by omega, show slots + 12 ≤ 7293034 by omega⟩) (fun H locs hF1 rh => ?_)
  refine lv_istore (lv' := (5, iv (hnm [1, 2] (inputS S (sv xs (i + 1))).1)) :: lv5 b x mo o i) C0.1 C0.2.1 dL_law_211 hl (by decide) rfl (fun ls hl => ?_)
  have hl : lv_has ls 7 (lv6 b x mo o i (hnm [1, 2] (inputS S (sv xs (i + 1))).1)) := lv_sub hl [1, 2, 3, 4, 5, 0] rfl
  refine lv_aload_n C0.1 C0.2.1 dL_law_213 rfl (lv_at hl 2 rfl) ?_
  refine lw_arg (jn := 1) (pc := 214) C hF1.2.2.1 (lv_at hl 0 rfl) (lv_at hl 4 rfl) (by omega) hN dL_law_214 dL_law_215 dL_law_217 dL_law_218 dL_law_219 ?_
  have hM1 := hM.h hok e4
  obtain ⟨r2, I2, g1, g2, g3, g4, g5⟩ := x_input (K := K) (v := (sv xs (i + 1))) hM1 hok
  refine fl_ri hF1 (fl_runV (As := [iv (sv xs (i + 1))]) (rest := []) C0 hF1 hl.1 ck_9 km rfl (c_X8_input l D cy s.heap.size L K P (if (inputS S (sv xs (i + 1))).1 = 0 then up J o 0 r else J) hWT I1 mo (sv xs (i + 1)) km rg_sv g1) aw_1003 aw_1004 aw_1005 aw_73 aw_1006 rfl rfl pm_X8_input rfl rfl ⟨Nat.le_of_ble_eq_true rfl, Nat.le_of_ble_eq_true rfl⟩ rfl (Nat.le_of_ble_eq_true rfl) dL_law_220 ⟨show cells + 2 + 0 ≤ 601024 by omega, show slots + 12 + 0 ≤ 7293034 by omega⟩) (fun H locs hF2 rr2 => ?_)
  have hJ : hnm [1, 2] (inputS S (sv xs (i + 1))).1 = 0 → (if (inputS S (sv xs (i + 1))).1 = 0 then up J o 0 r else J) o 0 = r2 := fun h0 => by
    have hc0 := hnm0 h0
    rw [if_pos hc0, up_s, e2 hc0, g2 hc0]
  exact lw_tail (t := 223) C hF2 hWT km ko g3 rh rr2 hJ hl dL_law_223 dL_law_225 dL_law_226 dL_law_229 dL_law_231 dL_law_236 dL_law_238 dL_law_241 dL_law_242 dL_law_243 dL_law_244 dL_law_246 dL_law_247 dL_law_248 dL_law_253 (by decide) (show cells + 2 + 0 ≤ 601024 by omega) (show slots + 12 + 0 ≤ 7293034 by omega) (fun H locs ls hF3 hl => W.widen (by omega) (by omega) (kk H locs ls ⟨tg, L, K, P, _, I2, (inputS S (sv xs (i + 1))).2.2, hF3, hWT, ⟨e3.fr (g5.mono (fun u => scr11)), g4, (inputS_ok hok), hTL⟩, kx, km, ko⟩ hl))
set_option maxRecDepth 100000 in
set_option maxHeartbeats 4000000 in
theorem lw_clear (hst : l.stackTraces = false) (C : LX p s m meth c D cy b N xs) (hi : i + 3 < N) (hN : N ≤ 2048) (hc : cells + 20 ≤ 601024) (hs : slots + 2200 ≤ 7293034) (hI : LI D cy s H locs x mo o) (hl : lv_has ls 7 (lv5 b x mo o i))
    (kk : ∀ (H : Heap) (locs : List Loc) (ls : Array Slot), LI D cy s H locs x mo o → lv_has ls 7 (lv5 b x mo o i) → W p l e room_1 s m args below meth c H locs (cells + 20) (slots + 2200) Q (F0 m 1306 ls [])) : W p l e room_1 s m args below meth c H locs cells slots Q (F0 m 256 ls []) := by
  obtain ⟨tg, L, K, P, J, I, S, hF, hWT, ⟨hH, hM, hok, hTL⟩, kx, km, ko⟩ := hI
  have C0 := C.1
  obtain ⟨I1, e1, e3, e4⟩ := h_clear (K := K) hH
  have hM1 := hM.h hok e4
  obtain ⟨I2, g1, g3, g4, g5⟩ := x_clear (K := K) hM1 hok
  refine lv_aload_n C0.1 C0.2.1 dL_law_256 rfl (lv_at hl 1 rfl) ?_
  refine fl_ri hF (fl_runV (As := []) (rest := []) C0 hF hl.1 ck_8 kx rfl (c_X7_clear l D cy s.heap.size L K P J hWT I x kx e1) aw_248 aw_249 aw_250 aw_65 aw_251 rfl rfl pm_X7_clear rfl rfl ⟨Nat.le_of_ble_eq_true rfl, Nat.le_of_ble_eq_true rfl⟩ rfl (Nat.le_of_ble_eq_true rfl) dL_law_257 ⟨show cells + 0 ≤ 601024 by omega, show slots + 0 ≤ 7293034 by omega⟩) (fun H locs hF1 rr1 => ?_)
  refine lv_aload_n C0.1 C0.2.1 dL_law_260 rfl (lv_at hl 2 rfl) ?_
  refine fl_ri hF1 (fl_runV (As := []) (rest := [iv (clearS S).2.1]) C0 hF1 hl.1 ck_9 km rfl (c_X8_clear l D cy s.heap.size L K P J hWT I1 mo km g1) aw_1007 aw_1008 aw_1009 aw_73 aw_1010 rfl rfl pm_X8_clear rfl rfl ⟨Nat.le_of_ble_eq_true rfl, Nat.le_of_ble_eq_true rfl⟩ rfl (Nat.le_of_ble_eq_true rfl) dL_law_261 ⟨show cells + 0 + 0 ≤ 601024 by omega, show slots + 0 + 0 ≤ 7293034 by omega⟩) (fun H locs hF3 rr2 => ?_)
  refine fl_icmp_eq (tgt := 1306) C0 rr1 rr2 dL_law_264 (by decide) (fun _ => ?_) (fun q => absurd rfl q)
  exact W.widen (by omega) (by omega) (kk H locs ls ⟨tg, L, K, P, J, I2, (clearS S).2.2, hF3, hWT, ⟨e3.fr (g5.mono (fun u => scr11)), g4, clearS_ok hok, hTL⟩, kx, km, ko⟩ hl)
set_option maxRecDepth 100000 in
set_option maxHeartbeats 4000000 in
theorem lw_run (hst : l.stackTraces = false) (C : LX p s m meth c D cy b N xs) (hi : i + 3 < N) (hN : N ≤ 2048) (hc : cells + 20 ≤ 601024) (hs : slots + 2200 ≤ 7293034) (hI : LI D cy s H locs x mo o) (hl : lv_has ls 7 (lv5 b x mo o i))
    (kk : ∀ (H : Heap) (locs : List Loc) (ls : Array Slot), LI D cy s H locs x mo o → lv_has ls 7 (lv5 b x mo o i) → W p l e room_1 s m args below meth c H locs (cells + 20) (slots + 2200) Q (F0 m 1306 ls [])) : W p l e room_1 s m args below meth c H locs cells slots Q (F0 m 269 ls []) := by
  obtain ⟨tg, L, K, P, J, I, S, hF, hWT, ⟨hH, hM, hok, hTL⟩, kx, km, ko⟩ := hI
  have C0 := C.1
  refine lv_aload_n C0.1 C0.2.1 dL_law_269 rfl (lv_at hl 1 rfl) ?_
  refine lw_arg (jn := 1) (pc := 270) C hF.2.2.1 (lv_at hl 0 rfl) (lv_at hl 4 rfl) (by omega) hN dL_law_270 dL_law_271 dL_law_273 dL_law_274 dL_law_275 ?_
  refine lw_arg (jn := 2) (pc := 276) C hF.2.2.1 (lv_at hl 0 rfl) (lv_at hl 4 rfl) (by omega) hN dL_law_276 dL_law_277 dL_law_279 dL_law_280 dL_law_281 ?_
  refine lv_aload_n C0.1 C0.2.1 dL_law_282 rfl (lv_at hl 3 rfl) ?_
  obtain ⟨r, I1, e1, e2, e3, e4⟩ := h_run (K := K) (lim := (sv xs (i + 1))) (w := (sv xs (i + 2))) hH hok
  refine fl_riJ hF (fl_runSW (As := [.ref x, iv (sv xs (i + 1)), iv (sv xs (i + 2)), .ref o]) (rest := []) C0 hF C.2.1 hl.1 (d_run l hst D cy s.heap.size L K P J I hWT x (sv xs (i + 1)) (sv xs (i + 2)) o kx rg_sv rg_sv ko e1 callRun_co) aw_510 aw_511 aw_64 aw_512 rfl pm_L_run rfl rfl ⟨Nat.le_of_ble_eq_true rfl, Nat.le_of_ble_eq_true rfl⟩ rfl (Nat.le_of_ble_eq_true rfl) dL_law_283 ⟨show cells + 2 ≤ 601024 by omega, show slots + 12 ≤ 7293034 by omega⟩) (fun H locs hF1 rh => ?_)
  refine lv_istore (lv' := (5, iv (hnm [1] (callRun S (sv xs (i + 1)) (sv xs (i + 2))).1)) :: lv5 b x mo o i) C0.1 C0.2.1 dL_law_286 hl (by decide) rfl (fun ls hl => ?_)
  have hl : lv_has ls 7 (lv6 b x mo o i (hnm [1] (callRun S (sv xs (i + 1)) (sv xs (i + 2))).1)) := lv_sub hl [1, 2, 3, 4, 5, 0] rfl
  refine lv_aload_n C0.1 C0.2.1 dL_law_288 rfl (lv_at hl 2 rfl) ?_
  refine lw_arg (jn := 1) (pc := 289) C hF1.2.2.1 (lv_at hl 0 rfl) (lv_at hl 4 rfl) (by omega) hN dL_law_289 dL_law_290 dL_law_292 dL_law_293 dL_law_294 ?_
  refine lw_arg (jn := 2) (pc := 295) C hF1.2.2.1 (lv_at hl 0 rfl) (lv_at hl 4 rfl) (by omega) hN dL_law_295 dL_law_296 dL_law_298 dL_law_299 dL_law_300 ?_
  have hM1 := hM.h hok e4
  obtain ⟨r2, I2, g1, g2, g3, g4, g5⟩ := x_run (K := K) (lim := (sv xs (i + 1))) (w := (sv xs (i + 2))) hM1 hok
  refine fl_ri hF1 (fl_runV (As := [iv (sv xs (i + 1)), iv (sv xs (i + 2))]) (rest := []) C0 hF1 hl.1 ck_9 km rfl (c_X8_run l D cy s.heap.size L K P (if (callRun S (sv xs (i + 1)) (sv xs (i + 2))).1 = 0 then up J o 0 r else J) hWT I1 mo (sv xs (i + 1)) (sv xs (i + 2)) km rg_sv rg_sv g1) aw_1015 aw_1016 aw_1017 aw_73 aw_1018 rfl rfl pm_X8_run rfl rfl ⟨Nat.le_of_ble_eq_true rfl, Nat.le_of_ble_eq_true rfl⟩ rfl (Nat.le_of_ble_eq_true rfl) dL_law_301 ⟨show cells + 2 + 0 ≤ 601024 by omega, show slots + 12 + 0 ≤ 7293034 by omega⟩) (fun H locs hF2 rr2 => ?_)
  have hJ : hnm [1] (callRun S (sv xs (i + 1)) (sv xs (i + 2))).1 = 0 → (if (callRun S (sv xs (i + 1)) (sv xs (i + 2))).1 = 0 then up J o 0 r else J) o 0 = r2 := fun h0 => by
    have hc0 := hnm0 h0
    rw [if_pos hc0, up_s, e2 hc0, g2 hc0]
  exact lw_tail (t := 304) C hF2 hWT km ko g3 rh rr2 hJ hl dL_law_304 dL_law_306 dL_law_307 dL_law_310 dL_law_312 dL_law_317 dL_law_319 dL_law_322 dL_law_323 dL_law_324 dL_law_325 dL_law_327 dL_law_328 dL_law_329 dL_law_334 (by decide) (show cells + 2 + 0 ≤ 601024 by omega) (show slots + 12 + 0 ≤ 7293034 by omega) (fun H locs ls hF3 hl => W.widen (by omega) (by omega) (kk H locs ls ⟨tg, L, K, P, _, I2, (callRun S (sv xs (i + 1)) (sv xs (i + 2))).2.2, hF3, hWT, ⟨e3.fr (g5.mono (fun u => scr11)), g4, (callRun_ok hok), hTL⟩, kx, km, ko⟩ hl))
set_option maxRecDepth 100000 in
set_option maxHeartbeats 4000000 in
theorem lw_points (hst : l.stackTraces = false) (C : LX p s m meth c D cy b N xs) (hi : i + 3 < N) (hN : N ≤ 2048) (hc : cells + 20 ≤ 601024) (hs : slots + 2200 ≤ 7293034) (hI : LI D cy s H locs x mo o) (hl : lv_has ls 7 (lv5 b x mo o i))
    (kk : ∀ (H : Heap) (locs : List Loc) (ls : Array Slot), LI D cy s H locs x mo o → lv_has ls 7 (lv5 b x mo o i) → W p l e room_1 s m args below meth c H locs (cells + 20) (slots + 2200) Q (F0 m 1306 ls [])) : W p l e room_1 s m args below meth c H locs cells slots Q (F0 m 473 ls []) := by
  obtain ⟨tg, L, K, P, J, I, S, hF, hWT, ⟨hH, hM, hok, hTL⟩, kx, km, ko⟩ := hI
  have C0 := C.1
  refine lv_aload_n C0.1 C0.2.1 dL_law_473 rfl (lv_at hl 1 rfl) ?_
  refine lw_arg (jn := 1) (pc := 474) C hF.2.2.1 (lv_at hl 0 rfl) (lv_at hl 4 rfl) (by omega) hN dL_law_474 dL_law_475 dL_law_477 dL_law_478 dL_law_479 ?_
  refine lw_arg (jn := 2) (pc := 480) C hF.2.2.1 (lv_at hl 0 rfl) (lv_at hl 4 rfl) (by omega) hN dL_law_480 dL_law_481 dL_law_483 dL_law_484 dL_law_485 ?_
  refine lw_arg (jn := 3) (pc := 486) C hF.2.2.1 (lv_at hl 0 rfl) (lv_at hl 4 rfl) (by omega) hN dL_law_486 dL_law_487 dL_law_489 dL_law_490 dL_law_491 ?_
  refine lv_aload_n C0.1 C0.2.1 dL_law_492 rfl (lv_at hl 3 rfl) ?_
  obtain ⟨r, I1, e1, e2, e3, e4⟩ := h_points (K := K) (p := (sv xs (i + 1))) (g := (sv xs (i + 2))) (v := (sv xs (i + 3))) hH
  refine fl_riJ hF (fl_runSW (As := [.ref x, iv (sv xs (i + 1)), iv (sv xs (i + 2)), iv (sv xs (i + 3)), .ref o]) (rest := []) C0 hF C.2.1 hl.1 (d_points l hst D cy s.heap.size L K P J I hWT x (sv xs (i + 1)) (sv xs (i + 2)) (sv xs (i + 3)) o kx rg_sv rg_sv rg_sv ko e1 pointsS_co) aw_694 aw_695 aw_64 aw_696 rfl pm_L_points rfl rfl ⟨Nat.le_of_ble_eq_true rfl, Nat.le_of_ble_eq_true rfl⟩ rfl (Nat.le_of_ble_eq_true rfl) dL_law_493 ⟨show cells + 3 ≤ 601024 by omega, show slots + 18 ≤ 7293034 by omega⟩) (fun H locs hF1 rh => ?_)
  refine lv_istore (lv' := (5, iv (hnm [3, 1] (pointsS S (sv xs (i + 1)) (sv xs (i + 2)) (sv xs (i + 3))).1)) :: lv5 b x mo o i) C0.1 C0.2.1 dL_law_496 hl (by decide) rfl (fun ls hl => ?_)
  have hl : lv_has ls 7 (lv6 b x mo o i (hnm [3, 1] (pointsS S (sv xs (i + 1)) (sv xs (i + 2)) (sv xs (i + 3))).1)) := lv_sub hl [1, 2, 3, 4, 5, 0] rfl
  refine lv_aload_n C0.1 C0.2.1 dL_law_498 rfl (lv_at hl 2 rfl) ?_
  refine lw_arg (jn := 1) (pc := 499) C hF1.2.2.1 (lv_at hl 0 rfl) (lv_at hl 4 rfl) (by omega) hN dL_law_499 dL_law_500 dL_law_502 dL_law_503 dL_law_504 ?_
  refine lw_arg (jn := 2) (pc := 505) C hF1.2.2.1 (lv_at hl 0 rfl) (lv_at hl 4 rfl) (by omega) hN dL_law_505 dL_law_506 dL_law_508 dL_law_509 dL_law_510 ?_
  refine lw_arg (jn := 3) (pc := 511) C hF1.2.2.1 (lv_at hl 0 rfl) (lv_at hl 4 rfl) (by omega) hN dL_law_511 dL_law_512 dL_law_514 dL_law_515 dL_law_516 ?_
  have hM1 := hM.h hok e4
  obtain ⟨r2, I2, g1, g2, g3, g4, g5⟩ := x_points (K := K) (p := (sv xs (i + 1))) (g := (sv xs (i + 2))) (v := (sv xs (i + 3))) hM1 hok
  refine fl_ri hF1 (fl_runV (As := [iv (sv xs (i + 1)), iv (sv xs (i + 2)), iv (sv xs (i + 3))]) (rest := []) C0 hF1 hl.1 ck_9 km rfl (c_X8_points l D cy s.heap.size L K P (if (pointsS S (sv xs (i + 1)) (sv xs (i + 2)) (sv xs (i + 3))).1 = 0 then up J o 0 r else J) hWT I1 mo (sv xs (i + 1)) (sv xs (i + 2)) (sv xs (i + 3)) km rg_sv rg_sv rg_sv g1) aw_1068 aw_1069 aw_1070 aw_73 aw_1071 rfl rfl pm_X8_points rfl rfl ⟨Nat.le_of_ble_eq_true rfl, Nat.le_of_ble_eq_true rfl⟩ rfl (Nat.le_of_ble_eq_true rfl) dL_law_517 ⟨show cells + 3 + 0 ≤ 601024 by omega, show slots + 18 + 0 ≤ 7293034 by omega⟩) (fun H locs hF2 rr2 => ?_)
  have hJ : hnm [3, 1] (pointsS S (sv xs (i + 1)) (sv xs (i + 2)) (sv xs (i + 3))).1 = 0 → (if (pointsS S (sv xs (i + 1)) (sv xs (i + 2)) (sv xs (i + 3))).1 = 0 then up J o 0 r else J) o 0 = r2 := fun h0 => by
    have hc0 := hnm0 h0
    rw [if_pos hc0, up_s, e2 hc0, g2 hc0]
  exact lw_tail (t := 520) C hF2 hWT km ko g3 rh rr2 hJ hl dL_law_520 dL_law_522 dL_law_523 dL_law_526 dL_law_528 dL_law_533 dL_law_535 dL_law_538 dL_law_539 dL_law_540 dL_law_541 dL_law_543 dL_law_544 dL_law_545 dL_law_550 (by decide) (show cells + 3 + 0 ≤ 601024 by omega) (show slots + 18 + 0 ≤ 7293034 by omega) (fun H locs ls hF3 hl => W.widen (by omega) (by omega) (kk H locs ls ⟨tg, L, K, P, _, I2, (pointsS S (sv xs (i + 1)) (sv xs (i + 2)) (sv xs (i + 3))).2.2, hF3, hWT, ⟨e3.fr (g5.mono (fun u => scr11)), g4, (pointsS_ok hok), hTL⟩, kx, km, ko⟩ hl))
set_option maxRecDepth 100000 in
set_option maxHeartbeats 4000000 in
theorem lw_mend (hst : l.stackTraces = false) (C : LX p s m meth c D cy b N xs) (hi : i + 3 < N) (hN : N ≤ 2048) (hc : cells + 20 ≤ 601024) (hs : slots + 2200 ≤ 7293034) (hI : LI D cy s H locs x mo o) (hl : lv_has ls 7 (lv5 b x mo o i))
    (kk : ∀ (H : Heap) (locs : List Loc) (ls : Array Slot), LI D cy s H locs x mo o → lv_has ls 7 (lv5 b x mo o i) → W p l e room_1 s m args below meth c H locs (cells + 20) (slots + 2200) Q (F0 m 1306 ls [])) : W p l e room_1 s m args below meth c H locs cells slots Q (F0 m 553 ls []) := by
  obtain ⟨tg, L, K, P, J, I, S, hF, hWT, ⟨hH, hM, hok, hTL⟩, kx, km, ko⟩ := hI
  have C0 := C.1
  refine lv_aload_n C0.1 C0.2.1 dL_law_553 rfl (lv_at hl 1 rfl) ?_
  refine lw_arg (jn := 1) (pc := 554) C hF.2.2.1 (lv_at hl 0 rfl) (lv_at hl 4 rfl) (by omega) hN dL_law_554 dL_law_555 dL_law_557 dL_law_558 dL_law_559 ?_
  refine lw_arg (jn := 2) (pc := 560) C hF.2.2.1 (lv_at hl 0 rfl) (lv_at hl 4 rfl) (by omega) hN dL_law_560 dL_law_561 dL_law_563 dL_law_564 dL_law_565 ?_
  refine lv_aload_n C0.1 C0.2.1 dL_law_566 rfl (lv_at hl 3 rfl) ?_
  obtain ⟨r, I1, e1, e2, e3, e4⟩ := h_mend (K := K) (v := (sv xs (i + 1))) (w := (sv xs (i + 2))) hH hok
  refine fl_riJ hF (fl_runSW (As := [.ref x, iv (sv xs (i + 1)), iv (sv xs (i + 2)), .ref o]) (rest := []) C0 hF C.2.1 hl.1 (d_mend l hst D cy s.heap.size L K P J I hWT x (sv xs (i + 1)) (sv xs (i + 2)) o kx rg_sv rg_sv ko e1 mendS_co) aw_701 aw_702 aw_64 aw_703 rfl pm_L_mend rfl rfl ⟨Nat.le_of_ble_eq_true rfl, Nat.le_of_ble_eq_true rfl⟩ rfl (Nat.le_of_ble_eq_true rfl) dL_law_567 ⟨show cells + 3 ≤ 601024 by omega, show slots + 18 ≤ 7293034 by omega⟩) (fun H locs hF1 rh => ?_)
  refine lv_istore (lv' := (5, iv (hnm [3, 1, 2] (mendS S (sv xs (i + 1)) (sv xs (i + 2))).1)) :: lv5 b x mo o i) C0.1 C0.2.1 dL_law_570 hl (by decide) rfl (fun ls hl => ?_)
  have hl : lv_has ls 7 (lv6 b x mo o i (hnm [3, 1, 2] (mendS S (sv xs (i + 1)) (sv xs (i + 2))).1)) := lv_sub hl [1, 2, 3, 4, 5, 0] rfl
  refine lv_aload_n C0.1 C0.2.1 dL_law_572 rfl (lv_at hl 2 rfl) ?_
  refine lw_arg (jn := 1) (pc := 573) C hF1.2.2.1 (lv_at hl 0 rfl) (lv_at hl 4 rfl) (by omega) hN dL_law_573 dL_law_574 dL_law_576 dL_law_577 dL_law_578 ?_
  refine lw_arg (jn := 2) (pc := 579) C hF1.2.2.1 (lv_at hl 0 rfl) (lv_at hl 4 rfl) (by omega) hN dL_law_579 dL_law_580 dL_law_582 dL_law_583 dL_law_584 ?_
  have hM1 := hM.h hok e4
  obtain ⟨r2, I2, g1, g2, g3, g4, g5⟩ := x_mend (K := K) (v := (sv xs (i + 1))) (w := (sv xs (i + 2))) hM1 hok
  refine fl_ri hF1 (fl_runV (As := [iv (sv xs (i + 1)), iv (sv xs (i + 2))]) (rest := []) C0 hF1 hl.1 ck_9 km rfl (c_X8_mend l D cy s.heap.size L K P (if (mendS S (sv xs (i + 1)) (sv xs (i + 2))).1 = 0 then up J o 0 r else J) hWT I1 mo (sv xs (i + 1)) (sv xs (i + 2)) km rg_sv rg_sv g1) aw_1072 aw_1073 aw_1074 aw_73 aw_1075 rfl rfl pm_X8_mend rfl rfl ⟨Nat.le_of_ble_eq_true rfl, Nat.le_of_ble_eq_true rfl⟩ rfl (Nat.le_of_ble_eq_true rfl) dL_law_585 ⟨show cells + 3 + 0 ≤ 601024 by omega, show slots + 18 + 0 ≤ 7293034 by omega⟩) (fun H locs hF2 rr2 => ?_)
  have hJ : hnm [3, 1, 2] (mendS S (sv xs (i + 1)) (sv xs (i + 2))).1 = 0 → (if (mendS S (sv xs (i + 1)) (sv xs (i + 2))).1 = 0 then up J o 0 r else J) o 0 = r2 := fun h0 => by
    have hc0 := hnm0 h0
    rw [if_pos hc0, up_s, e2 hc0, g2 hc0]
  exact lw_tail (t := 588) C hF2 hWT km ko g3 rh rr2 hJ hl dL_law_588 dL_law_590 dL_law_591 dL_law_594 dL_law_596 dL_law_601 dL_law_603 dL_law_606 dL_law_607 dL_law_608 dL_law_609 dL_law_611 dL_law_612 dL_law_613 dL_law_618 (by decide) (show cells + 3 + 0 ≤ 601024 by omega) (show slots + 18 + 0 ≤ 7293034 by omega) (fun H locs ls hF3 hl => W.widen (by omega) (by omega) (kk H locs ls ⟨tg, L, K, P, _, I2, (mendS S (sv xs (i + 1)) (sv xs (i + 2))).2.2, hF3, hWT, ⟨e3.fr (g5.mono (fun u => scr11)), g4, (mendS_ok hok), hTL⟩, kx, km, ko⟩ hl))
set_option maxRecDepth 100000 in
set_option maxHeartbeats 4000000 in
theorem lw_answer (hst : l.stackTraces = false) (C : LX p s m meth c D cy b N xs) (hi : i + 3 < N) (hN : N ≤ 2048) (hc : cells + 20 ≤ 601024) (hs : slots + 2200 ≤ 7293034) (hI : LI D cy s H locs x mo o) (hl : lv_has ls 7 (lv5 b x mo o i))
    (kk : ∀ (H : Heap) (locs : List Loc) (ls : Array Slot), LI D cy s H locs x mo o → lv_has ls 7 (lv5 b x mo o i) → W p l e room_1 s m args below meth c H locs (cells + 20) (slots + 2200) Q (F0 m 1306 ls [])) : W p l e room_1 s m args below meth c H locs cells slots Q (F0 m 621 ls []) := by
  obtain ⟨tg, L, K, P, J, I, S, hF, hWT, ⟨hH, hM, hok, hTL⟩, kx, km, ko⟩ := hI
  have C0 := C.1
  refine lv_aload_n C0.1 C0.2.1 dL_law_621 rfl (lv_at hl 1 rfl) ?_
  refine lw_arg (jn := 1) (pc := 622) C hF.2.2.1 (lv_at hl 0 rfl) (lv_at hl 4 rfl) (by omega) hN dL_law_622 dL_law_623 dL_law_625 dL_law_626 dL_law_627 ?_
  refine lw_arg (jn := 2) (pc := 628) C hF.2.2.1 (lv_at hl 0 rfl) (lv_at hl 4 rfl) (by omega) hN dL_law_628 dL_law_629 dL_law_631 dL_law_632 dL_law_633 ?_
  refine lw_arg (jn := 3) (pc := 634) C hF.2.2.1 (lv_at hl 0 rfl) (lv_at hl 4 rfl) (by omega) hN dL_law_634 dL_law_635 dL_law_637 dL_law_638 dL_law_639 ?_
  refine lv_aload_n C0.1 C0.2.1 dL_law_640 rfl (lv_at hl 3 rfl) ?_
  obtain ⟨r, I1, e1, e2, e3, e4⟩ := h_answer (K := K) (p := (sv xs (i + 1))) (t := (sv xs (i + 2))) (k := (sv xs (i + 3))) hH hok
  refine fl_riJ hF (fl_runSW (As := [.ref x, iv (sv xs (i + 1)), iv (sv xs (i + 2)), iv (sv xs (i + 3)), .ref o]) (rest := []) C0 hF C.2.1 hl.1 (d_answer l hst D cy s.heap.size L K P J I hWT x (sv xs (i + 1)) (sv xs (i + 2)) (sv xs (i + 3)) o kx rg_sv rg_sv rg_sv ko e1 answerS_co) aw_718 aw_719 aw_64 aw_720 rfl pm_L_answer rfl rfl ⟨Nat.le_of_ble_eq_true rfl, Nat.le_of_ble_eq_true rfl⟩ rfl (Nat.le_of_ble_eq_true rfl) dL_law_641 ⟨show cells + 3 ≤ 601024 by omega, show slots + 18 ≤ 7293034 by omega⟩) (fun H locs hF1 rh => ?_)
  refine lv_istore (lv' := (5, iv (hnm [3] (answerS S (sv xs (i + 1)) (sv xs (i + 2)) (sv xs (i + 3))).1)) :: lv5 b x mo o i) C0.1 C0.2.1 dL_law_644 hl (by decide) rfl (fun ls hl => ?_)
  have hl : lv_has ls 7 (lv6 b x mo o i (hnm [3] (answerS S (sv xs (i + 1)) (sv xs (i + 2)) (sv xs (i + 3))).1)) := lv_sub hl [1, 2, 3, 4, 5, 0] rfl
  refine lv_aload_n C0.1 C0.2.1 dL_law_646 rfl (lv_at hl 2 rfl) ?_
  refine lw_arg (jn := 1) (pc := 647) C hF1.2.2.1 (lv_at hl 0 rfl) (lv_at hl 4 rfl) (by omega) hN dL_law_647 dL_law_648 dL_law_650 dL_law_651 dL_law_652 ?_
  refine lw_arg (jn := 2) (pc := 653) C hF1.2.2.1 (lv_at hl 0 rfl) (lv_at hl 4 rfl) (by omega) hN dL_law_653 dL_law_654 dL_law_656 dL_law_657 dL_law_658 ?_
  refine lw_arg (jn := 3) (pc := 659) C hF1.2.2.1 (lv_at hl 0 rfl) (lv_at hl 4 rfl) (by omega) hN dL_law_659 dL_law_660 dL_law_662 dL_law_663 dL_law_664 ?_
  have hM1 := hM.h hok e4
  obtain ⟨r2, I2, g1, g2, g3, g4, g5⟩ := x_answer (K := K) (p := (sv xs (i + 1))) (t := (sv xs (i + 2))) (k := (sv xs (i + 3))) hM1 hok
  refine fl_ri hF1 (fl_runV (As := [iv (sv xs (i + 1)), iv (sv xs (i + 2)), iv (sv xs (i + 3))]) (rest := []) C0 hF1 hl.1 ck_9 km rfl (c_X8_answer l D cy s.heap.size L K P (if (answerS S (sv xs (i + 1)) (sv xs (i + 2)) (sv xs (i + 3))).1 = 0 then up J o 0 r else J) hWT I1 mo (sv xs (i + 1)) (sv xs (i + 2)) (sv xs (i + 3)) km rg_sv rg_sv rg_sv g1) aw_1076 aw_1077 aw_1078 aw_73 aw_1079 rfl rfl pm_X8_answer rfl rfl ⟨Nat.le_of_ble_eq_true rfl, Nat.le_of_ble_eq_true rfl⟩ rfl (Nat.le_of_ble_eq_true rfl) dL_law_665 ⟨show cells + 3 + 0 ≤ 601024 by omega, show slots + 18 + 0 ≤ 7293034 by omega⟩) (fun H locs hF2 rr2 => ?_)
  have hJ : hnm [3] (answerS S (sv xs (i + 1)) (sv xs (i + 2)) (sv xs (i + 3))).1 = 0 → (if (answerS S (sv xs (i + 1)) (sv xs (i + 2)) (sv xs (i + 3))).1 = 0 then up J o 0 r else J) o 0 = r2 := fun h0 => by
    have hc0 := hnm0 h0
    rw [if_pos hc0, up_s, e2 hc0, g2 hc0]
  exact lw_tail (t := 668) C hF2 hWT km ko g3 rh rr2 hJ hl dL_law_668 dL_law_670 dL_law_671 dL_law_674 dL_law_676 dL_law_681 dL_law_683 dL_law_686 dL_law_687 dL_law_688 dL_law_689 dL_law_691 dL_law_692 dL_law_693 dL_law_698 (by decide) (show cells + 3 + 0 ≤ 601024 by omega) (show slots + 18 + 0 ≤ 7293034 by omega) (fun H locs ls hF3 hl => W.widen (by omega) (by omega) (kk H locs ls ⟨tg, L, K, P, _, I2, (answerS S (sv xs (i + 1)) (sv xs (i + 2)) (sv xs (i + 3))).2.2, hF3, hWT, ⟨e3.fr (g5.mono (fun u => scr11)), g4, (answerS_ok hok), hTL⟩, kx, km, ko⟩ hl))
set_option maxRecDepth 100000 in
set_option maxHeartbeats 4000000 in
theorem lw_pass (hst : l.stackTraces = false) (C : LX p s m meth c D cy b N xs) (hi : i + 3 < N) (hN : N ≤ 2048) (hc : cells + 20 ≤ 601024) (hs : slots + 2200 ≤ 7293034) (hI : LI D cy s H locs x mo o) (hl : lv_has ls 7 (lv5 b x mo o i))
    (kk : ∀ (H : Heap) (locs : List Loc) (ls : Array Slot), LI D cy s H locs x mo o → lv_has ls 7 (lv5 b x mo o i) → W p l e room_1 s m args below meth c H locs (cells + 20) (slots + 2200) Q (F0 m 1306 ls [])) : W p l e room_1 s m args below meth c H locs cells slots Q (F0 m 769 ls []) := by
  obtain ⟨tg, L, K, P, J, I, S, hF, hWT, ⟨hH, hM, hok, hTL⟩, kx, km, ko⟩ := hI
  have C0 := C.1
  refine lv_aload_n C0.1 C0.2.1 dL_law_769 rfl (lv_at hl 1 rfl) ?_
  refine lw_arg (jn := 1) (pc := 770) C hF.2.2.1 (lv_at hl 0 rfl) (lv_at hl 4 rfl) (by omega) hN dL_law_770 dL_law_771 dL_law_773 dL_law_774 dL_law_775 ?_
  refine lv_aload_n C0.1 C0.2.1 dL_law_776 rfl (lv_at hl 3 rfl) ?_
  obtain ⟨r, I1, e1, e2, e3, e4⟩ := h_pass (K := K) (v := (sv xs (i + 1))) hH hok
  refine fl_riJ hF (fl_runSW (As := [.ref x, iv (sv xs (i + 1)), .ref o]) (rest := []) C0 hF C.2.1 hl.1 (d_pass l hst D cy s.heap.size L K P J I hWT x (sv xs (i + 1)) o kx rg_sv ko e1 passS_co) aw_776 aw_777 aw_64 aw_778 rfl pm_L_pass rfl rfl ⟨Nat.le_of_ble_eq_true rfl, Nat.le_of_ble_eq_true rfl⟩ rfl (Nat.le_of_ble_eq_true rfl) dL_law_777 ⟨show cells + 2 ≤ 601024 by omega, show slots + 12 ≤ 7293034 by omega⟩) (fun H locs hF1 rh => ?_)
  refine lv_istore (lv' := (5, iv (hnm [1, 2] (passS S (sv xs (i + 1))).1)) :: lv5 b x mo o i) C0.1 C0.2.1 dL_law_780 hl (by decide) rfl (fun ls hl => ?_)
  have hl : lv_has ls 7 (lv6 b x mo o i (hnm [1, 2] (passS S (sv xs (i + 1))).1)) := lv_sub hl [1, 2, 3, 4, 5, 0] rfl
  refine lv_aload_n C0.1 C0.2.1 dL_law_782 rfl (lv_at hl 2 rfl) ?_
  refine lw_arg (jn := 1) (pc := 783) C hF1.2.2.1 (lv_at hl 0 rfl) (lv_at hl 4 rfl) (by omega) hN dL_law_783 dL_law_784 dL_law_786 dL_law_787 dL_law_788 ?_
  have hM1 := hM.h hok e4
  obtain ⟨r2, I2, g1, g2, g3, g4, g5⟩ := x_pass (K := K) (v := (sv xs (i + 1))) hM1 hok
  refine fl_ri hF1 (fl_runV (As := [iv (sv xs (i + 1))]) (rest := []) C0 hF1 hl.1 ck_9 km rfl (c_X8_pass l D cy s.heap.size L K P (if (passS S (sv xs (i + 1))).1 = 0 then up J o 0 r else J) hWT I1 mo (sv xs (i + 1)) km rg_sv g1) aw_1087 aw_1088 aw_1089 aw_73 aw_1090 rfl rfl pm_X8_pass rfl rfl ⟨Nat.le_of_ble_eq_true rfl, Nat.le_of_ble_eq_true rfl⟩ rfl (Nat.le_of_ble_eq_true rfl) dL_law_789 ⟨show cells + 2 + 0 ≤ 601024 by omega, show slots + 12 + 0 ≤ 7293034 by omega⟩) (fun H locs hF2 rr2 => ?_)
  have hJ : hnm [1, 2] (passS S (sv xs (i + 1))).1 = 0 → (if (passS S (sv xs (i + 1))).1 = 0 then up J o 0 r else J) o 0 = r2 := fun h0 => by
    have hc0 := hnm0 h0
    rw [if_pos hc0, up_s, e2 hc0, g2 hc0]
  exact lw_tail (t := 792) C hF2 hWT km ko g3 rh rr2 hJ hl dL_law_792 dL_law_794 dL_law_795 dL_law_798 dL_law_800 dL_law_805 dL_law_807 dL_law_810 dL_law_811 dL_law_812 dL_law_813 dL_law_815 dL_law_816 dL_law_817 dL_law_822 (by decide) (show cells + 2 + 0 ≤ 601024 by omega) (show slots + 12 + 0 ≤ 7293034 by omega) (fun H locs ls hF3 hl => W.widen (by omega) (by omega) (kk H locs ls ⟨tg, L, K, P, _, I2, (passS S (sv xs (i + 1))).2.2, hF3, hWT, ⟨e3.fr (g5.mono (fun u => scr11)), g4, (passS_ok hok), hTL⟩, kx, km, ko⟩ hl))
set_option maxRecDepth 100000 in
set_option maxHeartbeats 4000000 in
theorem lw_judge (hst : l.stackTraces = false) (C : LX p s m meth c D cy b N xs) (hi : i + 3 < N) (hN : N ≤ 2048) (hc : cells + 20 ≤ 601024) (hs : slots + 2200 ≤ 7293034) (hI : LI D cy s H locs x mo o) (hl : lv_has ls 7 (lv5 b x mo o i))
    (kk : ∀ (H : Heap) (locs : List Loc) (ls : Array Slot), LI D cy s H locs x mo o → lv_has ls 7 (lv5 b x mo o i) → W p l e room_1 s m args below meth c H locs (cells + 20) (slots + 2200) Q (F0 m 1306 ls [])) : W p l e room_1 s m args below meth c H locs cells slots Q (F0 m 825 ls []) := by
  obtain ⟨tg, L, K, P, J, I, S, hF, hWT, ⟨hH, hM, hok, hTL⟩, kx, km, ko⟩ := hI
  have C0 := C.1
  obtain ⟨I1, e1, e3, e4⟩ := h_judge (K := K) hH hok
  have hM1 := hM.h hok e4
  obtain ⟨I2, g1, g3, g4, g5⟩ := x_judge (K := K) hM1 hok
  refine lv_aload_n C0.1 C0.2.1 dL_law_825 rfl (lv_at hl 1 rfl) ?_
  refine fl_ri hF (fl_runV (As := []) (rest := []) C0 hF hl.1 ck_8 kx rfl (c_X7_judge l D cy s.heap.size L K P J hWT I x kx e1) aw_252 aw_253 aw_254 aw_65 aw_255 rfl rfl pm_X7_judge rfl rfl ⟨Nat.le_of_ble_eq_true rfl, Nat.le_of_ble_eq_true rfl⟩ rfl (Nat.le_of_ble_eq_true rfl) dL_law_826 ⟨show cells + 0 ≤ 601024 by omega, show slots + 0 ≤ 7293034 by omega⟩) (fun H locs hF1 rr1 => ?_)
  refine lv_aload_n C0.1 C0.2.1 dL_law_829 rfl (lv_at hl 2 rfl) ?_
  refine fl_ri hF1 (fl_runV (As := []) (rest := [iv (judgeS S).2.1]) C0 hF1 hl.1 ck_9 km rfl (c_X8_judge l D cy s.heap.size L K P J hWT I1 mo km g1) aw_1091 aw_1092 aw_1093 aw_73 aw_1094 rfl rfl pm_X8_judge rfl rfl ⟨Nat.le_of_ble_eq_true rfl, Nat.le_of_ble_eq_true rfl⟩ rfl (Nat.le_of_ble_eq_true rfl) dL_law_830 ⟨show cells + 0 + 0 ≤ 601024 by omega, show slots + 0 + 0 ≤ 7293034 by omega⟩) (fun H locs hF3 rr2 => ?_)
  refine fl_icmp_eq (tgt := 1306) C0 rr1 rr2 dL_law_833 (by decide) (fun _ => ?_) (fun q => absurd rfl q)
  exact W.widen (by omega) (by omega) (kk H locs ls ⟨tg, L, K, P, J, I2, (judgeS S).2.2, hF3, hWT, ⟨e3.fr (g5.mono (fun u => scr11)), g4, judgeS_ok hok, hTL⟩, kx, km, ko⟩ hl)
set_option maxRecDepth 100000 in
set_option maxHeartbeats 4000000 in
theorem lw_rejudge (hst : l.stackTraces = false) (C : LX p s m meth c D cy b N xs) (hi : i + 3 < N) (hN : N ≤ 2048) (hc : cells + 20 ≤ 601024) (hs : slots + 2200 ≤ 7293034) (hI : LI D cy s H locs x mo o) (hl : lv_has ls 7 (lv5 b x mo o i))
    (kk : ∀ (H : Heap) (locs : List Loc) (ls : Array Slot), LI D cy s H locs x mo o → lv_has ls 7 (lv5 b x mo o i) → W p l e room_1 s m args below meth c H locs (cells + 20) (slots + 2200) Q (F0 m 1306 ls [])) : W p l e room_1 s m args below meth c H locs cells slots Q (F0 m 838 ls []) := by
  obtain ⟨tg, L, K, P, J, I, S, hF, hWT, ⟨hH, hM, hok, hTL⟩, kx, km, ko⟩ := hI
  have C0 := C.1
  refine lv_aload_n C0.1 C0.2.1 dL_law_838 rfl (lv_at hl 1 rfl) ?_
  refine lw_arg (jn := 1) (pc := 839) C hF.2.2.1 (lv_at hl 0 rfl) (lv_at hl 4 rfl) (by omega) hN dL_law_839 dL_law_840 dL_law_842 dL_law_843 dL_law_844 ?_
  refine lv_aload_n C0.1 C0.2.1 dL_law_845 rfl (lv_at hl 3 rfl) ?_
  obtain ⟨r, I1, e1, e2, e3, e4⟩ := h_rejudge (K := K) (p := (sv xs (i + 1))) hH hok
  refine fl_riJ hF (fl_runSW (As := [.ref x, iv (sv xs (i + 1)), .ref o]) (rest := []) C0 hF C.2.1 hl.1 (d_rejudge l hst D cy s.heap.size L K P J I hWT x (sv xs (i + 1)) o kx rg_sv ko e1 rejudgeS_co) aw_784 aw_785 aw_64 aw_786 rfl pm_L_rejudge rfl rfl ⟨Nat.le_of_ble_eq_true rfl, Nat.le_of_ble_eq_true rfl⟩ rfl (Nat.le_of_ble_eq_true rfl) dL_law_846 ⟨show cells + 1 ≤ 601024 by omega, show slots + 6 ≤ 7293034 by omega⟩) (fun H locs hF1 rh => ?_)
  refine lv_istore (lv' := (5, iv (hnm [3] (rejudgeS S (sv xs (i + 1))).1)) :: lv5 b x mo o i) C0.1 C0.2.1 dL_law_849 hl (by decide) rfl (fun ls hl => ?_)
  have hl : lv_has ls 7 (lv6 b x mo o i (hnm [3] (rejudgeS S (sv xs (i + 1))).1)) := lv_sub hl [1, 2, 3, 4, 5, 0] rfl
  refine lv_aload_n C0.1 C0.2.1 dL_law_851 rfl (lv_at hl 2 rfl) ?_
  refine lw_arg (jn := 1) (pc := 852) C hF1.2.2.1 (lv_at hl 0 rfl) (lv_at hl 4 rfl) (by omega) hN dL_law_852 dL_law_853 dL_law_855 dL_law_856 dL_law_857 ?_
  have hM1 := hM.h hok e4
  obtain ⟨r2, I2, g1, g2, g3, g4, g5⟩ := x_rejudge (K := K) (p := (sv xs (i + 1))) hM1 hok
  refine fl_ri hF1 (fl_runV (As := [iv (sv xs (i + 1))]) (rest := []) C0 hF1 hl.1 ck_9 km rfl (c_X8_rejudge l D cy s.heap.size L K P (if (rejudgeS S (sv xs (i + 1))).1 = 0 then up J o 0 r else J) hWT I1 mo (sv xs (i + 1)) km rg_sv g1) aw_1107 aw_1108 aw_1109 aw_73 aw_1110 rfl rfl pm_X8_rejudge rfl rfl ⟨Nat.le_of_ble_eq_true rfl, Nat.le_of_ble_eq_true rfl⟩ rfl (Nat.le_of_ble_eq_true rfl) dL_law_858 ⟨show cells + 1 + 0 ≤ 601024 by omega, show slots + 6 + 0 ≤ 7293034 by omega⟩) (fun H locs hF2 rr2 => ?_)
  have hJ : hnm [3] (rejudgeS S (sv xs (i + 1))).1 = 0 → (if (rejudgeS S (sv xs (i + 1))).1 = 0 then up J o 0 r else J) o 0 = r2 := fun h0 => by
    have hc0 := hnm0 h0
    rw [if_pos hc0, up_s, e2 hc0, g2 hc0]
  exact lw_tail (t := 861) C hF2 hWT km ko g3 rh rr2 hJ hl dL_law_861 dL_law_863 dL_law_864 dL_law_867 dL_law_869 dL_law_874 dL_law_876 dL_law_879 dL_law_880 dL_law_881 dL_law_882 dL_law_884 dL_law_885 dL_law_886 dL_law_891 (by decide) (show cells + 1 + 0 ≤ 601024 by omega) (show slots + 6 + 0 ≤ 7293034 by omega) (fun H locs ls hF3 hl => W.widen (by omega) (by omega) (kk H locs ls ⟨tg, L, K, P, _, I2, (rejudgeS S (sv xs (i + 1))).2.2, hF3, hWT, ⟨e3.fr (g5.mono (fun u => scr11)), g4, (rejudgeS_ok hok), hTL⟩, kx, km, ko⟩ hl))
end LW2
