section LW4
variable {p : Program} {l : Launch} {e : Env} {s : State} {m : MethodId} {args : Array Value} {below : List Frame} {meth : Method} {c : Code} {Q : State → Prop}
variable {D : va_G} {cy : Nat → ClassId} {b N : Nat} {xs : Nat → Int32} {x mo o : Nat}
theorem ofN {n : Nat} : Int32.ofNat n = Int32.ofInt (n : Int) := by simp [Int32.ofInt, Int32.ofNat]
theorem LI.va {H : Heap} {locs : List Loc} (h : LI D cy s H locs x mo o) : va_S (fun q : Nat => s.heap.size ≤ q) s.heap H locs := by
  obtain ⟨tg, L, K, P, J, I, S, hF, -⟩ := h
  exact hF.2.2.1
set_option maxRecDepth 100000 in
set_option maxHeartbeats 4000000 in
/-- the loop over the script -/
theorem law_loop (hst : l.stackTraces = false) (C : LX p s m meth c D cy b N xs) (hN : N ≤ 2048)
    (kend : ∀ (H : Heap) (locs : List Loc) (cells slots : Nat) (ls : Array Slot), va_S (fun q : Nat => s.heap.size ≤ q) s.heap H locs → cells ≤ 601024 → slots ≤ 7293034 → W p l e room_1 s m args below meth c H locs cells slots Q (F0 m 1312 ls [])) :
    ∀ (d k : Nat) (H : Heap) (locs : List Loc) (ls : Array Slot) (cells slots : Nat), N ≤ 4 * (k + d) + 3 → k ≤ 513 → cells ≤ 100 + 20 * k → slots ≤ 5000 + 2200 * k → LI D cy s H locs x mo o → lv_has ls 7 (lv5 b x mo o (4 * k)) → W p l e room_1 s m args below meth c H locs cells slots Q (F0 m 23 ls []) := by
  have C0 := C.1
  intro d
  induction d with
  | zero =>
    intro k H locs ls cells slots hd hk hc hs hI hl
    have ex := C
    obtain ⟨-, hN', hX, hbl⟩ := ex
    refine lv_iload C0.1 C0.2.1 dL_law_23 (lv_at hl 4 rfl) ?_
    refine lv_aload_n C0.1 C0.2.1 dL_law_25 rfl (lv_at hl 0 rfl) ?_
    refine va_slen C0.1 C0.2.1 hX hbl (Nat.not_le.mpr hbl) hI.va dL_law_26 ?_
    rw [ofN]
    refine fl_iconst C0 dL_law_27 ?_
    refine fl_isub C0 dL_law_28 ?_
    have e4 : wr ((N : Int) - 4) = (N : Int) - 4 := wr_id (by omega) (by omega)
    rw [e4]
    exact fl_icmp_gt (tgt := 1312) C0 ⟨by omega, by omega⟩ ⟨by omega, by omega⟩ dL_law_29 (by decide) (fun _ => kend H locs cells slots ls hI.va (by omega) (by omega)) (fun h => absurd h (by omega))
  | succ d ih =>
    intro k H locs ls cells slots hd hk hc hs hI hl
    have ex := C
    obtain ⟨-, hN', hX, hbl⟩ := ex
    refine lv_iload C0.1 C0.2.1 dL_law_23 (lv_at hl 4 rfl) ?_
    refine lv_aload_n C0.1 C0.2.1 dL_law_25 rfl (lv_at hl 0 rfl) ?_
    refine va_slen C0.1 C0.2.1 hX hbl (Nat.not_le.mpr hbl) hI.va dL_law_26 ?_
    rw [ofN]
    refine fl_iconst C0 dL_law_27 ?_
    refine fl_isub C0 dL_law_28 ?_
    have e4 : wr ((N : Int) - 4) = (N : Int) - 4 := wr_id (by omega) (by omega)
    rw [e4]
    refine fl_icmp_gt (tgt := 1312) C0 ⟨by omega, by omega⟩ ⟨by omega, by omega⟩ dL_law_29 (by decide) (fun _ => kend H locs cells slots ls hI.va (by omega) (by omega)) (fun hgt => ?_)
    have hi : 4 * k + 3 < N := by omega
    refine lv_aload_n C0.1 C0.2.1 dL_law_32 rfl (lv_at hl 0 rfl) ?_
    refine lv_iload C0.1 C0.2.1 dL_law_33 (lv_at hl 4 rfl) ?_
    have rn : rg ((4 * k : Nat) : Int) := ⟨by omega, by omega⟩
    refine va_sld C0.1 C0.2.1 hX hbl (Nat.not_le.mpr hbl) hI.va (of_in rn ⟨by omega, by omega⟩) dL_law_35 ?_
    rw [of_clamp rn, Int.toNat_natCast, ← iv_toInt]
    refine fl_bipush C0 dL_law_36 (by decide) ?_
    refine fl_iand C0 dL_law_38 ?_
    have back : ∀ (H : Heap) (locs : List Loc) (ls : Array Slot) (cells' slots' : Nat), cells' ≤ cells + 20 → slots' ≤ slots + 2200 → LI D cy s H locs x mo o → lv_has ls 7 (lv5 b x mo o (4 * k)) → W p l e room_1 s m args below meth c H locs cells' slots' Q (F0 m 1306 ls []) := fun H locs ls cells' slots' h1 h2 hI hl => by
      refine fl_iinc (k := 4) (lv' := [(4, iv (wr (((4 * k : Nat) : Int) + 4))), (0, .ref b), (1, .ref x), (2, .ref mo), (3, .ref o)]) C0 dL_law_1306 hl rfl (by decide) rfl (fun ls hl => ?_)
      refine fl_goto (tgt := 23) C0 dL_law_1309 (by decide) ?_
      have e5 : wr (((4 * k : Nat) : Int) + 4) = ((4 * (k + 1) : Nat) : Int) := by rw [wr_id (by omega) (by omega)]; omega
      rw [e5] at hl
      exact ih (k + 1) H locs ls cells' slots' (by omega) (by omega) (by omega) (by omega) hI (lv_sub hl [1, 2, 3, 4, 0] rfl)
    have rz : rg (ban (xs (4 * k)).toInt 31) := rg_ban _ _
    have hc' : cells + 20 ≤ 601024 := by omega
    have hs' : slots + 2200 ≤ 7293034 := by omega
    have kk : ∀ (H : Heap) (locs : List Loc) (ls : Array Slot), LI D cy s H locs x mo o → lv_has ls 7 (lv5 b x mo o (4 * k)) → W p l e room_1 s m args below meth c H locs (cells + 20) (slots + 2200) Q (F0 m 1306 ls []) := fun H locs ls hI hl => back H locs ls _ _ (Nat.le_refl _) (Nat.le_refl _) hI hl
    generalize hz : ban (xs (4 * k)).toInt 31 = z at rz
    by_cases h20 : 0 ≤ z ∧ z ≤ 19
    · have hcs : z = 0 ∨ z = 1 ∨ z = 2 ∨ z = 3 ∨ z = 4 ∨ z = 5 ∨ z = 6 ∨ z = 7 ∨ z = 8 ∨ z = 9 ∨ z = 10 ∨ z = 11 ∨ z = 12 ∨ z = 13 ∨ z = 14 ∨ z = 15 ∨ z = 16 ∨ z = 17 ∨ z = 18 ∨ z = 19 := by omega
      rcases hcs with q | q | q | q | q | q | q | q | q | q | q | q | q | q | q | q | q | q | q | q
      · exact fl_tableIn (v := 0) (off := 93) (tgt := 132) C0 rz dL_law_39 q (by decide) rfl (by decide) (lw_code hst C hi hN hc' hs' hI hl kk)
      · exact fl_tableIn (v := 1) (off := 161) (tgt := 200) C0 rz dL_law_39 q (by decide) rfl (by decide) (lw_input hst C hi hN hc' hs' hI hl kk)
      · exact fl_tableIn (v := 2) (off := 217) (tgt := 256) C0 rz dL_law_39 q (by decide) rfl (by decide) (lw_clear hst C hi hN hc' hs' hI hl kk)
      · exact fl_tableIn (v := 3) (off := 230) (tgt := 269) C0 rz dL_law_39 q (by decide) rfl (by decide) (lw_run hst C hi hN hc' hs' hI hl kk)
      · exact fl_tableIn (v := 4) (off := 298) (tgt := 337) C0 rz dL_law_39 q (by decide) rfl (by decide) (lw_problem hst C hi hN hc' hs' hI hl kk)
      · exact fl_tableIn (v := 5) (off := 366) (tgt := 405) C0 rz dL_law_39 q (by decide) rfl (by decide) (lw_test hst C hi hN hc' hs' hI hl kk)
      · exact fl_tableIn (v := 6) (off := 434) (tgt := 473) C0 rz dL_law_39 q (by decide) rfl (by decide) (lw_points hst C hi hN hc' hs' hI hl kk)
      · exact fl_tableIn (v := 7) (off := 514) (tgt := 553) C0 rz dL_law_39 q (by decide) rfl (by decide) (lw_mend hst C hi hN hc' hs' hI hl kk)
      · exact fl_tableIn (v := 8) (off := 582) (tgt := 621) C0 rz dL_law_39 q (by decide) rfl (by decide) (lw_answer hst C hi hN hc' hs' hI hl kk)
      · exact fl_tableIn (v := 9) (off := 662) (tgt := 701) C0 rz dL_law_39 q (by decide) rfl (by decide) (lw_enter hst C hi hN hc' hs' hI hl kk)
      · exact fl_tableIn (v := 10) (off := 730) (tgt := 769) C0 rz dL_law_39 q (by decide) rfl (by decide) (lw_pass hst C hi hN hc' hs' hI hl kk)
      · exact fl_tableIn (v := 11) (off := 786) (tgt := 825) C0 rz dL_law_39 q (by decide) rfl (by decide) (lw_judge hst C hi hN hc' hs' hI hl kk)
      · exact fl_tableIn (v := 12) (off := 799) (tgt := 838) C0 rz dL_law_39 q (by decide) rfl (by decide) (lw_rejudge hst C hi hN hc' hs' hI hl kk)
      · exact fl_tableIn (v := 13) (off := 855) (tgt := 894) C0 rz dL_law_39 q (by decide) rfl (by decide) (lw_entry hst C hi hN hc' hs' hI hl kk)
      · exact fl_tableIn (v := 14) (off := 923) (tgt := 962) C0 rz dL_law_39 q (by decide) rfl (by decide) (lw_likeness hst C hi hN hc' hs' hI hl kk)
      · exact fl_tableIn (v := 15) (off := 991) (tgt := 1030) C0 rz dL_law_39 q (by decide) rfl (by decide) (lw_freeze hst C hi hN hc' hs' hI hl kk)
      · exact fl_tableIn (v := 16) (off := 1027) (tgt := 1066) C0 rz dL_law_39 q (by decide) rfl (by decide) (lw_reveal hst C hi hN hc' hs' hI hl kk)
      · exact fl_tableIn (v := 17) (off := 1040) (tgt := 1079) C0 rz dL_law_39 q (by decide) rfl (by decide) (lw_board hst C hi hN hc' hs' hI hl kk)
      · exact fl_tableIn (v := 18) (off := 1136) (tgt := 1175) C0 rz dL_law_39 q (by decide) rfl (by decide) (lw_placeAnew hst C hi hN hc' hs' hI hl kk)
      · exact fl_tableIn (v := 19) (off := 1192) (tgt := 1231) C0 rz dL_law_39 q (by decide) rfl (by decide) (lw_hack hst C hi hN hc' hs' hI hl kk)
    · exact fl_tableOut (tgt := 1306) C0 rz dL_law_39 (by omega) (by decide) (back H locs ls _ _ (Nat.le_add_right _ _) (Nat.le_add_right _ _) hI hl)
end LW4
