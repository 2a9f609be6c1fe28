theorem kx_e {K K1 : KT} {a co : Nat} (h : EK K K1) (hk : K a = co) (hc : (co != 0) = true := by rfl) : K1 a = co := (h a (by rw [hk]; exact bne_iff_ne.mp hc)).trans hk
def hnm (ks : List Nat) (co : Nat) : Int := if co = 0 then 0 else (ks.idxOf co : Int) + 1
abbrev rm_L_code : Room := { frames := 8, cells := 3, slots := 18, locals := 134 }
theorem pm_L_code : plainM yL_code 4 := by decide +kernel
set_option maxRecDepth 100000 in
set_option maxHeartbeats 4000000 in
theorem d_code (l : Launch) (hst : l.stackTraces = false) (D : va_G) (cy : Nat → ClassId) (B : Nat) (L : List Nat) (K : KT) (P : PT) (J I : IT) (hWT : WT K P) (a0 : Nat) (x1 : Int) (x2 : Int) (a3 : Nat) (ka0 : K a0 = 8) (rx1 : rg x1) (rx2 : rg x2) (ka3 : K a3 = 107) {co : Nat} {r : Int} {I' : IT} (hf : f_X7_code K P I a0 x1 x2 = some (co, r, I')) (hco : co = 0 ∨ co = 1 ∨ co = 2) : Met l yL_code [.codeWith yL_code cL_code 5 (some .int) [(0, 10, 13, 13), (0, 10, 17, 15)]] rm_L_code (va_Pc [.ref a0, iv x1, iv x2, .ref a3] (FL D cy B L K P J I)) (QI D cy B L K P (if co = 0 then up J a3 0 r else J) (hnm [1, 2] co, I')) 3 18 (fun q => B ≤ q) := by
  refine fl_bodyH (own := "RejudgeHallLaw") [.ref a0, iv x1, iv x2, .ref a3] (by decide) rfl (Nat.le_of_ble_eq_true rfl) ?_
  intro p e s m args below meth c ls C0 hN hr ht hF hl
  have hl : lv_has ls 5 [(0, .ref a0), (1, iv x1), (2, iv x2), (3, .ref a3)] := hl
  refine lv_aload_n C0.1 C0.2.1 dL_code_0 rfl (lv_at hl 3 rfl) ?_
  refine fl_iconst C0 dL_code_1 ?_
  refine lv_aload_n C0.1 C0.2.1 dL_code_2 rfl (lv_at hl 0 rfl) ?_
  refine lv_iload_n C0.1 C0.2.1 dL_code_3 rfl (lv_at hl 1 rfl) ?_
  refine lv_iload_n C0.1 C0.2.1 dL_code_4 rfl (lv_at hl 2 rfl) ?_
  refine fl_xi hF (fl_runVX (As := [iv x1, iv x2]) (rest := [iv 0, .ref a3]) C0 hF hl.1 ck_8 ka0 rfl (c_X7_code l hst D cy B L K P J hWT I a0 x1 x2 ka0 rx1 rx2 hf) aw_406 aw_407 aw_408 aw_65 aw_409 rfl rfl pm_X7_code rfl rfl ⟨Nat.le_of_ble_eq_true rfl, Nat.le_of_ble_eq_true rfl⟩ rfl (Nat.le_of_ble_eq_true rfl) dL_code_5 ⟨Nat.le_of_ble_eq_true rfl, Nat.le_of_ble_eq_true rfl⟩) (fun c1 H locs hF1 rr1 => ?_) (fun c1 H locs q ce hF1 e1 e2 e3 => ?_)
  · have c1 : co = 0 := c1
    subst c1
    refine fl_i2l C0 rr1 dL_code_8 ?_
    refine fl_last (n := 1) (x := r) C0 hF1 ka3 (rgk 0 rfl) (by decide) dL_code_9 (fun H locs hF2 => ?_)
    refine fl_goto (tgt := 21) C0 dL_code_10 (by decide) ?_
    refine fl_iconst C0 dL_code_21 ?_
    exact W.widen (Nat.le_of_ble_eq_true rfl) (Nat.le_of_ble_eq_true rfl) (fl_iret C0 hF2 hr (rgk 0 rfl) rfl dL_code_22)
  · rcases hco with rfl | rfl | rfl
    · exact absurd rfl c1
    · refine fl_catch (k := 1) (pre := []) (x := ⟨0, 10, 13, 13⟩) (suf := [⟨0, 10, 17, 15⟩]) C0 hN (ht.trans rfl) (fun z hz => nomatch hz) (by decide) hd_1 e1 e2 e3 ?_
      refine lv_astore (lv' := [(4, .ref q), (0, .ref a0), (1, iv x1), (2, iv x2), (3, .ref a3)]) C0.1 C0.2.1 dL_code_13 hl (by decide) rfl (fun ls hl => ?_)
      refine fl_iconst C0 dL_code_15 ?_
      exact W.widen (Nat.le_of_ble_eq_true rfl) (Nat.le_of_ble_eq_true rfl) (fl_iret C0 hF1 hr (rgk 1 rfl) rfl dL_code_16)
    · refine fl_catch (k := 2) (pre := [⟨0, 10, 13, 13⟩]) (x := ⟨0, 10, 17, 15⟩) (suf := []) C0 hN (ht.trans rfl) (fun z hz => by rw [List.mem_singleton.mp hz]; exact ⟨1, by decide, hd_1⟩) (by decide) hd_2 e1 e2 e3 ?_
      refine lv_astore (lv' := [(4, .ref q), (0, .ref a0), (1, iv x1), (2, iv x2), (3, .ref a3)]) C0.1 C0.2.1 dL_code_17 hl (by decide) rfl (fun ls hl => ?_)
      refine fl_iconst C0 dL_code_19 ?_
      exact W.widen (Nat.le_of_ble_eq_true rfl) (Nat.le_of_ble_eq_true rfl) (fl_iret C0 hF1 hr (rgk 2 rfl) rfl dL_code_20)
abbrev rm_L_input : Room := { frames := 8, cells := 2, slots := 12, locals := 133 }
theorem pm_L_input : plainM yL_input 3 := by decide +kernel
set_option maxRecDepth 100000 in
set_option maxHeartbeats 4000000 in
theorem d_input (l : Launch) (hst : l.stackTraces = false) (D : va_G) (cy : Nat → ClassId) (B : Nat) (L : List Nat) (K : KT) (P : PT) (J I : IT) (hWT : WT K P) (a0 : Nat) (x1 : Int) (a2 : Nat) (ka0 : K a0 = 8) (rx1 : rg x1) (ka2 : K a2 = 107) {co : Nat} {r : Int} {I' : IT} (hf : f_X7_input K P I a0 x1 = some (co, r, I')) (hco : co = 0 ∨ co = 1 ∨ co = 2) : Met l yL_input [.codeWith yL_input cL_input 4 (some .int) [(0, 9, 12, 13), (0, 9, 15, 15)]] rm_L_input (va_Pc [.ref a0, iv x1, .ref a2] (FL D cy B L K P J I)) (QI D cy B L K P (if co = 0 then up J a2 0 r else J) (hnm [1, 2] co, I')) 2 12 (fun q => B ≤ q) := by
  refine fl_bodyH (own := "RejudgeHallLaw") [.ref a0, iv x1, .ref a2] (by decide) rfl (Nat.le_of_ble_eq_true rfl) ?_
  intro p e s m args below meth c ls C0 hN hr ht hF hl
  have hl : lv_has ls 4 [(0, .ref a0), (1, iv x1), (2, .ref a2)] := hl
  refine lv_aload_n C0.1 C0.2.1 dL_input_0 rfl (lv_at hl 2 rfl) ?_
  refine fl_iconst C0 dL_input_1 ?_
  refine lv_aload_n C0.1 C0.2.1 dL_input_2 rfl (lv_at hl 0 rfl) ?_
  refine lv_iload_n C0.1 C0.2.1 dL_input_3 rfl (lv_at hl 1 rfl) ?_
  refine fl_xi hF (fl_runVX (As := [iv x1]) (rest := [iv 0, .ref a2]) C0 hF hl.1 ck_8 ka0 rfl (c_X7_input l hst D cy B L K P J hWT I a0 x1 ka0 rx1 hf) aw_504 aw_505 aw_506 aw_65 aw_507 rfl rfl pm_X7_input rfl rfl ⟨Nat.le_of_ble_eq_true rfl, Nat.le_of_ble_eq_true rfl⟩ rfl (Nat.le_of_ble_eq_true rfl) dL_input_4 ⟨Nat.le_of_ble_eq_true rfl, Nat.le_of_ble_eq_true rfl⟩) (fun c1 H locs hF1 rr1 => ?_) (fun c1 H locs q ce hF1 e1 e2 e3 => ?_)
  · have c1 : co = 0 := c1
    subst c1
    refine fl_i2l C0 rr1 dL_input_7 ?_
    refine fl_last (n := 1) (x := r) C0 hF1 ka2 (rgk 0 rfl) (by decide) dL_input_8 (fun H locs hF2 => ?_)
    refine fl_goto (tgt := 18) C0 dL_input_9 (by decide) ?_
    refine fl_iconst C0 dL_input_18 ?_
    exact W.widen (Nat.le_of_ble_eq_true rfl) (Nat.le_of_ble_eq_true rfl) (fl_iret C0 hF2 hr (rgk 0 rfl) rfl dL_input_19)
  · rcases hco with rfl | rfl | rfl
    · exact absurd rfl c1
    · refine fl_catch (k := 1) (pre := []) (x := ⟨0, 9, 12, 13⟩) (suf := [⟨0, 9, 15, 15⟩]) C0 hN (ht.trans rfl) (fun z hz => nomatch hz) (by decide) hd_1 e1 e2 e3 ?_
      refine lv_astore_n (lv' := [(3, .ref q), (0, .ref a0), (1, iv x1), (2, .ref a2)]) C0.1 C0.2.1 dL_input_12 rfl hl (by decide) rfl (fun ls hl => ?_)
      refine fl_iconst C0 dL_input_13 ?_
      exact W.widen (Nat.le_of_ble_eq_true rfl) (Nat.le_of_ble_eq_true rfl) (fl_iret C0 hF1 hr (rgk 1 rfl) rfl dL_input_14)
    · refine fl_catch (k := 2) (pre := [⟨0, 9, 12, 13⟩]) (x := ⟨0, 9, 15, 15⟩) (suf := []) C0 hN (ht.trans rfl) (fun z hz => by rw [List.mem_singleton.mp hz]; exact ⟨1, by decide, hd_1⟩) (by decide) hd_2 e1 e2 e3 ?_
      refine lv_astore_n (lv' := [(3, .ref q), (0, .ref a0), (1, iv x1), (2, .ref a2)]) C0.1 C0.2.1 dL_input_15 rfl hl (by decide) rfl (fun ls hl => ?_)
      refine fl_iconst C0 dL_input_16 ?_
      exact W.widen (Nat.le_of_ble_eq_true rfl) (Nat.le_of_ble_eq_true rfl) (fl_iret C0 hF1 hr (rgk 2 rfl) rfl dL_input_17)
abbrev rm_L_run : Room := { frames := 8, cells := 2, slots := 12, locals := 135 }
theorem pm_L_run : plainM yL_run 4 := by decide +kernel
set_option maxRecDepth 100000 in
set_option maxHeartbeats 4000000 in
theorem d_run (l : Launch) (hst : l.stackTraces = false) (D : va_G) (cy : Nat → ClassId) (B : Nat) (L : List Nat) (K : KT) (P : PT) (J I : IT) (hWT : WT K P) (a0 : Nat) (x1 : Int) (x2 : Int) (a3 : Nat) (ka0 : K a0 = 8) (rx1 : rg x1) (rx2 : rg x2) (ka3 : K a3 = 107) {co : Nat} {r : Int} {I' : IT} (hf : f_X7_run K P I a0 x1 x2 = some (co, r, I')) (hco : co = 0 ∨ co = 1) : Met l yL_run [.codeWith yL_run cL_run 5 (some .int) [(0, 10, 13, 13)]] rm_L_run (va_Pc [.ref a0, iv x1, iv x2, .ref a3] (FL D cy B L K P J I)) (QI D cy B L K P (if co = 0 then up J a3 0 r else J) (hnm [1] co, I')) 2 12 (fun q => B ≤ q) := by
  refine fl_bodyH (own := "RejudgeHallLaw") [.ref a0, iv x1, iv x2, .ref a3] (by decide) rfl (Nat.le_of_ble_eq_true rfl) ?_
  intro p e s m args below meth c ls C0 hN hr ht hF hl
  have hl : lv_has ls 5 [(0, .ref a0), (1, iv x1), (2, iv x2), (3, .ref a3)] := hl
  refine lv_aload_n C0.1 C0.2.1 dL_run_0 rfl (lv_at hl 3 rfl) ?_
  refine fl_iconst C0 dL_run_1 ?_
  refine lv_aload_n C0.1 C0.2.1 dL_run_2 rfl (lv_at hl 0 rfl) ?_
  refine lv_iload_n C0.1 C0.2.1 dL_run_3 rfl (lv_at hl 1 rfl) ?_
  refine lv_iload_n C0.1 C0.2.1 dL_run_4 rfl (lv_at hl 2 rfl) ?_
  refine fl_xi hF (fl_runVX (As := [iv x1, iv x2]) (rest := [iv 0, .ref a3]) C0 hF hl.1 ck_8 ka0 rfl (c_X7_run l hst D cy B L K P J hWT I a0 x1 x2 ka0 rx1 rx2 hf) aw_513 aw_514 aw_515 aw_65 aw_516 rfl rfl pm_X7_run rfl rfl ⟨Nat.le_of_ble_eq_true rfl, Nat.le_of_ble_eq_true rfl⟩ rfl (Nat.le_of_ble_eq_true rfl) dL_run_5 ⟨Nat.le_of_ble_eq_true rfl, Nat.le_of_ble_eq_true rfl⟩) (fun c1 H locs hF1 rr1 => ?_) (fun c1 H locs q ce hF1 e1 e2 e3 => ?_)
  · have c1 : co = 0 := c1
    subst c1
    refine fl_i2l C0 rr1 dL_run_8 ?_
    refine fl_last (n := 1) (x := r) C0 hF1 ka3 (rgk 0 rfl) (by decide) dL_run_9 (fun H locs hF2 => ?_)
    refine fl_goto (tgt := 17) C0 dL_run_10 (by decide) ?_
    refine fl_iconst C0 dL_run_17 ?_
    exact W.widen (Nat.le_of_ble_eq_true rfl) (Nat.le_of_ble_eq_true rfl) (fl_iret C0 hF2 hr (rgk 0 rfl) rfl dL_run_18)
  · rcases hco with rfl | rfl
    · exact absurd rfl c1
    · refine fl_catch (k := 1) (pre := []) (x := ⟨0, 10, 13, 13⟩) (suf := []) C0 hN (ht.trans rfl) (fun z hz => nomatch hz) (by decide) hd_1 e1 e2 e3 ?_
      refine lv_astore (lv' := [(4, .ref q), (0, .ref a0), (1, iv x1), (2, iv x2), (3, .ref a3)]) C0.1 C0.2.1 dL_run_13 hl (by decide) rfl (fun ls hl => ?_)
      refine fl_iconst C0 dL_run_15 ?_
      exact W.widen (Nat.le_of_ble_eq_true rfl) (Nat.le_of_ble_eq_true rfl) (fl_iret C0 hF1 hr (rgk 1 rfl) rfl dL_run_16)
abbrev rm_L_problem : Room := { frames := 8, cells := 9, slots := 2061, locals := 224 }
theorem pm_L_problem : plainM yL_problem 4 := by decide +kernel
set_option maxRecDepth 100000 in
set_option maxHeartbeats 4000000 in
theorem d_problem (l : Launch) (hst : l.stackTraces = false) (D : va_G) (cy : Nat → ClassId) (B : Nat) (L : List Nat) (K : KT) (P : PT) (J I : IT) (hWT : WT K P) (a0 : Nat) (x1 : Int) (x2 : Int) (a3 : Nat) (ka0 : K a0 = 8) (rx1 : rg x1) (rx2 : rg x2) (ka3 : K a3 = 107) (post : Nat → Int → PO) (hf : w_X7_problem L K P I a0 x1 x2 post) (hpo : ∀ co r L1 K1 P1 I1, post co r L1 K1 P1 I1 → co = 0 ∨ co = 1 ∨ co = 2) : Met l yL_problem [.codeWith yL_problem cL_problem 5 (some .int) [(0, 10, 13, 13), (0, 10, 17, 15)]] rm_L_problem (va_Pc [.ref a0, iv x1, iv x2, .ref a3] (FL D cy B L K P J I)) (ALm D cy B K (hnm [1, 2]) (fun co r => if co = 0 then up J a3 0 r else J) post) 9 2061 (fun q => B ≤ q) := by
  refine fl_bodyH (own := "RejudgeHallLaw") [.ref a0, iv x1, iv x2, .ref a3] (by decide) rfl (Nat.le_of_ble_eq_true rfl) ?_
  intro p e s m args below meth c ls C0 hN hr ht hF hl
  have hl : lv_has ls 5 [(0, .ref a0), (1, iv x1), (2, iv x2), (3, .ref a3)] := hl
  refine lv_aload_n C0.1 C0.2.1 dL_problem_0 rfl (lv_at hl 3 rfl) ?_
  refine fl_iconst C0 dL_problem_1 ?_
  refine lv_aload_n C0.1 C0.2.1 dL_problem_2 rfl (lv_at hl 0 rfl) ?_
  refine lv_iload_n C0.1 C0.2.1 dL_problem_3 rfl (lv_at hl 1 rfl) ?_
  refine lv_iload_n C0.1 C0.2.1 dL_problem_4 rfl (lv_at hl 2 rfl) ?_
  refine fl_xim hF (fl_runVX (As := [iv x1, iv x2]) (rest := [iv 0, .ref a3]) C0 hF hl.1 ck_8 ka0 rfl (a_X7_problem l hst D cy B L K P J I hWT a0 x1 x2 ka0 rx1 rx2 post hf) aw_521 aw_522 aw_523 aw_65 aw_524 rfl rfl pm_X7_problem rfl rfl ⟨Nat.le_of_ble_eq_true rfl, Nat.le_of_ble_eq_true rfl⟩ rfl (Nat.le_of_ble_eq_true rfl) dL_problem_5 ⟨Nat.le_of_ble_eq_true rfl, Nat.le_of_ble_eq_true rfl⟩) (fun r L K1 P1 I1 H locs hF1 rr1 hp1 hW1 hE1 => ?_) (fun co L1 K1 P1 I1 H locs q ce c1 hF1 hp1 hW1 hE1 e1 e2 e3 => ?_)
  · have ka9 : K1 a3 = 107 := kx_e hE1 ka3
    refine fl_i2l C0 rr1 dL_problem_8 ?_
    refine fl_last (n := 1) (x := r) C0 hF1 ka9 (rgk 0 rfl) (by decide) dL_problem_9 (fun H locs hF2 => ?_)
    refine fl_goto (tgt := 21) C0 dL_problem_10 (by decide) ?_
    refine fl_iconst C0 dL_problem_21 ?_
    exact fl_iretL (co := 0) (r := r) C0 hF2 hr rfl rfl (rgk 0 rfl) rr1 hp1 hW1 hE1 dL_problem_22 (Nat.le_of_ble_eq_true rfl) (Nat.le_of_ble_eq_true rfl)
  · rcases hpo _ _ _ _ _ _ hp1 with rfl | rfl | rfl
    · exact absurd rfl c1
    · refine fl_catch (k := 1) (pre := []) (x := ⟨0, 10, 13, 13⟩) (suf := [⟨0, 10, 17, 15⟩]) C0 hN (ht.trans rfl) (fun z hz => nomatch hz) (by decide) hd_1 e1 e2 e3 ?_
      refine lv_astore (lv' := [(4, .ref q), (0, .ref a0), (1, iv x1), (2, iv x2), (3, .ref a3)]) C0.1 C0.2.1 dL_problem_13 hl (by decide) rfl (fun ls hl => ?_)
      refine fl_iconst C0 dL_problem_15 ?_
      exact fl_iretL (co := 1) (r := 0) C0 hF1 hr rfl rfl (rgk 1 rfl) (rgk 0 rfl) hp1 hW1 hE1 dL_problem_16 (Nat.le_of_ble_eq_true rfl) (Nat.le_of_ble_eq_true rfl)
    · refine fl_catch (k := 2) (pre := [⟨0, 10, 13, 13⟩]) (x := ⟨0, 10, 17, 15⟩) (suf := []) C0 hN (ht.trans rfl) (fun z hz => by rw [List.mem_singleton.mp hz]; exact ⟨1, by decide, hd_1⟩) (by decide) hd_2 e1 e2 e3 ?_
      refine lv_astore (lv' := [(4, .ref q), (0, .ref a0), (1, iv x1), (2, iv x2), (3, .ref a3)]) C0.1 C0.2.1 dL_problem_17 hl (by decide) rfl (fun ls hl => ?_)
      refine fl_iconst C0 dL_problem_19 ?_
      exact fl_iretL (co := 2) (r := 0) C0 hF1 hr rfl rfl (rgk 2 rfl) (rgk 0 rfl) hp1 hW1 hE1 dL_problem_20 (Nat.le_of_ble_eq_true rfl) (Nat.le_of_ble_eq_true rfl)
abbrev rm_L_test : Room := { frames := 9, cells := 8, slots := 2035, locals := 245 }
theorem pm_L_test : plainM yL_test 4 := by decide +kernel
set_option maxRecDepth 100000 in
set_option maxHeartbeats 4000000 in
theorem d_test (l : Launch) (hst : l.stackTraces = false) (D : va_G) (cy : Nat → ClassId) (B : Nat) (L : List Nat) (K : KT) (P : PT) (J I : IT) (hWT : WT K P) (a0 : Nat) (x1 : Int) (x2 : Int) (a3 : Nat) (ka0 : K a0 = 8) (rx1 : rg x1) (rx2 : rg x2) (ka3 : K a3 = 107) (post : Nat → Int → PO) (hf : w_X7_test L K P I a0 x1 x2 post) (hpo : ∀ co r L1 K1 P1 I1, post co r L1 K1 P1 I1 → co = 0 ∨ co = 3 ∨ co = 2) : Met l yL_test [.codeWith yL_test cL_test 5 (some .int) [(0, 10, 13, 30), (0, 10, 17, 15)]] rm_L_test (va_Pc [.ref a0, iv x1, iv x2, .ref a3] (FL D cy B L K P J I)) (ALm D cy B K (hnm [3, 2]) (fun co r => if co = 0 then up J a3 0 r else J) post) 8 2035 (fun q => B ≤ q) := by
  refine fl_bodyH (own := "RejudgeHallLaw") [.ref a0, iv x1, iv x2, .ref a3] (by decide) rfl (Nat.le_of_ble_eq_true rfl) ?_
  intro p e s m args below meth c ls C0 hN hr ht hF hl
  have hl : lv_has ls 5 [(0, .ref a0), (1, iv x1), (2, iv x2), (3, .ref a3)] := hl
  refine lv_aload_n C0.1 C0.2.1 dL_test_0 rfl (lv_at hl 3 rfl) ?_
  refine fl_iconst C0 dL_test_1 ?_
  refine lv_aload_n C0.1 C0.2.1 dL_test_2 rfl (lv_at hl 0 rfl) ?_
  refine lv_iload_n C0.1 C0.2.1 dL_test_3 rfl (lv_at hl 1 rfl) ?_
  refine lv_iload_n C0.1 C0.2.1 dL_test_4 rfl (lv_at hl 2 rfl) ?_
  refine fl_xim hF (fl_runVX (As := [iv x1, iv x2]) (rest := [iv 0, .ref a3]) C0 hF hl.1 ck_8 ka0 rfl (a_X7_test l hst D cy B L K P J I hWT a0 x1 x2 ka0 rx1 rx2 post hf) aw_631 aw_632 aw_633 aw_65 aw_634 rfl rfl pm_X7_test rfl rfl ⟨Nat.le_of_ble_eq_true rfl, Nat.le_of_ble_eq_true rfl⟩ rfl (Nat.le_of_ble_eq_true rfl) dL_test_5 ⟨Nat.le_of_ble_eq_true rfl, Nat.le_of_ble_eq_true rfl⟩) (fun r L K1 P1 I1 H locs hF1 rr1 hp1 hW1 hE1 => ?_) (fun co L1 K1 P1 I1 H locs q ce c1 hF1 hp1 hW1 hE1 e1 e2 e3 => ?_)
  · have ka9 : K1 a3 = 107 := kx_e hE1 ka3
    refine fl_i2l C0 rr1 dL_test_8 ?_
    refine fl_last (n := 1) (x := r) C0 hF1 ka9 (rgk 0 rfl) (by decide) dL_test_9 (fun H locs hF2 => ?_)
    refine fl_goto (tgt := 21) C0 dL_test_10 (by decide) ?_
    refine fl_iconst C0 dL_test_21 ?_
    exact fl_iretL (co := 0) (r := r) C0 hF2 hr rfl rfl (rgk 0 rfl) rr1 hp1 hW1 hE1 dL_test_22 (Nat.le_of_ble_eq_true rfl) (Nat.le_of_ble_eq_true rfl)
  · rcases hpo _ _ _ _ _ _ hp1 with rfl | rfl | rfl
    · exact absurd rfl c1
    · refine fl_catch (k := 3) (pre := []) (x := ⟨0, 10, 13, 30⟩) (suf := [⟨0, 10, 17, 15⟩]) C0 hN (ht.trans rfl) (fun z hz => nomatch hz) (by decide) hd_3 e1 e2 e3 ?_
      refine lv_astore (lv' := [(4, .ref q), (0, .ref a0), (1, iv x1), (2, iv x2), (3, .ref a3)]) C0.1 C0.2.1 dL_test_13 hl (by decide) rfl (fun ls hl => ?_)
      refine fl_iconst C0 dL_test_15 ?_
      exact fl_iretL (co := 3) (r := 0) C0 hF1 hr rfl rfl (rgk 1 rfl) (rgk 0 rfl) hp1 hW1 hE1 dL_test_16 (Nat.le_of_ble_eq_true rfl) (Nat.le_of_ble_eq_true rfl)
    · refine fl_catch (k := 2) (pre := [⟨0, 10, 13, 30⟩]) (x := ⟨0, 10, 17, 15⟩) (suf := []) C0 hN (ht.trans rfl) (fun z hz => by rw [List.mem_singleton.mp hz]; exact ⟨3, by decide, hd_3⟩) (by decide) hd_2 e1 e2 e3 ?_
      refine lv_astore (lv' := [(4, .ref q), (0, .ref a0), (1, iv x1), (2, iv x2), (3, .ref a3)]) C0.1 C0.2.1 dL_test_17 hl (by decide) rfl (fun ls hl => ?_)
      refine fl_iconst C0 dL_test_19 ?_
      exact fl_iretL (co := 2) (r := 0) C0 hF1 hr rfl rfl (rgk 2 rfl) (rgk 0 rfl) hp1 hW1 hE1 dL_test_20 (Nat.le_of_ble_eq_true rfl) (Nat.le_of_ble_eq_true rfl)
abbrev rm_L_points : Room := { frames := 9, cells := 3, slots := 18, locals := 157 }
theorem pm_L_points : plainM yL_points 5 := by decide +kernel
set_option maxRecDepth 100000 in
set_option maxHeartbeats 4000000 in
theorem d_points (l : Launch) (hst : l.stackTraces = false) (D : va_G) (cy : Nat → ClassId) (B : Nat) (L : List Nat) (K : KT) (P : PT) (J I : IT) (hWT : WT K P) (a0 : Nat) (x1 : Int) (x2 : Int) (x3 : Int) (a4 : Nat) (ka0 : K a0 = 8) (rx1 : rg x1) (rx2 : rg x2) (rx3 : rg x3) (ka4 : K a4 = 107) {co : Nat} {r : Int} {I' : IT} (hf : f_X7_points K P I a0 x1 x2 x3 = some (co, r, I')) (hco : co = 0 ∨ co = 3 ∨ co = 1) : Met l yL_points [.codeWith yL_points cL_points 6 (some .int) [(0, 12, 15, 30), (0, 12, 19, 13)]] rm_L_points (va_Pc [.ref a0, iv x1, iv x2, iv x3, .ref a4] (FL D cy B L K P J I)) (QI D cy B L K P (if co = 0 then up J a4 0 r else J) (hnm [3, 1] co, I')) 3 18 (fun q => B ≤ q) := by
  refine fl_bodyH (own := "RejudgeHallLaw") [.ref a0, iv x1, iv x2, iv x3, .ref a4] (by decide) rfl (Nat.le_of_ble_eq_true rfl) ?_
  intro p e s m args below meth c ls C0 hN hr ht hF hl
  have hl : lv_has ls 6 [(0, .ref a0), (1, iv x1), (2, iv x2), (3, iv x3), (4, .ref a4)] := hl
  refine lv_aload C0.1 C0.2.1 dL_points_0 (lv_at hl 4 rfl) ?_
  refine fl_iconst C0 dL_points_2 ?_
  refine lv_aload_n C0.1 C0.2.1 dL_points_3 rfl (lv_at hl 0 rfl) ?_
  refine lv_iload_n C0.1 C0.2.1 dL_points_4 rfl (lv_at hl 1 rfl) ?_
  refine lv_iload_n C0.1 C0.2.1 dL_points_5 rfl (lv_at hl 2 rfl) ?_
  refine lv_iload_n C0.1 C0.2.1 dL_points_6 rfl (lv_at hl 3 rfl) ?_
  refine fl_xi hF (fl_runVX (As := [iv x1, iv x2, iv x3]) (rest := [iv 0, .ref a4]) C0 hF hl.1 ck_8 ka0 rfl (c_X7_points l hst D cy B L K P J hWT I a0 x1 x2 x3 ka0 rx1 rx2 rx3 hf) aw_697 aw_698 aw_699 aw_65 aw_700 rfl rfl pm_X7_points rfl rfl ⟨Nat.le_of_ble_eq_true rfl, Nat.le_of_ble_eq_true rfl⟩ rfl (Nat.le_of_ble_eq_true rfl) dL_points_7 ⟨Nat.le_of_ble_eq_true rfl, Nat.le_of_ble_eq_true rfl⟩) (fun c1 H locs hF1 rr1 => ?_) (fun c1 H locs q ce hF1 e1 e2 e3 => ?_)
  · have c1 : co = 0 := c1
    subst c1
    refine fl_i2l C0 rr1 dL_points_10 ?_
    refine fl_last (n := 1) (x := r) C0 hF1 ka4 (rgk 0 rfl) (by decide) dL_points_11 (fun H locs hF2 => ?_)
    refine fl_goto (tgt := 23) C0 dL_points_12 (by decide) ?_
    refine fl_iconst C0 dL_points_23 ?_
    exact W.widen (Nat.le_of_ble_eq_true rfl) (Nat.le_of_ble_eq_true rfl) (fl_iret C0 hF2 hr (rgk 0 rfl) rfl dL_points_24)
  · rcases hco with rfl | rfl | rfl
    · exact absurd rfl c1
    · refine fl_catch (k := 3) (pre := []) (x := ⟨0, 12, 15, 30⟩) (suf := [⟨0, 12, 19, 13⟩]) C0 hN (ht.trans rfl) (fun z hz => nomatch hz) (by decide) hd_3 e1 e2 e3 ?_
      refine lv_astore (lv' := [(5, .ref q), (0, .ref a0), (1, iv x1), (2, iv x2), (3, iv x3), (4, .ref a4)]) C0.1 C0.2.1 dL_points_15 hl (by decide) rfl (fun ls hl => ?_)
      refine fl_iconst C0 dL_points_17 ?_
      exact W.widen (Nat.le_of_ble_eq_true rfl) (Nat.le_of_ble_eq_true rfl) (fl_iret C0 hF1 hr (rgk 1 rfl) rfl dL_points_18)
    · refine fl_catch (k := 1) (pre := [⟨0, 12, 15, 30⟩]) (x := ⟨0, 12, 19, 13⟩) (suf := []) C0 hN (ht.trans rfl) (fun z hz => by rw [List.mem_singleton.mp hz]; exact ⟨3, by decide, hd_3⟩) (by decide) hd_1 e1 e2 e3 ?_
      refine lv_astore (lv' := [(5, .ref q), (0, .ref a0), (1, iv x1), (2, iv x2), (3, iv x3), (4, .ref a4)]) C0.1 C0.2.1 dL_points_19 hl (by decide) rfl (fun ls hl => ?_)
      refine fl_iconst C0 dL_points_21 ?_
      exact W.widen (Nat.le_of_ble_eq_true rfl) (Nat.le_of_ble_eq_true rfl) (fl_iret C0 hF1 hr (rgk 2 rfl) rfl dL_points_22)
abbrev rm_L_mend : Room := { frames := 9, cells := 3, slots := 18, locals := 164 }
theorem pm_L_mend : plainM yL_mend 4 := by decide +kernel
set_option maxRecDepth 100000 in
set_option maxHeartbeats 4000000 in
theorem d_mend (l : Launch) (hst : l.stackTraces = false) (D : va_G) (cy : Nat → ClassId) (B : Nat) (L : List Nat) (K : KT) (P : PT) (J I : IT) (hWT : WT K P) (a0 : Nat) (x1 : Int) (x2 : Int) (a3 : Nat) (ka0 : K a0 = 8) (rx1 : rg x1) (rx2 : rg x2) (ka3 : K a3 = 107) {co : Nat} {r : Int} {I' : IT} (hf : f_X7_mend K P I a0 x1 x2 = some (co, r, I')) (hco : co = 0 ∨ co = 3 ∨ co = 1 ∨ co = 2) : Met l yL_mend [.codeWith yL_mend cL_mend 5 (some .int) [(0, 10, 13, 30), (0, 10, 17, 13), (0, 10, 21, 15)]] rm_L_mend (va_Pc [.ref a0, iv x1, iv x2, .ref a3] (FL D cy B L K P J I)) (QI D cy B L K P (if co = 0 then up J a3 0 r else J) (hnm [3, 1, 2] co, I')) 3 18 (fun q => B ≤ q) := by
  refine fl_bodyH (own := "RejudgeHallLaw") [.ref a0, iv x1, iv x2, .ref a3] (by decide) rfl (Nat.le_of_ble_eq_true rfl) ?_
  intro p e s m args below meth c ls C0 hN hr ht hF hl
  have hl : lv_has ls 5 [(0, .ref a0), (1, iv x1), (2, iv x2), (3, .ref a3)] := hl
  refine lv_aload_n C0.1 C0.2.1 dL_mend_0 rfl (lv_at hl 3 rfl) ?_
  refine fl_iconst C0 dL_mend_1 ?_
  refine lv_aload_n C0.1 C0.2.1 dL_mend_2 rfl (lv_at hl 0 rfl) ?_
  refine lv_iload_n C0.1 C0.2.1 dL_mend_3 rfl (lv_at hl 1 rfl) ?_
  refine lv_iload_n C0.1 C0.2.1 dL_mend_4 rfl (lv_at hl 2 rfl) ?_
  refine fl_xi hF (fl_runVX (As := [iv x1, iv x2]) (rest := [iv 0, .ref a3]) C0 hF hl.1 ck_8 ka0 rfl (c_X7_mend l hst D cy B L K P J hWT I a0 x1 x2 ka0 rx1 rx2 hf) aw_704 aw_705 aw_706 aw_65 aw_707 rfl rfl pm_X7_mend rfl rfl ⟨Nat.le_of_ble_eq_true rfl, Nat.le_of_ble_eq_true rfl⟩ rfl (Nat.le_of_ble_eq_true rfl) dL_mend_5 ⟨Nat.le_of_ble_eq_true rfl, Nat.le_of_ble_eq_true rfl⟩) (fun c1 H locs hF1 rr1 => ?_) (fun c1 H locs q ce hF1 e1 e2 e3 => ?_)
  · have c1 : co = 0 := c1
    subst c1
    refine fl_i2l C0 rr1 dL_mend_8 ?_
    refine fl_last (n := 1) (x := r) C0 hF1 ka3 (rgk 0 rfl) (by decide) dL_mend_9 (fun H locs hF2 => ?_)
    refine fl_goto (tgt := 25) C0 dL_mend_10 (by decide) ?_
    refine fl_iconst C0 dL_mend_25 ?_
    exact W.widen (Nat.le_of_ble_eq_true rfl) (Nat.le_of_ble_eq_true rfl) (fl_iret C0 hF2 hr (rgk 0 rfl) rfl dL_mend_26)
  · rcases hco with rfl | rfl | rfl | rfl
    · exact absurd rfl c1
    · refine fl_catch (k := 3) (pre := []) (x := ⟨0, 10, 13, 30⟩) (suf := [⟨0, 10, 17, 13⟩, ⟨0, 10, 21, 15⟩]) C0 hN (ht.trans rfl) (fun z hz => nomatch hz) (by decide) hd_3 e1 e2 e3 ?_
      refine lv_astore (lv' := [(4, .ref q), (0, .ref a0), (1, iv x1), (2, iv x2), (3, .ref a3)]) C0.1 C0.2.1 dL_mend_13 hl (by decide) rfl (fun ls hl => ?_)
      refine fl_iconst C0 dL_mend_15 ?_
      exact W.widen (Nat.le_of_ble_eq_true rfl) (Nat.le_of_ble_eq_true rfl) (fl_iret C0 hF1 hr (rgk 1 rfl) rfl dL_mend_16)
    · refine fl_catch (k := 1) (pre := [⟨0, 10, 13, 30⟩]) (x := ⟨0, 10, 17, 13⟩) (suf := [⟨0, 10, 21, 15⟩]) C0 hN (ht.trans rfl) (fun z hz => by rw [List.mem_singleton.mp hz]; exact ⟨3, by decide, hd_3⟩) (by decide) hd_1 e1 e2 e3 ?_
      refine lv_astore (lv' := [(4, .ref q), (0, .ref a0), (1, iv x1), (2, iv x2), (3, .ref a3)]) C0.1 C0.2.1 dL_mend_17 hl (by decide) rfl (fun ls hl => ?_)
      refine fl_iconst C0 dL_mend_19 ?_
      exact W.widen (Nat.le_of_ble_eq_true rfl) (Nat.le_of_ble_eq_true rfl) (fl_iret C0 hF1 hr (rgk 2 rfl) rfl dL_mend_20)
    · refine fl_catch (k := 2) (pre := [⟨0, 10, 13, 30⟩, ⟨0, 10, 17, 13⟩]) (x := ⟨0, 10, 21, 15⟩) (suf := []) C0 hN (ht.trans rfl) (fun z hz => by rcases List.mem_cons.mp hz with h | h; (· rw [h]; exact ⟨3, by decide, hd_3⟩); (· rw [List.mem_singleton.mp h]; exact ⟨1, by decide, hd_1⟩)) (by decide) hd_2 e1 e2 e3 ?_
      refine lv_astore (lv' := [(4, .ref q), (0, .ref a0), (1, iv x1), (2, iv x2), (3, .ref a3)]) C0.1 C0.2.1 dL_mend_21 hl (by decide) rfl (fun ls hl => ?_)
      refine fl_iconst C0 dL_mend_23 ?_
      exact W.widen (Nat.le_of_ble_eq_true rfl) (Nat.le_of_ble_eq_true rfl) (fl_iret C0 hF1 hr (rgk 3 rfl) rfl dL_mend_24)
abbrev rm_L_answer : Room := { frames := 9, cells := 3, slots := 18, locals := 156 }
theorem pm_L_answer : plainM yL_answer 5 := by decide +kernel
set_option maxRecDepth 100000 in
set_option maxHeartbeats 4000000 in
theorem d_answer (l : Launch) (hst : l.stackTraces = false) (D : va_G) (cy : Nat → ClassId) (B : Nat) (L : List Nat) (K : KT) (P : PT) (J I : IT) (hWT : WT K P) (a0 : Nat) (x1 : Int) (x2 : Int) (x3 : Int) (a4 : Nat) (ka0 : K a0 = 8) (rx1 : rg x1) (rx2 : rg x2) (rx3 : rg x3) (ka4 : K a4 = 107) {co : Nat} {r : Int} {I' : IT} (hf : f_X7_answer K P I a0 x1 x2 x3 = some (co, r, I')) (hco : co = 0 ∨ co = 3) : Met l yL_answer [.codeWith yL_answer cL_answer 6 (some .int) [(0, 12, 15, 30)]] rm_L_answer (va_Pc [.ref a0, iv x1, iv x2, iv x3, .ref a4] (FL D cy B L K P J I)) (QI D cy B L K P (if co = 0 then up J a4 0 r else J) (hnm [3] co, I')) 3 18 (fun q => B ≤ q) := by
  refine fl_bodyH (own := "RejudgeHallLaw") [.ref a0, iv x1, iv x2, iv x3, .ref a4] (by decide) rfl (Nat.le_of_ble_eq_true rfl) ?_
  intro p e s m args below meth c ls C0 hN hr ht hF hl
  have hl : lv_has ls 6 [(0, .ref a0), (1, iv x1), (2, iv x2), (3, iv x3), (4, .ref a4)] := hl
  refine lv_aload C0.1 C0.2.1 dL_answer_0 (lv_at hl 4 rfl) ?_
  refine fl_iconst C0 dL_answer_2 ?_
  refine lv_aload_n C0.1 C0.2.1 dL_answer_3 rfl (lv_at hl 0 rfl) ?_
  refine lv_iload_n C0.1 C0.2.1 dL_answer_4 rfl (lv_at hl 1 rfl) ?_
  refine lv_iload_n C0.1 C0.2.1 dL_answer_5 rfl (lv_at hl 2 rfl) ?_
  refine lv_iload_n C0.1 C0.2.1 dL_answer_6 rfl (lv_at hl 3 rfl) ?_
  refine fl_xi hF (fl_runVX (As := [iv x1, iv x2, iv x3]) (rest := [iv 0, .ref a4]) C0 hF hl.1 ck_8 ka0 rfl (c_X7_answer l hst D cy B L K P J hWT I a0 x1 x2 x3 ka0 rx1 rx2 rx3 hf) aw_721 aw_722 aw_723 aw_65 aw_724 rfl rfl pm_X7_answer rfl rfl ⟨Nat.le_of_ble_eq_true rfl, Nat.le_of_ble_eq_true rfl⟩ rfl (Nat.le_of_ble_eq_true rfl) dL_answer_7 ⟨Nat.le_of_ble_eq_true rfl, Nat.le_of_ble_eq_true rfl⟩) (fun c1 H locs hF1 rr1 => ?_) (fun c1 H locs q ce hF1 e1 e2 e3 => ?_)
  · have c1 : co = 0 := c1
    subst c1
    refine fl_i2l C0 rr1 dL_answer_10 ?_
    refine fl_last (n := 1) (x := r) C0 hF1 ka4 (rgk 0 rfl) (by decide) dL_answer_11 (fun H locs hF2 => ?_)
    refine fl_goto (tgt := 19) C0 dL_answer_12 (by decide) ?_
    refine fl_iconst C0 dL_answer_19 ?_
    exact W.widen (Nat.le_of_ble_eq_true rfl) (Nat.le_of_ble_eq_true rfl) (fl_iret C0 hF2 hr (rgk 0 rfl) rfl dL_answer_20)
  · rcases hco with rfl | rfl
    · exact absurd rfl c1
    · refine fl_catch (k := 3) (pre := []) (x := ⟨0, 12, 15, 30⟩) (suf := []) C0 hN (ht.trans rfl) (fun z hz => nomatch hz) (by decide) hd_3 e1 e2 e3 ?_
      refine lv_astore (lv' := [(5, .ref q), (0, .ref a0), (1, iv x1), (2, iv x2), (3, iv x3), (4, .ref a4)]) C0.1 C0.2.1 dL_answer_15 hl (by decide) rfl (fun ls hl => ?_)
      refine fl_iconst C0 dL_answer_17 ?_
      exact W.widen (Nat.le_of_ble_eq_true rfl) (Nat.le_of_ble_eq_true rfl) (fl_iret C0 hF1 hr (rgk 1 rfl) rfl dL_answer_18)
abbrev rm_L_enter : Room := { frames := 9, cells := 7, slots := 2055, locals := 225 }
theorem pm_L_enter : plainM yL_enter 4 := by decide +kernel
set_option maxRecDepth 100000 in
set_option maxHeartbeats 4000000 in
theorem d_enter (l : Launch) (hst : l.stackTraces = false) (D : va_G) (cy : Nat → ClassId) (B : Nat) (L : List Nat) (K : KT) (P : PT) (J I : IT) (hWT : WT K P) (a0 : Nat) (x1 : Int) (x2 : Int) (a3 : Nat) (ka0 : K a0 = 8) (rx1 : rg x1) (rx2 : rg x2) (ka3 : K a3 = 107) (post : Nat → Int → PO) (hf : w_X7_enter L K P I a0 x1 x2 post) (hpo : ∀ co r L1 K1 P1 I1, post co r L1 K1 P1 I1 → co = 0 ∨ co = 3 ∨ co = 2) : Met l yL_enter [.codeWith yL_enter cL_enter 5 (some .int) [(0, 10, 13, 30), (0, 10, 17, 15)]] rm_L_enter (va_Pc [.ref a0, iv x1, iv x2, .ref a3] (FL D cy B L K P J I)) (ALm D cy B K (hnm [3, 2]) (fun co r => if co = 0 then up J a3 0 r else J) post) 7 2055 (fun q => B ≤ q) := by
  refine fl_bodyH (own := "RejudgeHallLaw") [.ref a0, iv x1, iv x2, .ref a3] (by decide) rfl (Nat.le_of_ble_eq_true rfl) ?_
  intro p e s m args below meth c ls C0 hN hr ht hF hl
  have hl : lv_has ls 5 [(0, .ref a0), (1, iv x1), (2, iv x2), (3, .ref a3)] := hl
  refine lv_aload_n C0.1 C0.2.1 dL_enter_0 rfl (lv_at hl 3 rfl) ?_
  refine fl_iconst C0 dL_enter_1 ?_
  refine lv_aload_n C0.1 C0.2.1 dL_enter_2 rfl (lv_at hl 0 rfl) ?_
  refine lv_iload_n C0.1 C0.2.1 dL_enter_3 rfl (lv_at hl 1 rfl) ?_
  refine lv_iload_n C0.1 C0.2.1 dL_enter_4 rfl (lv_at hl 2 rfl) ?_
  refine fl_xim hF (fl_runVX (As := [iv x1, iv x2]) (rest := [iv 0, .ref a3]) C0 hF hl.1 ck_8 ka0 rfl (a_X7_enter l hst D cy B L K P J I hWT a0 x1 x2 ka0 rx1 rx2 post hf) aw_729 aw_730 aw_731 aw_65 aw_732 rfl rfl pm_X7_enter rfl rfl ⟨Nat.le_of_ble_eq_true rfl, Nat.le_of_ble_eq_true rfl⟩ rfl (Nat.le_of_ble_eq_true rfl) dL_enter_5 ⟨Nat.le_of_ble_eq_true rfl, Nat.le_of_ble_eq_true rfl⟩) (fun r L K1 P1 I1 H locs hF1 rr1 hp1 hW1 hE1 => ?_) (fun co L1 K1 P1 I1 H locs q ce c1 hF1 hp1 hW1 hE1 e1 e2 e3 => ?_)
  · have ka9 : K1 a3 = 107 := kx_e hE1 ka3
    refine fl_i2l C0 rr1 dL_enter_8 ?_
    refine fl_last (n := 1) (x := r) C0 hF1 ka9 (rgk 0 rfl) (by decide) dL_enter_9 (fun H locs hF2 => ?_)
    refine fl_goto (tgt := 21) C0 dL_enter_10 (by decide) ?_
    refine fl_iconst C0 dL_enter_21 ?_
    exact fl_iretL (co := 0) (r := r) C0 hF2 hr rfl rfl (rgk 0 rfl) rr1 hp1 hW1 hE1 dL_enter_22 (Nat.le_of_ble_eq_true rfl) (Nat.le_of_ble_eq_true rfl)
  · rcases hpo _ _ _ _ _ _ hp1 with rfl | rfl | rfl
    · exact absurd rfl c1
    · refine fl_catch (k := 3) (pre := []) (x := ⟨0, 10, 13, 30⟩) (suf := [⟨0, 10, 17, 15⟩]) C0 hN (ht.trans rfl) (fun z hz => nomatch hz) (by decide) hd_3 e1 e2 e3 ?_
      refine lv_astore (lv' := [(4, .ref q), (0, .ref a0), (1, iv x1), (2, iv x2), (3, .ref a3)]) C0.1 C0.2.1 dL_enter_13 hl (by decide) rfl (fun ls hl => ?_)
      refine fl_iconst C0 dL_enter_15 ?_
      exact fl_iretL (co := 3) (r := 0) C0 hF1 hr rfl rfl (rgk 1 rfl) (rgk 0 rfl) hp1 hW1 hE1 dL_enter_16 (Nat.le_of_ble_eq_true rfl) (Nat.le_of_ble_eq_true rfl)
    · refine fl_catch (k := 2) (pre := [⟨0, 10, 13, 30⟩]) (x := ⟨0, 10, 17, 15⟩) (suf := []) C0 hN (ht.trans rfl) (fun z hz => by rw [List.mem_singleton.mp hz]; exact ⟨3, by decide, hd_3⟩) (by decide) hd_2 e1 e2 e3 ?_
      refine lv_astore (lv' := [(4, .ref q), (0, .ref a0), (1, iv x1), (2, iv x2), (3, .ref a3)]) C0.1 C0.2.1 dL_enter_17 hl (by decide) rfl (fun ls hl => ?_)
      refine fl_iconst C0 dL_enter_19 ?_
      exact fl_iretL (co := 2) (r := 0) C0 hF1 hr rfl rfl (rgk 2 rfl) (rgk 0 rfl) hp1 hW1 hE1 dL_enter_20 (Nat.le_of_ble_eq_true rfl) (Nat.le_of_ble_eq_true rfl)
abbrev rm_L_pass : Room := { frames := 8, cells := 2, slots := 12, locals := 133 }
theorem pm_L_pass : plainM yL_pass 3 := by decide +kernel
set_option maxRecDepth 100000 in
set_option maxHeartbeats 4000000 in
theorem d_pass (l : Launch) (hst : l.stackTraces = false) (D : va_G) (cy : Nat → ClassId) (B : Nat) (L : List Nat) (K : KT) (P : PT) (J I : IT) (hWT : WT K P) (a0 : Nat) (x1 : Int) (a2 : Nat) (ka0 : K a0 = 8) (rx1 : rg x1) (ka2 : K a2 = 107) {co : Nat} {r : Int} {I' : IT} (hf : f_X7_pass K P I a0 x1 = some (co, r, I')) (hco : co = 0 ∨ co = 1 ∨ co = 2) : Met l yL_pass [.codeWith yL_pass cL_pass 4 (some .int) [(0, 9, 12, 13), (0, 9, 15, 15)]] rm_L_pass (va_Pc [.ref a0, iv x1, .ref a2] (FL D cy B L K P J I)) (QI D cy B L K P (if co = 0 then up J a2 0 r else J) (hnm [1, 2] co, I')) 2 12 (fun q => B ≤ q) := by
  refine fl_bodyH (own := "RejudgeHallLaw") [.ref a0, iv x1, .ref a2] (by decide) rfl (Nat.le_of_ble_eq_true rfl) ?_
  intro p e s m args below meth c ls C0 hN hr ht hF hl
  have hl : lv_has ls 4 [(0, .ref a0), (1, iv x1), (2, .ref a2)] := hl
  refine lv_aload_n C0.1 C0.2.1 dL_pass_0 rfl (lv_at hl 2 rfl) ?_
  refine fl_iconst C0 dL_pass_1 ?_
  refine lv_aload_n C0.1 C0.2.1 dL_pass_2 rfl (lv_at hl 0 rfl) ?_
  refine lv_iload_n C0.1 C0.2.1 dL_pass_3 rfl (lv_at hl 1 rfl) ?_
  refine fl_xi hF (fl_runVX (As := [iv x1]) (rest := [iv 0, .ref a2]) C0 hF hl.1 ck_8 ka0 rfl (c_X7_pass l hst D cy B L K P J hWT I a0 x1 ka0 rx1 hf) aw_779 aw_780 aw_781 aw_65 aw_782 rfl rfl pm_X7_pass rfl rfl ⟨Nat.le_of_ble_eq_true rfl, Nat.le_of_ble_eq_true rfl⟩ rfl (Nat.le_of_ble_eq_true rfl) dL_pass_4 ⟨Nat.le_of_ble_eq_true rfl, Nat.le_of_ble_eq_true rfl⟩) (fun c1 H locs hF1 rr1 => ?_) (fun c1 H locs q ce hF1 e1 e2 e3 => ?_)
  · have c1 : co = 0 := c1
    subst c1
    refine fl_i2l C0 rr1 dL_pass_7 ?_
    refine fl_last (n := 1) (x := r) C0 hF1 ka2 (rgk 0 rfl) (by decide) dL_pass_8 (fun H locs hF2 => ?_)
    refine fl_goto (tgt := 18) C0 dL_pass_9 (by decide) ?_
    refine fl_iconst C0 dL_pass_18 ?_
    exact W.widen (Nat.le_of_ble_eq_true rfl) (Nat.le_of_ble_eq_true rfl) (fl_iret C0 hF2 hr (rgk 0 rfl) rfl dL_pass_19)
  · rcases hco with rfl | rfl | rfl
    · exact absurd rfl c1
    · refine fl_catch (k := 1) (pre := []) (x := ⟨0, 9, 12, 13⟩) (suf := [⟨0, 9, 15, 15⟩]) C0 hN (ht.trans rfl) (fun z hz => nomatch hz) (by decide) hd_1 e1 e2 e3 ?_
      refine lv_astore_n (lv' := [(3, .ref q), (0, .ref a0), (1, iv x1), (2, .ref a2)]) C0.1 C0.2.1 dL_pass_12 rfl hl (by decide) rfl (fun ls hl => ?_)
      refine fl_iconst C0 dL_pass_13 ?_
      exact W.widen (Nat.le_of_ble_eq_true rfl) (Nat.le_of_ble_eq_true rfl) (fl_iret C0 hF1 hr (rgk 1 rfl) rfl dL_pass_14)
    · refine fl_catch (k := 2) (pre := [⟨0, 9, 12, 13⟩]) (x := ⟨0, 9, 15, 15⟩) (suf := []) C0 hN (ht.trans rfl) (fun z hz => by rw [List.mem_singleton.mp hz]; exact ⟨1, by decide, hd_1⟩) (by decide) hd_2 e1 e2 e3 ?_
      refine lv_astore_n (lv' := [(3, .ref q), (0, .ref a0), (1, iv x1), (2, .ref a2)]) C0.1 C0.2.1 dL_pass_15 rfl hl (by decide) rfl (fun ls hl => ?_)
      refine fl_iconst C0 dL_pass_16 ?_
      exact W.widen (Nat.le_of_ble_eq_true rfl) (Nat.le_of_ble_eq_true rfl) (fl_iret C0 hF1 hr (rgk 2 rfl) rfl dL_pass_17)
abbrev rm_L_rejudge : Room := { frames := 9, cells := 1, slots := 6, locals := 157 }
theorem pm_L_rejudge : plainM yL_rejudge 3 := by decide +kernel
set_option maxRecDepth 100000 in
set_option maxHeartbeats 4000000 in
theorem d_rejudge (l : Launch) (hst : l.stackTraces = false) (D : va_G) (cy : Nat → ClassId) (B : Nat) (L : List Nat) (K : KT) (P : PT) (J I : IT) (hWT : WT K P) (a0 : Nat) (x1 : Int) (a2 : Nat) (ka0 : K a0 = 8) (rx1 : rg x1) (ka2 : K a2 = 107) {co : Nat} {r : Int} {I' : IT} (hf : f_X7_rejudge K P I a0 x1 = some (co, r, I')) (hco : co = 0 ∨ co = 3) : Met l yL_rejudge [.codeWith yL_rejudge cL_rejudge 4 (some .int) [(0, 9, 12, 30)]] rm_L_rejudge (va_Pc [.ref a0, iv x1, .ref a2] (FL D cy B L K P J I)) (QI D cy B L K P (if co = 0 then up J a2 0 r else J) (hnm [3] co, I')) 1 6 (fun q => B ≤ q) := by
  refine fl_bodyH (own := "RejudgeHallLaw") [.ref a0, iv x1, .ref a2] (by decide) rfl (Nat.le_of_ble_eq_true rfl) ?_
  intro p e s m args below meth c ls C0 hN hr ht hF hl
  have hl : lv_has ls 4 [(0, .ref a0), (1, iv x1), (2, .ref a2)] := hl
  refine lv_aload_n C0.1 C0.2.1 dL_rejudge_0 rfl (lv_at hl 2 rfl) ?_
  refine fl_iconst C0 dL_rejudge_1 ?_
  refine lv_aload_n C0.1 C0.2.1 dL_rejudge_2 rfl (lv_at hl 0 rfl) ?_
  refine lv_iload_n C0.1 C0.2.1 dL_rejudge_3 rfl (lv_at hl 1 rfl) ?_
  refine fl_xi hF (fl_runVX (As := [iv x1]) (rest := [iv 0, .ref a2]) C0 hF hl.1 ck_8 ka0 rfl (c_X7_rejudge l hst D cy B L K P J hWT I a0 x1 ka0 rx1 hf) aw_787 aw_788 aw_789 aw_65 aw_790 rfl rfl pm_X7_rejudge rfl rfl ⟨Nat.le_of_ble_eq_true rfl, Nat.le_of_ble_eq_true rfl⟩ rfl (Nat.le_of_ble_eq_true rfl) dL_rejudge_4 ⟨Nat.le_of_ble_eq_true rfl, Nat.le_of_ble_eq_true rfl⟩) (fun c1 H locs hF1 rr1 => ?_) (fun c1 H locs q ce hF1 e1 e2 e3 => ?_)
  · have c1 : co = 0 := c1
    subst c1
    refine fl_i2l C0 rr1 dL_rejudge_7 ?_
    refine fl_last (n := 1) (x := r) C0 hF1 ka2 (rgk 0 rfl) (by decide) dL_rejudge_8 (fun H locs hF2 => ?_)
    refine fl_goto (tgt := 15) C0 dL_rejudge_9 (by decide) ?_
    refine fl_iconst C0 dL_rejudge_15 ?_
    exact W.widen (Nat.le_of_ble_eq_true rfl) (Nat.le_of_ble_eq_true rfl) (fl_iret C0 hF2 hr (rgk 0 rfl) rfl dL_rejudge_16)
  · rcases hco with rfl | rfl
    · exact absurd rfl c1
    · refine fl_catch (k := 3) (pre := []) (x := ⟨0, 9, 12, 30⟩) (suf := []) C0 hN (ht.trans rfl) (fun z hz => nomatch hz) (by decide) hd_3 e1 e2 e3 ?_
      refine lv_astore_n (lv' := [(3, .ref q), (0, .ref a0), (1, iv x1), (2, .ref a2)]) C0.1 C0.2.1 dL_rejudge_12 rfl hl (by decide) rfl (fun ls hl => ?_)
      refine fl_iconst C0 dL_rejudge_13 ?_
      exact W.widen (Nat.le_of_ble_eq_true rfl) (Nat.le_of_ble_eq_true rfl) (fl_iret C0 hF1 hr (rgk 1 rfl) rfl dL_rejudge_14)
abbrev rm_L_entry : Room := { frames := 9, cells := 2, slots := 12, locals := 155 }
theorem pm_L_entry : plainM yL_entry 4 := by decide +kernel
set_option maxRecDepth 100000 in
set_option maxHeartbeats 4000000 in
theorem d_entry (l : Launch) (hst : l.stackTraces = false) (D : va_G) (cy : Nat → ClassId) (B : Nat) (L : List Nat) (K : KT) (P : PT) (J I : IT) (hWT : WT K P) (a0 : Nat) (x1 : Int) (x2 : Int) (a3 : Nat) (ka0 : K a0 = 8) (rx1 : rg x1) (rx2 : rg x2) (ka3 : K a3 = 107) {co : Nat} {r : Int} {I' : IT} (hf : f_X7_entry K P I a0 x1 x2 = some (co, r, I')) (hco : co = 0 ∨ co = 3 ∨ co = 1) : Met l yL_entry [.codeWith yL_entry cL_entry 5 (some .int) [(0, 10, 13, 30), (0, 10, 17, 13)]] rm_L_entry (va_Pc [.ref a0, iv x1, iv x2, .ref a3] (FL D cy B L K P J I)) (QI D cy B L K P (if co = 0 then up J a3 0 r else J) (hnm [3, 1] co, I')) 2 12 (fun q => B ≤ q) := by
  refine fl_bodyH (own := "RejudgeHallLaw") [.ref a0, iv x1, iv x2, .ref a3] (by decide) rfl (Nat.le_of_ble_eq_true rfl) ?_
  intro p e s m args below meth c ls C0 hN hr ht hF hl
  have hl : lv_has ls 5 [(0, .ref a0), (1, iv x1), (2, iv x2), (3, .ref a3)] := hl
  refine lv_aload_n C0.1 C0.2.1 dL_entry_0 rfl (lv_at hl 3 rfl) ?_
  refine fl_iconst C0 dL_entry_1 ?_
  refine lv_aload_n C0.1 C0.2.1 dL_entry_2 rfl (lv_at hl 0 rfl) ?_
  refine lv_iload_n C0.1 C0.2.1 dL_entry_3 rfl (lv_at hl 1 rfl) ?_
  refine lv_iload_n C0.1 C0.2.1 dL_entry_4 rfl (lv_at hl 2 rfl) ?_
  refine fl_xi hF (fl_runVX (As := [iv x1, iv x2]) (rest := [iv 0, .ref a3]) C0 hF hl.1 ck_8 ka0 rfl (c_X7_entry l hst D cy B L K P J hWT I a0 x1 x2 ka0 rx1 rx2 hf) aw_798 aw_799 aw_800 aw_65 aw_801 rfl rfl pm_X7_entry rfl rfl ⟨Nat.le_of_ble_eq_true rfl, Nat.le_of_ble_eq_true rfl⟩ rfl (Nat.le_of_ble_eq_true rfl) dL_entry_5 ⟨Nat.le_of_ble_eq_true rfl, Nat.le_of_ble_eq_true rfl⟩) (fun c1 H locs hF1 rr1 => ?_) (fun c1 H locs q ce hF1 e1 e2 e3 => ?_)
  · have c1 : co = 0 := c1
    subst c1
    refine fl_i2l C0 rr1 dL_entry_8 ?_
    refine fl_last (n := 1) (x := r) C0 hF1 ka3 (rgk 0 rfl) (by decide) dL_entry_9 (fun H locs hF2 => ?_)
    refine fl_goto (tgt := 21) C0 dL_entry_10 (by decide) ?_
    refine fl_iconst C0 dL_entry_21 ?_
    exact W.widen (Nat.le_of_ble_eq_true rfl) (Nat.le_of_ble_eq_true rfl) (fl_iret C0 hF2 hr (rgk 0 rfl) rfl dL_entry_22)
  · rcases hco with rfl | rfl | rfl
    · exact absurd rfl c1
    · refine fl_catch (k := 3) (pre := []) (x := ⟨0, 10, 13, 30⟩) (suf := [⟨0, 10, 17, 13⟩]) C0 hN (ht.trans rfl) (fun z hz => nomatch hz) (by decide) hd_3 e1 e2 e3 ?_
      refine lv_astore (lv' := [(4, .ref q), (0, .ref a0), (1, iv x1), (2, iv x2), (3, .ref a3)]) C0.1 C0.2.1 dL_entry_13 hl (by decide) rfl (fun ls hl => ?_)
      refine fl_iconst C0 dL_entry_15 ?_
      exact W.widen (Nat.le_of_ble_eq_true rfl) (Nat.le_of_ble_eq_true rfl) (fl_iret C0 hF1 hr (rgk 1 rfl) rfl dL_entry_16)
    · refine fl_catch (k := 1) (pre := [⟨0, 10, 13, 30⟩]) (x := ⟨0, 10, 17, 13⟩) (suf := []) C0 hN (ht.trans rfl) (fun z hz => by rw [List.mem_singleton.mp hz]; exact ⟨3, by decide, hd_3⟩) (by decide) hd_1 e1 e2 e3 ?_
      refine lv_astore (lv' := [(4, .ref q), (0, .ref a0), (1, iv x1), (2, iv x2), (3, .ref a3)]) C0.1 C0.2.1 dL_entry_17 hl (by decide) rfl (fun ls hl => ?_)
      refine fl_iconst C0 dL_entry_19 ?_
      exact W.widen (Nat.le_of_ble_eq_true rfl) (Nat.le_of_ble_eq_true rfl) (fl_iret C0 hF1 hr (rgk 2 rfl) rfl dL_entry_20)
abbrev rm_L_likeness : Room := { frames := 9, cells := 2, slots := 12, locals := 157 }
theorem pm_L_likeness : plainM yL_likeness 4 := by decide +kernel
set_option maxRecDepth 100000 in
set_option maxHeartbeats 4000000 in
theorem d_likeness (l : Launch) (hst : l.stackTraces = false) (D : va_G) (cy : Nat → ClassId) (B : Nat) (L : List Nat) (K : KT) (P : PT) (J I : IT) (hWT : WT K P) (a0 : Nat) (x1 : Int) (x2 : Int) (a3 : Nat) (ka0 : K a0 = 8) (rx1 : rg x1) (rx2 : rg x2) (ka3 : K a3 = 107) {co : Nat} {r : Int} {I' : IT} (hf : f_X7_likeness K P I a0 x1 x2 = some (co, r, I')) (hco : co = 0 ∨ co = 3) : Met l yL_likeness [.codeWith yL_likeness cL_likeness 5 (some .int) [(0, 10, 13, 30)]] rm_L_likeness (va_Pc [.ref a0, iv x1, iv x2, .ref a3] (FL D cy B L K P J I)) (QI D cy B L K P (if co = 0 then up J a3 0 r else J) (hnm [3] co, I')) 2 12 (fun q => B ≤ q) := by
  refine fl_bodyH (own := "RejudgeHallLaw") [.ref a0, iv x1, iv x2, .ref a3] (by decide) rfl (Nat.le_of_ble_eq_true rfl) ?_
  intro p e s m args below meth c ls C0 hN hr ht hF hl
  have hl : lv_has ls 5 [(0, .ref a0), (1, iv x1), (2, iv x2), (3, .ref a3)] := hl
  refine lv_aload_n C0.1 C0.2.1 dL_likeness_0 rfl (lv_at hl 3 rfl) ?_
  refine fl_iconst C0 dL_likeness_1 ?_
  refine lv_aload_n C0.1 C0.2.1 dL_likeness_2 rfl (lv_at hl 0 rfl) ?_
  refine lv_iload_n C0.1 C0.2.1 dL_likeness_3 rfl (lv_at hl 1 rfl) ?_
  refine lv_iload_n C0.1 C0.2.1 dL_likeness_4 rfl (lv_at hl 2 rfl) ?_
  refine fl_xi hF (fl_runVX (As := [iv x1, iv x2]) (rest := [iv 0, .ref a3]) C0 hF hl.1 ck_8 ka0 rfl (c_X7_likeness l hst D cy B L K P J hWT I a0 x1 x2 ka0 rx1 rx2 hf) aw_809 aw_810 aw_811 aw_65 aw_812 rfl rfl pm_X7_likeness rfl rfl ⟨Nat.le_of_ble_eq_true rfl, Nat.le_of_ble_eq_true rfl⟩ rfl (Nat.le_of_ble_eq_true rfl) dL_likeness_5 ⟨Nat.le_of_ble_eq_true rfl, Nat.le_of_ble_eq_true rfl⟩) (fun c1 H locs hF1 rr1 => ?_) (fun c1 H locs q ce hF1 e1 e2 e3 => ?_)
  · have c1 : co = 0 := c1
    subst c1
    refine fl_i2l C0 rr1 dL_likeness_8 ?_
    refine fl_last (n := 1) (x := r) C0 hF1 ka3 (rgk 0 rfl) (by decide) dL_likeness_9 (fun H locs hF2 => ?_)
    refine fl_goto (tgt := 17) C0 dL_likeness_10 (by decide) ?_
    refine fl_iconst C0 dL_likeness_17 ?_
    exact W.widen (Nat.le_of_ble_eq_true rfl) (Nat.le_of_ble_eq_true rfl) (fl_iret C0 hF2 hr (rgk 0 rfl) rfl dL_likeness_18)
  · rcases hco with rfl | rfl
    · exact absurd rfl c1
    · refine fl_catch (k := 3) (pre := []) (x := ⟨0, 10, 13, 30⟩) (suf := []) C0 hN (ht.trans rfl) (fun z hz => nomatch hz) (by decide) hd_3 e1 e2 e3 ?_
      refine lv_astore (lv' := [(4, .ref q), (0, .ref a0), (1, iv x1), (2, iv x2), (3, .ref a3)]) C0.1 C0.2.1 dL_likeness_13 hl (by decide) rfl (fun ls hl => ?_)
      refine fl_iconst C0 dL_likeness_15 ?_
      exact W.widen (Nat.le_of_ble_eq_true rfl) (Nat.le_of_ble_eq_true rfl) (fl_iret C0 hF1 hr (rgk 1 rfl) rfl dL_likeness_16)
abbrev rm_L_freeze : Room := { frames := 8, cells := 1, slots := 6, locals := 134 }
theorem pm_L_freeze : plainM yL_freeze 2 := by decide +kernel
set_option maxRecDepth 100000 in
set_option maxHeartbeats 4000000 in
theorem d_freeze (l : Launch) (hst : l.stackTraces = false) (D : va_G) (cy : Nat → ClassId) (B : Nat) (L : List Nat) (K : KT) (P : PT) (J I : IT) (hWT : WT K P) (a0 : Nat) (x1 : Int) (ka0 : K a0 = 8) (rx1 : rg x1)  {co : Nat} {r : Unit} {I' : IT} (hf : f_X7_freeze K P I a0 x1 = some (co, r, I')) (hco : co = 0 ∨ co = 1) : Met l yL_freeze [.codeWith yL_freeze cL_freeze 3 (some .int) [(0, 5, 8, 13)]] rm_L_freeze (va_Pc [.ref a0, iv x1] (FL D cy B L K P J I)) (QI D cy B L K P J (hnm [1] co, I')) 1 6 (fun q => B ≤ q) := by
  refine fl_bodyH (own := "RejudgeHallLaw") [.ref a0, iv x1] (by decide) rfl (Nat.le_of_ble_eq_true rfl) ?_
  intro p e s m args below meth c ls C0 hN hr ht hF hl
  have hl : lv_has ls 3 [(0, .ref a0), (1, iv x1)] := hl
  refine lv_aload_n C0.1 C0.2.1 dL_freeze_0 rfl (lv_at hl 0 rfl) ?_
  refine lv_iload_n C0.1 C0.2.1 dL_freeze_1 rfl (lv_at hl 1 rfl) ?_
  refine fl_xv hF (fl_runVX (As := [iv x1]) (rest := []) C0 hF hl.1 ck_8 ka0 rfl (c_X7_freeze l hst D cy B L K P J hWT I a0 x1 ka0 rx1 hf) aw_827 aw_828 aw_829 aw_65 aw_830 rfl rfl pm_X7_freeze rfl rfl ⟨Nat.le_of_ble_eq_true rfl, Nat.le_of_ble_eq_true rfl⟩ rfl (Nat.le_of_ble_eq_true rfl) dL_freeze_2 ⟨Nat.le_of_ble_eq_true rfl, Nat.le_of_ble_eq_true rfl⟩) (fun c1 H locs hF1 => ?_) (fun c1 H locs q ce hF1 e1 e2 e3 => ?_)
  · have c1 : co = 0 := c1
    subst c1
    refine fl_goto (tgt := 11) C0 dL_freeze_5 (by decide) ?_
    refine fl_iconst C0 dL_freeze_11 ?_
    exact W.widen (Nat.le_of_ble_eq_true rfl) (Nat.le_of_ble_eq_true rfl) (fl_iret C0 hF1 hr (rgk 0 rfl) rfl dL_freeze_12)
  · rcases hco with rfl | rfl
    · exact absurd rfl c1
    · refine fl_catch (k := 1) (pre := []) (x := ⟨0, 5, 8, 13⟩) (suf := []) C0 hN (ht.trans rfl) (fun z hz => nomatch hz) (by decide) hd_1 e1 e2 e3 ?_
      refine lv_astore_n (lv' := [(2, .ref q), (0, .ref a0), (1, iv x1)]) C0.1 C0.2.1 dL_freeze_8 rfl hl (by decide) rfl (fun ls hl => ?_)
      refine fl_iconst C0 dL_freeze_9 ?_
      exact W.widen (Nat.le_of_ble_eq_true rfl) (Nat.le_of_ble_eq_true rfl) (fl_iret C0 hF1 hr (rgk 1 rfl) rfl dL_freeze_10)
abbrev rm_L_board : Room := { frames := 8, cells := 2, slots := 12, locals := 135 }
theorem pm_L_board : plainM yL_board 5 := by decide +kernel
set_option maxRecDepth 100000 in
set_option maxHeartbeats 4000000 in
theorem d_board (l : Launch) (hst : l.stackTraces = false) (D : va_G) (cy : Nat → ClassId) (B : Nat) (L : List Nat) (K : KT) (P : PT) (J I : IT) (hWT : WT K P) (a0 : Nat) (x1 : Int) (x2 : Int) (x3 : Int) (a4 : Nat) (ka0 : K a0 = 8) (rx1 : rg x1) (rx2 : rg x2) (rx3 : rg x3) (ka4 : K a4 = 107) {co : Nat} {r : Int} {I' : IT} (hf : f_X7_board K P I a0 x1 x2 x3 = some (co, r, I')) (hco : co = 0 ∨ co = 3 ∨ co = 1) : Met l yL_board [.codeWith yL_board cL_board 6 (some .int) [(0, 12, 15, 30), (0, 12, 19, 13)]] rm_L_board (va_Pc [.ref a0, iv x1, iv x2, iv x3, .ref a4] (FL D cy B L K P J I)) (QI D cy B L K P (if co = 0 then up J a4 0 r else J) (hnm [3, 1] co, I')) 2 12 (fun q => B ≤ q) := by
  refine fl_bodyH (own := "RejudgeHallLaw") [.ref a0, iv x1, iv x2, iv x3, .ref a4] (by decide) rfl (Nat.le_of_ble_eq_true rfl) ?_
  intro p e s m args below meth c ls C0 hN hr ht hF hl
  have hl : lv_has ls 6 [(0, .ref a0), (1, iv x1), (2, iv x2), (3, iv x3), (4, .ref a4)] := hl
  refine lv_aload C0.1 C0.2.1 dL_board_0 (lv_at hl 4 rfl) ?_
  refine fl_iconst C0 dL_board_2 ?_
  refine lv_aload_n C0.1 C0.2.1 dL_board_3 rfl (lv_at hl 0 rfl) ?_
  refine lv_iload_n C0.1 C0.2.1 dL_board_4 rfl (lv_at hl 1 rfl) ?_
  refine lv_iload_n C0.1 C0.2.1 dL_board_5 rfl (lv_at hl 2 rfl) ?_
  refine lv_iload_n C0.1 C0.2.1 dL_board_6 rfl (lv_at hl 3 rfl) ?_
  refine fl_xi hF (fl_runVX (As := [iv x1, iv x2, iv x3]) (rest := [iv 0, .ref a4]) C0 hF hl.1 ck_8 ka0 rfl (c_X7_board l hst D cy B L K P J hWT I a0 x1 x2 x3 ka0 rx1 rx2 rx3 hf) aw_834 aw_835 aw_836 aw_65 aw_837 rfl rfl pm_X7_board rfl rfl ⟨Nat.le_of_ble_eq_true rfl, Nat.le_of_ble_eq_true rfl⟩ rfl (Nat.le_of_ble_eq_true rfl) dL_board_7 ⟨Nat.le_of_ble_eq_true rfl, Nat.le_of_ble_eq_true rfl⟩) (fun c1 H locs hF1 rr1 => ?_) (fun c1 H locs q ce hF1 e1 e2 e3 => ?_)
  · have c1 : co = 0 := c1
    subst c1
    refine fl_i2l C0 rr1 dL_board_10 ?_
    refine fl_last (n := 1) (x := r) C0 hF1 ka4 (rgk 0 rfl) (by decide) dL_board_11 (fun H locs hF2 => ?_)
    refine fl_goto (tgt := 23) C0 dL_board_12 (by decide) ?_
    refine fl_iconst C0 dL_board_23 ?_
    exact W.widen (Nat.le_of_ble_eq_true rfl) (Nat.le_of_ble_eq_true rfl) (fl_iret C0 hF2 hr (rgk 0 rfl) rfl dL_board_24)
  · rcases hco with rfl | rfl | rfl
    · exact absurd rfl c1
    · refine fl_catch (k := 3) (pre := []) (x := ⟨0, 12, 15, 30⟩) (suf := [⟨0, 12, 19, 13⟩]) C0 hN (ht.trans rfl) (fun z hz => nomatch hz) (by decide) hd_3 e1 e2 e3 ?_
      refine lv_astore (lv' := [(5, .ref q), (0, .ref a0), (1, iv x1), (2, iv x2), (3, iv x3), (4, .ref a4)]) C0.1 C0.2.1 dL_board_15 hl (by decide) rfl (fun ls hl => ?_)
      refine fl_iconst C0 dL_board_17 ?_
      exact W.widen (Nat.le_of_ble_eq_true rfl) (Nat.le_of_ble_eq_true rfl) (fl_iret C0 hF1 hr (rgk 1 rfl) rfl dL_board_18)
    · refine fl_catch (k := 1) (pre := [⟨0, 12, 15, 30⟩]) (x := ⟨0, 12, 19, 13⟩) (suf := []) C0 hN (ht.trans rfl) (fun z hz => by rw [List.mem_singleton.mp hz]; exact ⟨3, by decide, hd_3⟩) (by decide) hd_1 e1 e2 e3 ?_
      refine lv_astore (lv' := [(5, .ref q), (0, .ref a0), (1, iv x1), (2, iv x2), (3, iv x3), (4, .ref a4)]) C0.1 C0.2.1 dL_board_19 hl (by decide) rfl (fun ls hl => ?_)
      refine fl_iconst C0 dL_board_21 ?_
      exact W.widen (Nat.le_of_ble_eq_true rfl) (Nat.le_of_ble_eq_true rfl) (fl_iret C0 hF1 hr (rgk 2 rfl) rfl dL_board_22)
abbrev rm_L_placeAnew : Room := { frames := 8, cells := 1, slots := 6, locals := 166 }
theorem pm_L_placeAnew : plainM yL_placeAnew 3 := by decide +kernel
set_option maxRecDepth 100000 in
set_option maxHeartbeats 4000000 in
theorem d_placeAnew (l : Launch) (hst : l.stackTraces = false) (D : va_G) (cy : Nat → ClassId) (B : Nat) (L : List Nat) (K : KT) (P : PT) (J I : IT) (hWT : WT K P) (a0 : Nat) (x1 : Int) (a2 : Nat) (ka0 : K a0 = 8) (rx1 : rg x1) (ka2 : K a2 = 107) {co : Nat} {r : Int} {I' : IT} (hf : f_X7_placeAnew K P I a0 x1 = some (co, r, I')) (hco : co = 0 ∨ co = 3) : Met l yL_placeAnew [.codeWith yL_placeAnew cL_placeAnew 4 (some .int) [(0, 9, 12, 30)]] rm_L_placeAnew (va_Pc [.ref a0, iv x1, .ref a2] (FL D cy B L K P J I)) (QI D cy B L K P (if co = 0 then up J a2 0 r else J) (hnm [3] co, I')) 1 6 (fun q => B ≤ q) := by
  refine fl_bodyH (own := "RejudgeHallLaw") [.ref a0, iv x1, .ref a2] (by decide) rfl (Nat.le_of_ble_eq_true rfl) ?_
  intro p e s m args below meth c ls C0 hN hr ht hF hl
  have hl : lv_has ls 4 [(0, .ref a0), (1, iv x1), (2, .ref a2)] := hl
  refine lv_aload_n C0.1 C0.2.1 dL_placeAnew_0 rfl (lv_at hl 2 rfl) ?_
  refine fl_iconst C0 dL_placeAnew_1 ?_
  refine lv_aload_n C0.1 C0.2.1 dL_placeAnew_2 rfl (lv_at hl 0 rfl) ?_
  refine lv_iload_n C0.1 C0.2.1 dL_placeAnew_3 rfl (lv_at hl 1 rfl) ?_
  refine fl_xi hF (fl_runVX (As := [iv x1]) (rest := [iv 0, .ref a2]) C0 hF hl.1 ck_8 ka0 rfl (c_X7_placeAnew l hst D cy B L K P J hWT I a0 x1 ka0 rx1 hf) aw_846 aw_847 aw_848 aw_65 aw_849 rfl rfl pm_X7_placeAnew rfl rfl ⟨Nat.le_of_ble_eq_true rfl, Nat.le_of_ble_eq_true rfl⟩ rfl (Nat.le_of_ble_eq_true rfl) dL_placeAnew_4 ⟨Nat.le_of_ble_eq_true rfl, Nat.le_of_ble_eq_true rfl⟩) (fun c1 H locs hF1 rr1 => ?_) (fun c1 H locs q ce hF1 e1 e2 e3 => ?_)
  · have c1 : co = 0 := c1
    subst c1
    refine fl_i2l C0 rr1 dL_placeAnew_7 ?_
    refine fl_last (n := 1) (x := r) C0 hF1 ka2 (rgk 0 rfl) (by decide) dL_placeAnew_8 (fun H locs hF2 => ?_)
    refine fl_goto (tgt := 15) C0 dL_placeAnew_9 (by decide) ?_
    refine fl_iconst C0 dL_placeAnew_15 ?_
    exact W.widen (Nat.le_of_ble_eq_true rfl) (Nat.le_of_ble_eq_true rfl) (fl_iret C0 hF2 hr (rgk 0 rfl) rfl dL_placeAnew_16)
  · rcases hco with rfl | rfl
    · exact absurd rfl c1
    · refine fl_catch (k := 3) (pre := []) (x := ⟨0, 9, 12, 30⟩) (suf := []) C0 hN (ht.trans rfl) (fun z hz => nomatch hz) (by decide) hd_3 e1 e2 e3 ?_
      refine lv_astore_n (lv' := [(3, .ref q), (0, .ref a0), (1, iv x1), (2, .ref a2)]) C0.1 C0.2.1 dL_placeAnew_12 rfl hl (by decide) rfl (fun ls hl => ?_)
      refine fl_iconst C0 dL_placeAnew_13 ?_
      exact W.widen (Nat.le_of_ble_eq_true rfl) (Nat.le_of_ble_eq_true rfl) (fl_iret C0 hF1 hr (rgk 1 rfl) rfl dL_placeAnew_14)
abbrev rm_L_hack : Room := { frames := 9, cells := 8, slots := 2035, locals := 247 }
theorem pm_L_hack : plainM yL_hack 4 := by decide +kernel
set_option maxRecDepth 100000 in
set_option maxHeartbeats 4000000 in
theorem d_hack (l : Launch) (hst : l.stackTraces = false) (D : va_G) (cy : Nat → ClassId) (B : Nat) (L : List Nat) (K : KT) (P : PT) (J I : IT) (hWT : WT K P) (a0 : Nat) (x1 : Int) (x2 : Int) (a3 : Nat) (ka0 : K a0 = 8) (rx1 : rg x1) (rx2 : rg x2) (ka3 : K a3 = 107) (post : Nat → Int → PO) (hf : w_X7_hack L K P I a0 x1 x2 post) (hpo : ∀ co r L1 K1 P1 I1, post co r L1 K1 P1 I1 → co = 0 ∨ co = 3 ∨ co = 2) : Met l yL_hack [.codeWith yL_hack cL_hack 5 (some .int) [(0, 17, 20, 30), (0, 17, 24, 15)]] rm_L_hack (va_Pc [.ref a0, iv x1, iv x2, .ref a3] (FL D cy B L K P J I)) (ALm D cy B K (hnm [3, 2]) (fun co r => if co = 0 then up J a3 0 (if r = 0 then 0 else 1) else J) post) 8 2035 (fun q => B ≤ q) := by
  refine fl_bodyH (own := "RejudgeHallLaw") [.ref a0, iv x1, iv x2, .ref a3] (by decide) rfl (Nat.le_of_ble_eq_true rfl) ?_
  intro p e s m args below meth c ls C0 hN hr ht hF hl
  have hl : lv_has ls 5 [(0, .ref a0), (1, iv x1), (2, iv x2), (3, .ref a3)] := hl
  refine lv_aload_n C0.1 C0.2.1 dL_hack_0 rfl (lv_at hl 3 rfl) ?_
  refine fl_iconst C0 dL_hack_1 ?_
  refine lv_aload_n C0.1 C0.2.1 dL_hack_2 rfl (lv_at hl 0 rfl) ?_
  refine lv_iload_n C0.1 C0.2.1 dL_hack_3 rfl (lv_at hl 1 rfl) ?_
  refine lv_iload_n C0.1 C0.2.1 dL_hack_4 rfl (lv_at hl 2 rfl) ?_
  refine fl_xim hF (fl_runVX (As := [iv x1, iv x2]) (rest := [iv 0, .ref a3]) C0 hF hl.1 ck_8 ka0 rfl (a_X7_hack l hst D cy B L K P J I hWT a0 x1 x2 ka0 rx1 rx2 post hf) aw_857 aw_858 aw_859 aw_65 aw_860 rfl rfl pm_X7_hack rfl rfl ⟨Nat.le_of_ble_eq_true rfl, Nat.le_of_ble_eq_true rfl⟩ rfl (Nat.le_of_ble_eq_true rfl) dL_hack_5 ⟨Nat.le_of_ble_eq_true rfl, Nat.le_of_ble_eq_true rfl⟩) (fun r L K1 P1 I1 H locs hF1 rr1 hp1 hW1 hE1 => ?_) (fun co L1 K1 P1 I1 H locs q ce c1 hF1 hp1 hW1 hE1 e1 e2 e3 => ?_)
  · have ka9 : K1 a3 = 107 := kx_e hE1 ka3
    refine fl_if_eq (tgt := 15) C0 rr1 dL_hack_8 (by decide) (fun c2 => ?_) (fun c2 => ?_)
    · refine fl_lconst C0 dL_hack_15 ?_
      refine fl_last (n := 1) (x := 0) C0 hF1 ka9 (rgk 0 rfl) (by decide) dL_hack_16 (fun H locs hF2 => ?_)
      refine fl_goto (tgt := 28) C0 dL_hack_17 (by decide) ?_
      refine fl_iconst C0 dL_hack_28 ?_
      exact fl_iretL (co := 0) (r := r) C0 hF2 hr rfl (show up J a3 0 (if r = 0 then 0 else 1) = up J a3 0 0 by rw [if_pos c2]) (rgk 0 rfl) rr1 hp1 hW1 hE1 dL_hack_29 (Nat.le_of_ble_eq_true rfl) (Nat.le_of_ble_eq_true rfl)
    · refine fl_lconst C0 dL_hack_11 ?_
      refine fl_goto (tgt := 16) C0 dL_hack_12 (by decide) ?_
      refine fl_last (n := 1) (x := 1) C0 hF1 ka9 (rgk 0 rfl) (by decide) dL_hack_16 (fun H locs hF2 => ?_)
      refine fl_goto (tgt := 28) C0 dL_hack_17 (by decide) ?_
      refine fl_iconst C0 dL_hack_28 ?_
      exact fl_iretL (co := 0) (r := r) C0 hF2 hr rfl (show up J a3 0 (if r = 0 then 0 else 1) = up J a3 0 1 by rw [if_neg c2]) (rgk 0 rfl) rr1 hp1 hW1 hE1 dL_hack_29 (Nat.le_of_ble_eq_true rfl) (Nat.le_of_ble_eq_true rfl)
  · rcases hpo _ _ _ _ _ _ hp1 with rfl | rfl | rfl
    · exact absurd rfl c1
    · refine fl_catch (k := 3) (pre := []) (x := ⟨0, 17, 20, 30⟩) (suf := [⟨0, 17, 24, 15⟩]) C0 hN (ht.trans rfl) (fun z hz => nomatch hz) (by decide) hd_3 e1 e2 e3 ?_
      refine lv_astore (lv' := [(4, .ref q), (0, .ref a0), (1, iv x1), (2, iv x2), (3, .ref a3)]) C0.1 C0.2.1 dL_hack_20 hl (by decide) rfl (fun ls hl => ?_)
      refine fl_iconst C0 dL_hack_22 ?_
      exact fl_iretL (co := 3) (r := 0) C0 hF1 hr rfl rfl (rgk 1 rfl) (rgk 0 rfl) hp1 hW1 hE1 dL_hack_23 (Nat.le_of_ble_eq_true rfl) (Nat.le_of_ble_eq_true rfl)
    · refine fl_catch (k := 2) (pre := [⟨0, 17, 20, 30⟩]) (x := ⟨0, 17, 24, 15⟩) (suf := []) C0 hN (ht.trans rfl) (fun z hz => by rw [List.mem_singleton.mp hz]; exact ⟨3, by decide, hd_3⟩) (by decide) hd_2 e1 e2 e3 ?_
      refine lv_astore (lv' := [(4, .ref q), (0, .ref a0), (1, iv x1), (2, iv x2), (3, .ref a3)]) C0.1 C0.2.1 dL_hack_24 hl (by decide) rfl (fun ls hl => ?_)
      refine fl_iconst C0 dL_hack_26 ?_
      exact fl_iretL (co := 2) (r := 0) C0 hF1 hr rfl rfl (rgk 2 rfl) (rgk 0 rfl) hp1 hW1 hE1 dL_hack_27 (Nat.le_of_ble_eq_true rfl) (Nat.le_of_ble_eq_true rfl)
