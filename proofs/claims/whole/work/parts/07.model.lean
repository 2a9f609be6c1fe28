-- RejudgeHallModel.thrown()I
abbrev rm_X8_thrown : Room := { frames := 0, cells := 0, slots := 0, locals := 0 }
def f_X8_thrown (K : KT) (P : PT) (I : IT) (a0 : Nat) : Option (Int) := some ((I a0 38))
theorem pm_X8_thrown : plainM yX8_thrown 0 := by decide +kernel
set_option maxRecDepth 100000 in
set_option maxHeartbeats 4000000 in
theorem c_X8_thrown (l : Launch) (D : va_G) (cy : Nat → ClassId) (B : Nat) (L : List Nat) (K : KT) (P : PT) (J : IT) (hWT : WT K P) (I : IT) (a0 : Nat) (ka0 : K a0 = 9) {r : Int} (hf : f_X8_thrown K P I a0 = some r) : Met l yX8_thrown [.code yX8_thrown cX8_thrown 1 (some .int)] rm_X8_thrown (va_Pc [.ref a0] (FW D cy B L K P J I)) (QI D cy B L K P J (r, I)) 0 0 (fun q => B ≤ q) := by
  refine fl_body (own := "RejudgeHallModel") [.ref a0] (by decide) rfl (Nat.le_of_ble_eq_true rfl) ?_
  intro p e s m args below meth c ls C0 hr hF hl
  have hl : lv_has ls 1 [(0, .ref a0)] := hl
  unfold f_X8_thrown at hf
  refine lv_aload_n C0.1 C0.2.1 dX8_thrown_0 rfl (lv_at hl 0 rfl) ?_
  refine fl_geti (k := 38) ck_9 C0 hF ka0 rfl ⟨rfl, rfl⟩ aw_912 dX8_thrown_1 ?_
  cases hf
  exact fl_iret C0 hF hr (hF.rI _ _) rfl dX8_thrown_4
-- RejudgeHallModel.isIn(III)Z
abbrev rm_X8_isIn : Room := { frames := 0, cells := 0, slots := 0, locals := 0 }
def f_X8_isIn (K : KT) (P : PT) (I : IT) (x0 : Int) (x1 : Int) (x2 : Int) : Option (Int) := if x0 < x1 then (some 0) else (if x2 < x0 then (some 0) else (some 1))
theorem pm_X8_isIn : plainM yX8_isIn 3 := by decide +kernel
set_option maxRecDepth 100000 in
set_option maxHeartbeats 4000000 in
theorem c_X8_isIn (l : Launch) (D : va_G) (cy : Nat → ClassId) (B : Nat) (L : List Nat) (K : KT) (P : PT) (J : IT) (hWT : WT K P) (I : IT) (x0 : Int) (x1 : Int) (x2 : Int) (rx0 : rg x0) (rx1 : rg x1) (rx2 : rg x2) {r : Int} (hf : f_X8_isIn K P I x0 x1 x2 = some r) : Met l yX8_isIn [.code yX8_isIn cX8_isIn 3 (some .boolean)] rm_X8_isIn (va_Pc [iv x0, iv x1, iv x2] (FW D cy B L K P J I)) (QI D cy B L K P J (r, I)) 0 0 (fun q => B ≤ q) := by
  refine fl_body (own := "RejudgeHallModel") [iv x0, iv x1, iv x2] (by decide) rfl (Nat.le_of_ble_eq_true rfl) ?_
  intro p e s m args below meth c ls C0 hr hF hl
  have hl : lv_has ls 3 [(0, iv x0), (1, iv x1), (2, iv x2)] := hl
  unfold f_X8_isIn at hf
  refine lv_iload_n C0.1 C0.2.1 dX8_isIn_0 rfl (lv_at hl 0 rfl) ?_
  refine lv_iload_n C0.1 C0.2.1 dX8_isIn_1 rfl (lv_at hl 1 rfl) ?_
  refine fl_icmp_lt (tgt := 14) C0 rx0 rx1 dX8_isIn_2 (by decide) (fun c1 => ?_) (fun c1 => ?_)
  · replace hf := (if_pos c1).symm.trans hf
    refine fl_iconst C0 dX8_isIn_14 ?_
    cases hf
    exact fl_zret C0 hF hr (rgk 0 rfl) (Or.inl rfl) rfl dX8_isIn_15
  · replace hf := (if_neg c1).symm.trans hf
    refine lv_iload_n C0.1 C0.2.1 dX8_isIn_5 rfl (lv_at hl 0 rfl) ?_
    refine lv_iload_n C0.1 C0.2.1 dX8_isIn_6 rfl (lv_at hl 2 rfl) ?_
    refine fl_icmp_gt (tgt := 14) C0 rx0 rx2 dX8_isIn_7 (by decide) (fun c2 => ?_) (fun c2 => ?_)
    · replace hf := (if_pos c2).symm.trans hf
      refine fl_iconst C0 dX8_isIn_14 ?_
      cases hf
      exact fl_zret C0 hF hr (rgk 0 rfl) (Or.inl rfl) rfl dX8_isIn_15
    · replace hf := (if_neg c2).symm.trans hf
      refine fl_iconst C0 dX8_isIn_10 ?_
      refine fl_goto (tgt := 15) C0 dX8_isIn_11 (by decide) ?_
      cases hf
      exact fl_zret C0 hF hr (rgk 1 rfl) (Or.inr rfl) rfl dX8_isIn_15
-- RejudgeHallModel.isProblem(I)Z
abbrev rm_X8_isProblem : Room := { frames := 1, cells := 0, slots := 0, locals := 22 }
def f_X8_isProblem (K : KT) (P : PT) (I : IT) (a0 : Nat) (x1 : Int) : Option (Int) := bp (f_X8_isIn K P I x1 0 ((wr ((I a0 6) - 1)))) fun r1 => ck (r1 = 0 ∨ r1 = 1) <| some r1
theorem pm_X8_isProblem : plainM yX8_isProblem 1 := by decide +kernel
set_option maxRecDepth 100000 in
set_option maxHeartbeats 4000000 in
theorem c_X8_isProblem (l : Launch) (D : va_G) (cy : Nat → ClassId) (B : Nat) (L : List Nat) (K : KT) (P : PT) (J : IT) (hWT : WT K P) (I : IT) (a0 : Nat) (x1 : Int) (ka0 : K a0 = 9) (rx1 : rg x1) {r : Int} (hf : f_X8_isProblem K P I a0 x1 = some r) : Met l yX8_isProblem [.code yX8_isProblem cX8_isProblem 2 (some .boolean)] rm_X8_isProblem (va_Pc [.ref a0, iv x1] (FW D cy B L K P J I)) (QI D cy B L K P J (r, I)) 0 0 (fun q => B ≤ q) := by
  refine fl_body (own := "RejudgeHallModel") [.ref a0, iv x1] (by decide) rfl (Nat.le_of_ble_eq_true rfl) ?_
  intro p e s m args below meth c ls C0 hr hF hl
  have hl : lv_has ls 2 [(0, .ref a0), (1, iv x1)] := hl
  unfold f_X8_isProblem at hf
  refine lv_iload_n C0.1 C0.2.1 dX8_isProblem_0 rfl (lv_at hl 1 rfl) ?_
  refine fl_iconst C0 dX8_isProblem_1 ?_
  refine lv_aload_n C0.1 C0.2.1 dX8_isProblem_2 rfl (lv_at hl 0 rfl) ?_
  refine fl_geti (k := 6) ck_9 C0 hF ka0 rfl ⟨rfl, rfl⟩ aw_880 dX8_isProblem_3 ?_
  refine fl_iconst C0 dX8_isProblem_6 ?_
  refine fl_isub C0 dX8_isProblem_7 ?_
  obtain ⟨r1, hq1, hf⟩ := bp_f hf
  refine fl_ri hF (fl_runSG (As := [iv x1, iv 0, iv (wr ((I a0 6) - 1))]) (rest := []) C0 hF hl.1 (c_X8_isIn l D cy B L K P J hWT I x1 0 ((wr ((I a0 6) - 1))) rx1 ((rgk 0 rfl)) ((rg_wr _)) hq1) aw_1000 aw_1001 aw_73 aw_1002 rfl pm_X8_isIn rfl rfl ⟨Nat.le_of_ble_eq_true rfl, Nat.le_of_ble_eq_true rfl⟩ rfl (Nat.le_of_ble_eq_true rfl) dX8_isProblem_8 ⟨Nat.le_of_ble_eq_true rfl, Nat.le_of_ble_eq_true rfl⟩) (fun H locs hF1 rr1 => ?_)
  obtain ⟨hz, hf⟩ := ck_f hf
  cases hf
  exact fl_zret C0 hF1 hr rr1 hz rfl dX8_isProblem_11
-- RejudgeHallModel.isEntry(I)Z
abbrev rm_X8_isEntry : Room := { frames := 1, cells := 0, slots := 0, locals := 22 }
def f_X8_isEntry (K : KT) (P : PT) (I : IT) (a0 : Nat) (x1 : Int) : Option (Int) := bp (f_X8_isIn K P I x1 0 ((wr ((I a0 13) - 1)))) fun r1 => ck (r1 = 0 ∨ r1 = 1) <| some r1
theorem pm_X8_isEntry : plainM yX8_isEntry 1 := by decide +kernel
set_option maxRecDepth 100000 in
set_option maxHeartbeats 4000000 in
theorem c_X8_isEntry (l : Launch) (D : va_G) (cy : Nat → ClassId) (B : Nat) (L : List Nat) (K : KT) (P : PT) (J : IT) (hWT : WT K P) (I : IT) (a0 : Nat) (x1 : Int) (ka0 : K a0 = 9) (rx1 : rg x1) {r : Int} (hf : f_X8_isEntry K P I a0 x1 = some r) : Met l yX8_isEntry [.code yX8_isEntry cX8_isEntry 2 (some .boolean)] rm_X8_isEntry (va_Pc [.ref a0, iv x1] (FW D cy B L K P J I)) (QI D cy B L K P J (r, I)) 0 0 (fun q => B ≤ q) := by
  refine fl_body (own := "RejudgeHallModel") [.ref a0, iv x1] (by decide) rfl (Nat.le_of_ble_eq_true rfl) ?_
  intro p e s m args below meth c ls C0 hr hF hl
  have hl : lv_has ls 2 [(0, .ref a0), (1, iv x1)] := hl
  unfold f_X8_isEntry at hf
  refine lv_iload_n C0.1 C0.2.1 dX8_isEntry_0 rfl (lv_at hl 1 rfl) ?_
  refine fl_iconst C0 dX8_isEntry_1 ?_
  refine lv_aload_n C0.1 C0.2.1 dX8_isEntry_2 rfl (lv_at hl 0 rfl) ?_
  refine fl_geti (k := 13) ck_9 C0 hF ka0 rfl ⟨rfl, rfl⟩ aw_887 dX8_isEntry_3 ?_
  refine fl_iconst C0 dX8_isEntry_6 ?_
  refine fl_isub C0 dX8_isEntry_7 ?_
  obtain ⟨r1, hq1, hf⟩ := bp_f hf
  refine fl_ri hF (fl_runSG (As := [iv x1, iv 0, iv (wr ((I a0 13) - 1))]) (rest := []) C0 hF hl.1 (c_X8_isIn l D cy B L K P J hWT I x1 0 ((wr ((I a0 13) - 1))) rx1 ((rgk 0 rfl)) ((rg_wr _)) hq1) aw_1000 aw_1001 aw_73 aw_1002 rfl pm_X8_isIn rfl rfl ⟨Nat.le_of_ble_eq_true rfl, Nat.le_of_ble_eq_true rfl⟩ rfl (Nat.le_of_ble_eq_true rfl) dX8_isEntry_8 ⟨Nat.le_of_ble_eq_true rfl, Nat.le_of_ble_eq_true rfl⟩) (fun H locs hF1 rr1 => ?_)
  obtain ⟨hz, hf⟩ := ck_f hf
  cases hf
  exact fl_zret C0 hF1 hr rr1 hz rfl dX8_isEntry_11
-- RejudgeHallModel.isTeam(I)Z
abbrev rm_X8_isTeam : Room := { frames := 1, cells := 0, slots := 0, locals := 22 }
def f_X8_isTeam (K : KT) (P : PT) (I : IT) (x0 : Int) : Option (Int) := bp (f_X8_isIn K P I x0 0 7) fun r1 => ck (r1 = 0 ∨ r1 = 1) <| some r1
theorem pm_X8_isTeam : plainM yX8_isTeam 1 := by decide +kernel
set_option maxRecDepth 100000 in
set_option maxHeartbeats 4000000 in
theorem c_X8_isTeam (l : Launch) (D : va_G) (cy : Nat → ClassId) (B : Nat) (L : List Nat) (K : KT) (P : PT) (J : IT) (hWT : WT K P) (I : IT) (x0 : Int) (rx0 : rg x0) {r : Int} (hf : f_X8_isTeam K P I x0 = some r) : Met l yX8_isTeam [.code yX8_isTeam cX8_isTeam 1 (some .boolean)] rm_X8_isTeam (va_Pc [iv x0] (FW D cy B L K P J I)) (QI D cy B L K P J (r, I)) 0 0 (fun q => B ≤ q) := by
  refine fl_body (own := "RejudgeHallModel") [iv x0] (by decide) rfl (Nat.le_of_ble_eq_true rfl) ?_
  intro p e s m args below meth c ls C0 hr hF hl
  have hl : lv_has ls 1 [(0, iv x0)] := hl
  unfold f_X8_isTeam at hf
  refine lv_iload_n C0.1 C0.2.1 dX8_isTeam_0 rfl (lv_at hl 0 rfl) ?_
  refine fl_iconst C0 dX8_isTeam_1 ?_
  refine fl_bipush C0 dX8_isTeam_2 (by decide) ?_
  obtain ⟨r1, hq1, hf⟩ := bp_f hf
  refine fl_ri hF (fl_runSG (As := [iv x0, iv 0, iv 7]) (rest := []) C0 hF hl.1 (c_X8_isIn l D cy B L K P J hWT I x0 0 7 rx0 ((rgk 0 rfl)) ((rgk 7 rfl)) hq1) aw_1000 aw_1001 aw_73 aw_1002 rfl pm_X8_isIn rfl rfl ⟨Nat.le_of_ble_eq_true rfl, Nat.le_of_ble_eq_true rfl⟩ rfl (Nat.le_of_ble_eq_true rfl) dX8_isTeam_4 ⟨Nat.le_of_ble_eq_true rfl, Nat.le_of_ble_eq_true rfl⟩) (fun H locs hF1 rr1 => ?_)
  obtain ⟨hz, hf⟩ := ck_f hf
  cases hf
  exact fl_zret C0 hF1 hr rr1 hz rfl dX8_isTeam_7
-- RejudgeHallModel.isGroup(I)Z
abbrev rm_X8_isGroup : Room := { frames := 1, cells := 0, slots := 0, locals := 22 }
def f_X8_isGroup (K : KT) (P : PT) (I : IT) (x0 : Int) : Option (Int) := bp (f_X8_isIn K P I x0 0 3) fun r1 => ck (r1 = 0 ∨ r1 = 1) <| some r1
theorem pm_X8_isGroup : plainM yX8_isGroup 1 := by decide +kernel
set_option maxRecDepth 100000 in
set_option maxHeartbeats 4000000 in
theorem c_X8_isGroup (l : Launch) (D : va_G) (cy : Nat → ClassId) (B : Nat) (L : List Nat) (K : KT) (P : PT) (J : IT) (hWT : WT K P) (I : IT) (x0 : Int) (rx0 : rg x0) {r : Int} (hf : f_X8_isGroup K P I x0 = some r) : Met l yX8_isGroup [.code yX8_isGroup cX8_isGroup 1 (some .boolean)] rm_X8_isGroup (va_Pc [iv x0] (FW D cy B L K P J I)) (QI D cy B L K P J (r, I)) 0 0 (fun q => B ≤ q) := by
  refine fl_body (own := "RejudgeHallModel") [iv x0] (by decide) rfl (Nat.le_of_ble_eq_true rfl) ?_
  intro p e s m args below meth c ls C0 hr hF hl
  have hl : lv_has ls 1 [(0, iv x0)] := hl
  unfold f_X8_isGroup at hf
  refine lv_iload_n C0.1 C0.2.1 dX8_isGroup_0 rfl (lv_at hl 0 rfl) ?_
  refine fl_iconst C0 dX8_isGroup_1 ?_
  refine fl_iconst C0 dX8_isGroup_2 ?_
  obtain ⟨r1, hq1, hf⟩ := bp_f hf
  refine fl_ri hF (fl_runSG (As := [iv x0, iv 0, iv 3]) (rest := []) C0 hF hl.1 (c_X8_isIn l D cy B L K P J hWT I x0 0 3 rx0 ((rgk 0 rfl)) ((rgk 3 rfl)) hq1) aw_1000 aw_1001 aw_73 aw_1002 rfl pm_X8_isIn rfl rfl ⟨Nat.le_of_ble_eq_true rfl, Nat.le_of_ble_eq_true rfl⟩ rfl (Nat.le_of_ble_eq_true rfl) dX8_isGroup_3 ⟨Nat.le_of_ble_eq_true rfl, Nat.le_of_ble_eq_true rfl⟩) (fun H locs hF1 rr1 => ?_)
  obtain ⟨hz, hf⟩ := ck_f hf
  cases hf
  exact fl_zret C0 hF1 hr rr1 hz rfl dX8_isGroup_6
-- RejudgeHallModel.needs(I)I
abbrev rm_X8_needs : Room := { frames := 0, cells := 0, slots := 0, locals := 0 }
def f_X8_needs (K : KT) (P : PT) (I : IT) (x0 : Int) : Option (Int) := if x0 = 2 then (some 2) else (if x0 = 3 then (some 2) else (if x0 = 4 then (some 2) else (if x0 = 6 then (some 2) else (if x0 = 5 then (some 1) else (if x0 = 7 then (some 1) else (if x0 = 9 then (some 1) else (some 0)))))))
theorem pm_X8_needs : plainM yX8_needs 1 := by decide +kernel
set_option maxRecDepth 100000 in
set_option maxHeartbeats 4000000 in
theorem c_X8_needs (l : Launch) (D : va_G) (cy : Nat → ClassId) (B : Nat) (L : List Nat) (K : KT) (P : PT) (J : IT) (hWT : WT K P) (I : IT) (x0 : Int) (rx0 : rg x0) {r : Int} (hf : f_X8_needs K P I x0 = some r) : Met l yX8_needs [.code yX8_needs cX8_needs 1 (some .int)] rm_X8_needs (va_Pc [iv x0] (FW D cy B L K P J I)) (QI D cy B L K P J (r, I)) 0 0 (fun q => B ≤ q) := by
  refine fl_body (own := "RejudgeHallModel") [iv x0] (by decide) rfl (Nat.le_of_ble_eq_true rfl) ?_
  intro p e s m args below meth c ls C0 hr hF hl
  have hl : lv_has ls 1 [(0, iv x0)] := hl
  unfold f_X8_needs at hf
  refine lv_iload_n C0.1 C0.2.1 dX8_needs_0 rfl (lv_at hl 0 rfl) ?_
  refine fl_iconst C0 dX8_needs_1 ?_
  refine fl_icmp_eq (tgt := 21) C0 rx0 (rgk 2 rfl) dX8_needs_2 (by decide) (fun c1 => ?_) (fun c1 => ?_)
  · replace hf := (if_pos c1).symm.trans hf
    refine fl_iconst C0 dX8_needs_21 ?_
    refine fl_goto (tgt := 47) C0 dX8_needs_22 (by decide) ?_
    cases hf
    exact fl_iret C0 hF hr (rgk 2 rfl) rfl dX8_needs_47
  · replace hf := (if_neg c1).symm.trans hf
    refine lv_iload_n C0.1 C0.2.1 dX8_needs_5 rfl (lv_at hl 0 rfl) ?_
    refine fl_iconst C0 dX8_needs_6 ?_
    refine fl_icmp_eq (tgt := 21) C0 rx0 (rgk 3 rfl) dX8_needs_7 (by decide) (fun c2 => ?_) (fun c2 => ?_)
    · replace hf := (if_pos c2).symm.trans hf
      refine fl_iconst C0 dX8_needs_21 ?_
      refine fl_goto (tgt := 47) C0 dX8_needs_22 (by decide) ?_
      cases hf
      exact fl_iret C0 hF hr (rgk 2 rfl) rfl dX8_needs_47
    · replace hf := (if_neg c2).symm.trans hf
      refine lv_iload_n C0.1 C0.2.1 dX8_needs_10 rfl (lv_at hl 0 rfl) ?_
      refine fl_iconst C0 dX8_needs_11 ?_
      refine fl_icmp_eq (tgt := 21) C0 rx0 (rgk 4 rfl) dX8_needs_12 (by decide) (fun c3 => ?_) (fun c3 => ?_)
      · replace hf := (if_pos c3).symm.trans hf
        refine fl_iconst C0 dX8_needs_21 ?_
        refine fl_goto (tgt := 47) C0 dX8_needs_22 (by decide) ?_
        cases hf
        exact fl_iret C0 hF hr (rgk 2 rfl) rfl dX8_needs_47
      · replace hf := (if_neg c3).symm.trans hf
        refine lv_iload_n C0.1 C0.2.1 dX8_needs_15 rfl (lv_at hl 0 rfl) ?_
        refine fl_bipush C0 dX8_needs_16 (by decide) ?_
        refine fl_icmp_ne (tgt := 25) C0 rx0 (rgk 6 rfl) dX8_needs_18 (by decide) (fun c4 => ?_) (fun c4 => ?_)
        · replace hf := (if_neg c4).symm.trans hf
          refine lv_iload_n C0.1 C0.2.1 dX8_needs_25 rfl (lv_at hl 0 rfl) ?_
          refine fl_iconst C0 dX8_needs_26 ?_
          refine fl_icmp_eq (tgt := 42) C0 rx0 (rgk 5 rfl) dX8_needs_27 (by decide) (fun c5 => ?_) (fun c5 => ?_)
          · replace hf := (if_pos c5).symm.trans hf
            refine fl_iconst C0 dX8_needs_42 ?_
            refine fl_goto (tgt := 47) C0 dX8_needs_43 (by decide) ?_
            cases hf
            exact fl_iret C0 hF hr (rgk 1 rfl) rfl dX8_needs_47
          · replace hf := (if_neg c5).symm.trans hf
            refine lv_iload_n C0.1 C0.2.1 dX8_needs_30 rfl (lv_at hl 0 rfl) ?_
            refine fl_bipush C0 dX8_needs_31 (by decide) ?_
            refine fl_icmp_eq (tgt := 42) C0 rx0 (rgk 7 rfl) dX8_needs_33 (by decide) (fun c6 => ?_) (fun c6 => ?_)
            · replace hf := (if_pos c6).symm.trans hf
              refine fl_iconst C0 dX8_needs_42 ?_
              refine fl_goto (tgt := 47) C0 dX8_needs_43 (by decide) ?_
              cases hf
              exact fl_iret C0 hF hr (rgk 1 rfl) rfl dX8_needs_47
            · replace hf := (if_neg c6).symm.trans hf
              refine lv_iload_n C0.1 C0.2.1 dX8_needs_36 rfl (lv_at hl 0 rfl) ?_
              refine fl_bipush C0 dX8_needs_37 (by decide) ?_
              refine fl_icmp_ne (tgt := 46) C0 rx0 (rgk 9 rfl) dX8_needs_39 (by decide) (fun c7 => ?_) (fun c7 => ?_)
              · replace hf := (if_neg c7).symm.trans hf
                refine fl_iconst C0 dX8_needs_46 ?_
                cases hf
                exact fl_iret C0 hF hr (rgk 0 rfl) rfl dX8_needs_47
              · replace hf := (if_pos c7).symm.trans hf
                refine fl_iconst C0 dX8_needs_42 ?_
                refine fl_goto (tgt := 47) C0 dX8_needs_43 (by decide) ?_
                cases hf
                exact fl_iret C0 hF hr (rgk 1 rfl) rfl dX8_needs_47
        · replace hf := (if_pos c4).symm.trans hf
          refine fl_iconst C0 dX8_needs_21 ?_
          refine fl_goto (tgt := 47) C0 dX8_needs_22 (by decide) ?_
          cases hf
          exact fl_iret C0 hF hr (rgk 2 rfl) rfl dX8_needs_47
-- RejudgeHallModel.pushes(I)V
abbrev rm_X8_pushes : Room := { frames := 1, cells := 0, slots := 0, locals := 22 }
def f_X8_pushes (K : KT) (P : PT) (I : IT) (a0 : Nat) (x1 : Int) : Option (IT) := bp (f_X8_isIn K P I x1 ((-999999)) 999999) fun r1 => if r1 = 0 then (bnd (up I a0 25 4) fun I7 => some I7) else (if (I a0 30) = 8 then (bnd (up I a0 25 3) fun I6 => some I6) else (ck (0 ≤ (I a0 30) ∧ (I a0 30) < 8) <| bnd (up I ((P a0 29)) ((I a0 30) : Int).toNat x1) fun I4 => bnd (up I4 a0 30 (wr ((I4 a0 30) + 1))) fun I5 => some I5))
theorem pm_X8_pushes : plainM yX8_pushes 1 := by decide +kernel
set_option maxRecDepth 100000 in
set_option maxHeartbeats 4000000 in
theorem c_X8_pushes (l : Launch) (D : va_G) (cy : Nat → ClassId) (B : Nat) (L : List Nat) (K : KT) (P : PT) (J : IT) (hWT : WT K P) (I : IT) (a0 : Nat) (x1 : Int) (ka0 : K a0 = 9) (rx1 : rg x1) {I' : IT} (hf : f_X8_pushes K P I a0 x1 = some I') : Met l yX8_pushes [.code yX8_pushes cX8_pushes 2 none] rm_X8_pushes (va_Pc [.ref a0, iv x1] (FW D cy B L K P J I)) (QV D cy B L K P J I') 0 0 (fun q => B ≤ q) := by
  refine fl_body (own := "RejudgeHallModel") [.ref a0, iv x1] (by decide) rfl (Nat.le_of_ble_eq_true rfl) ?_
  intro p e s m args below meth c ls C0 hr hF hl
  have hl : lv_has ls 2 [(0, .ref a0), (1, iv x1)] := hl
  unfold f_X8_pushes at hf
  refine lv_iload_n C0.1 C0.2.1 dX8_pushes_0 rfl (lv_at hl 1 rfl) ?_
  refine fl_ldc (n := (-999999)) C0 aw_1030 (by decide) dX8_pushes_1 ?_
  refine fl_ldc (n := 999999) C0 aw_1031 (by decide) dX8_pushes_3 ?_
  obtain ⟨r1, hq1, hf⟩ := bp_f hf
  refine fl_ri hF (fl_runSG (As := [iv x1, iv (-999999), iv 999999]) (rest := []) C0 hF hl.1 (c_X8_isIn l D cy B L K P J hWT I x1 ((-999999)) 999999 rx1 ((rgk (-999999) rfl)) ((rgk 999999 rfl)) hq1) aw_1000 aw_1001 aw_73 aw_1002 rfl pm_X8_isIn rfl rfl ⟨Nat.le_of_ble_eq_true rfl, Nat.le_of_ble_eq_true rfl⟩ rfl (Nat.le_of_ble_eq_true rfl) dX8_pushes_5 ⟨Nat.le_of_ble_eq_true rfl, Nat.le_of_ble_eq_true rfl⟩) (fun H locs hF1 rr1 => ?_)
  refine fl_if_ne (tgt := 19) C0 rr1 dX8_pushes_8 (by decide) (fun c2 => ?_) (fun c2 => ?_)
  · replace hf := (if_neg c2).symm.trans hf
    refine lv_aload_n C0.1 C0.2.1 dX8_pushes_19 rfl (lv_at hl 0 rfl) ?_
    refine fl_geti (k := 30) ck_9 C0 hF1 ka0 rfl ⟨rfl, rfl⟩ aw_904 dX8_pushes_20 ?_
    refine fl_bipush C0 dX8_pushes_23 (by decide) ?_
    refine fl_icmp_ne (tgt := 36) C0 (hF1.rI _ _) (rgk 8 rfl) dX8_pushes_25 (by decide) (fun c3 => ?_) (fun c3 => ?_)
    · replace hf := (if_neg c3).symm.trans hf
      refine lv_aload_n C0.1 C0.2.1 dX8_pushes_36 rfl (lv_at hl 0 rfl) ?_
      refine fl_getr (k := 29) (t := 132) ck_9 C0 hF1 ka0 rfl (wt_at (k := 29) (t := 132) hWT ka0 rfl) rfl ⟨rfl, rfl⟩ aw_903 dX8_pushes_37 ?_
      refine lv_aload_n C0.1 C0.2.1 dX8_pushes_40 rfl (lv_at hl 0 rfl) ?_
      refine fl_geti (k := 30) ck_9 C0 hF1 ka0 rfl ⟨rfl, rfl⟩ aw_904 dX8_pushes_41 ?_
      refine lv_iload_n C0.1 C0.2.1 dX8_pushes_44 rfl (lv_at hl 1 rfl) ?_
      obtain ⟨hc, hf⟩ := ck_f hf
      refine fl_iast (n := 8) C0 hF1 (wt_at (k := 29) (t := 132) hWT ka0 rfl) (hF1.rI _ _) rx1 hc dX8_pushes_45 (fun H locs hF4 => ?_)
      obtain ⟨I4, eI4, hf⟩ := bnd_f hf
      rw [eI4] at hF4
      refine lv_aload_n C0.1 C0.2.1 dX8_pushes_46 rfl (lv_at hl 0 rfl) ?_
      refine lv_dup C0.1 C0.2.1 dX8_pushes_47 rfl ?_
      refine fl_geti (k := 30) ck_9 C0 hF4 ka0 rfl ⟨rfl, rfl⟩ aw_904 dX8_pushes_48 ?_
      refine fl_iconst C0 dX8_pushes_51 ?_
      refine fl_iadd C0 dX8_pushes_52 ?_
      refine fl_puti (k := 30) ck_9 C0 hF4 ka0 rfl (rg_wr _) ⟨rfl, rfl, rfl⟩ aw_904 dX8_pushes_53 (fun H locs hF5 => ?_)
      obtain ⟨I5, eI5, hf⟩ := bnd_f hf
      rw [eI5] at hF5
      cases hf
      exact fl_vret C0 hF5 hr rfl dX8_pushes_56
    · replace hf := (if_pos c3).symm.trans hf
      refine lv_aload_n C0.1 C0.2.1 dX8_pushes_28 rfl (lv_at hl 0 rfl) ?_
      refine fl_iconst C0 dX8_pushes_29 ?_
      refine fl_puti (k := 25) ck_9 C0 hF1 ka0 rfl (rgk 3 rfl) ⟨rfl, rfl, rfl⟩ aw_899 dX8_pushes_30 (fun H locs hF6 => ?_)
      obtain ⟨I6, eI6, hf⟩ := bnd_f hf
      rw [eI6] at hF6
      refine fl_goto (tgt := 56) C0 dX8_pushes_33 (by decide) ?_
      cases hf
      exact fl_vret C0 hF6 hr rfl dX8_pushes_56
  · replace hf := (if_pos c2).symm.trans hf
    refine lv_aload_n C0.1 C0.2.1 dX8_pushes_11 rfl (lv_at hl 0 rfl) ?_
    refine fl_iconst C0 dX8_pushes_12 ?_
    refine fl_puti (k := 25) ck_9 C0 hF1 ka0 rfl (rgk 4 rfl) ⟨rfl, rfl, rfl⟩ aw_899 dX8_pushes_13 (fun H locs hF7 => ?_)
    obtain ⟨I7, eI7, hf⟩ := bnd_f hf
    rw [eI7] at hF7
    refine fl_goto (tgt := 56) C0 dX8_pushes_16 (by decide) ?_
    cases hf
    exact fl_vret C0 hF7 hr rfl dX8_pushes_56
-- RejudgeHallModel.makes(J)V
abbrev rm_X8_makes : Room := { frames := 2, cells := 0, slots := 0, locals := 43 }
def f_X8_makes_16 (K : KT) (P : PT) (I : IT) (a0 : Nat) : Option (IT) := bnd (up I a0 25 4) fun I4 => some I4
def f_X8_makes (K : KT) (P : PT) (I : IT) (a0 : Nat) (x1 : Int) : Option (IT) := if 0 < (cmpl x1 999999) then (f_X8_makes_16 K P  I a0) else (if 0 ≤ (cmpl x1 (-999999)) then (bp (f_X8_pushes K P I a0 ((wr x1))) fun I3 => some I3) else (f_X8_makes_16 K P  I a0))
abbrev G_X8_makes_16 (p : Program) (l : Launch) (e : Env) (s : State) (m : MethodId) (args : Array Value) (below : List Frame) (meth : Method) (c : Code) (D : va_G) (cy : Nat → ClassId) (B : Nat) (L : List Nat) (K : KT) (P : PT) (J : IT) (res : IT) (f : IT → Nat → Option (IT)) : Prop := ∀ (I : IT) (a0 : Nat) (H : Heap) (locs : List Loc) (ls : Array Slot), K a0 = 9 → FS D cy B L K P J s.heap I H locs → lv_has ls 3 [(0, .ref a0)] → f I a0 = some res → W p l e rm_X8_makes s m args below meth c H locs 0 0 (MQ below (QV D cy B L K P J res) args s 0 0 (fun q => B ≤ q)) (F0 m 16 ls [])
set_option maxRecDepth 100000 in
set_option maxHeartbeats 4000000 in
theorem b_X8_makes_16 {p : Program} {l : Launch} {e : Env} {s : State} {m : MethodId} {args : Array Value} {below : List Frame} {meth : Method} {c : Code} {D : va_G} {cy : Nat → ClassId} {B : Nat} {L : List Nat} {K : KT} {P : PT} {J : IT} {res : IT} (C0 : FC D cy B p s m meth c "RejudgeHallModel" cX8_makes 3) (hr : meth.sig.returnType = none) (hWT : WT K P) : G_X8_makes_16 p l e s m args below meth c D cy B L K P J res (f_X8_makes_16 K P ) := by
  intro I a0 H locs ls ka0 hF hl hf
  unfold f_X8_makes_16 at hf
  refine lv_aload_n C0.1 C0.2.1 dX8_makes_16 rfl (lv_at hl 0 rfl) ?_
  refine fl_iconst C0 dX8_makes_17 ?_
  refine fl_puti (k := 25) ck_9 C0 hF ka0 rfl (rgk 4 rfl) ⟨rfl, rfl, rfl⟩ aw_899 dX8_makes_18 (fun H locs hF4 => ?_)
  obtain ⟨I4, eI4, hf⟩ := bnd_f hf
  rw [eI4] at hF4
  refine fl_goto (tgt := 30) C0 dX8_makes_21 (by decide) ?_
  cases hf
  exact fl_vret C0 hF4 hr rfl dX8_makes_30
theorem pm_X8_makes : plainM yX8_makes 1 := by decide +kernel
set_option maxRecDepth 100000 in
set_option maxHeartbeats 4000000 in
theorem c_X8_makes (l : Launch) (D : va_G) (cy : Nat → ClassId) (B : Nat) (L : List Nat) (K : KT) (P : PT) (J : IT) (hWT : WT K P) (I : IT) (a0 : Nat) (x1 : Int) (ka0 : K a0 = 9) (rx1 : rl x1) {I' : IT} (hf : f_X8_makes K P I a0 x1 = some I') : Met l yX8_makes [.code yX8_makes cX8_makes 3 none] rm_X8_makes (va_Pc [.ref a0, lgv x1] (FW D cy B L K P J I)) (QV D cy B L K P J I') 0 0 (fun q => B ≤ q) := by
  refine fl_body (own := "RejudgeHallModel") [.ref a0, lgv x1] (by decide) rfl (Nat.le_of_ble_eq_true rfl) ?_
  intro p e s m args below meth c ls C0 hr hF hl
  have hl : lv_has ls 3 [(0, .ref a0), (1, lgv x1)] := hl
  unfold f_X8_makes at hf
  refine lv_lload_n C0.1 C0.2.1 dX8_makes_0 rfl (lv_at hl 1 rfl) ?_
  refine fl_ldc2 (n := 999999) C0 aw_1036 (by decide) dX8_makes_1 ?_
  refine fl_lcmp C0 rx1 (rl_rg (rgk 999999 rfl)) dX8_makes_4 ?_
  refine fl_if_gt (tgt := 16) C0 (rg_cmpl _ _) dX8_makes_5 (by decide) (fun c1 => ?_) (fun c1 => ?_)
  · replace hf := (if_pos c1).symm.trans hf
    exact b_X8_makes_16 C0 hr hWT  I a0 _ _ _ ka0 hF (lv_sub hl [0] rfl) hf
  · replace hf := (if_neg c1).symm.trans hf
    refine lv_lload_n C0.1 C0.2.1 dX8_makes_8 rfl (lv_at hl 1 rfl) ?_
    refine fl_ldc2 (n := (-999999)) C0 aw_1037 (by decide) dX8_makes_9 ?_
    refine fl_lcmp C0 rx1 (rl_rg (rgk (-999999) rfl)) dX8_makes_12 ?_
    refine fl_if_ge (tgt := 24) C0 (rg_cmpl _ _) dX8_makes_13 (by decide) (fun c2 => ?_) (fun c2 => ?_)
    · replace hf := (if_pos c2).symm.trans hf
      refine lv_aload_n C0.1 C0.2.1 dX8_makes_24 rfl (lv_at hl 0 rfl) ?_
      refine lv_lload_n C0.1 C0.2.1 dX8_makes_25 rfl (lv_at hl 1 rfl) ?_
      refine fl_l2i C0 dX8_makes_26 ?_
      obtain ⟨I3, hq3, hf⟩ := bp_f hf
      refine fl_rv hF (fl_runV (As := [iv (wr x1)]) (rest := []) C0 hF hl.1 ck_9 ka0 rfl (c_X8_pushes l D cy B L K P J hWT I a0 ((wr x1)) ka0 ((rg_wr _)) hq3) aw_1026 aw_1028 aw_46 aw_73 aw_1029 rfl rfl pm_X8_pushes rfl rfl ⟨Nat.le_of_ble_eq_true rfl, Nat.le_of_ble_eq_true rfl⟩ rfl (Nat.le_of_ble_eq_true rfl) dX8_makes_27 ⟨Nat.le_of_ble_eq_true rfl, Nat.le_of_ble_eq_true rfl⟩) (fun H locs hF3 => ?_)
      cases hf
      exact fl_vret C0 hF3 hr rfl dX8_makes_30
    · replace hf := (if_neg c2).symm.trans hf
      exact b_X8_makes_16 C0 hr hWT  I a0 _ _ _ ka0 hF (lv_sub hl [0] rfl) hf
-- RejudgeHallModel.runs(III)V
abbrev rm_X8_runs : Room := { frames := 3, cells := 0, slots := 0, locals := 65 }
def f_X8_runs_52 (K : KT) (P : PT) (I : IT) (a0 : Nat) : Option (IT) := bnd (up I a0 25 2) fun I15 => some I15
def f_X8_runs_127 (K : KT) (P : PT) (I : IT) (a0 : Nat) : Option (IT) := bnd (up I a0 25 4) fun I13 => some I13
def f_X8_runs_497 (K : KT) (P : PT) (k26 : IT → Nat → Int → Int → Int → Int → Int → Option (IT)) (I : IT) (a0 : Nat) (x1 : Int) (x2 : Int) (x3 : Int) (x4 : Int) (x5 : Int) : Option (IT) := k26 I a0 x1 x2 x3 x4 x5
def f_X8_runs_320 (K : KT) (P : PT) (k26 : IT → Nat → Int → Int → Int → Int → Int → Option (IT)) (I : IT) (a0 : Nat) (x1 : Int) (x2 : Int) (x3 : Int) (x4 : Int) (x5 : Int) (t0 : Int) (b1 : Nat) : Option (IT) := bp (f_X8_makes K P I b1 t0) fun I42 => f_X8_runs_497 K P k26 I42 a0 x1 x2 x3 x4 x5
def f_X8_runs_270 (K : KT) (P : PT) (k26 : IT → Nat → Int → Int → Int → Int → Int → Option (IT)) (I : IT) (a0 : Nat) (x1 : Int) (x2 : Int) (x3 : Int) (x4 : Int) (x5 : Int) (x6 : Int) (x8 : Int) (x9 : Int) : Option (IT) := bnd (up I a0 30 (wr ((I a0 30) - 2))) fun I34 => if x6 = 2 then (f_X8_runs_320 K P k26 I34 a0 x1 x2 x3 x4 x5 ((wl (x9 + x8))) a0) else (if x6 = 3 then (f_X8_runs_320 K P k26 I34 a0 x1 x2 x3 x4 x5 ((wl (x9 - x8))) a0) else (f_X8_runs_320 K P k26 I34 a0 x1 x2 x3 x4 x5 ((wl (x9 * x8))) a0))
def f_X8_runs_392 (K : KT) (P : PT) (k26 : IT → Nat → Int → Int → Int → Int → Int → Option (IT)) (I : IT) (a0 : Nat) (x1 : Int) (x2 : Int) (x3 : Int) (x4 : Int) (x5 : Int) (x8 : Int) (t0 : Int) (b1 : Nat) : Option (IT) := bnd (up I b1 25 t0) fun I38 => if 8 ≤ (I38 a0 27) then (f_X8_runs_497 K P k26 I38 a0 x1 x2 x3 x4 x5) else (ck (0 ≤ (I38 a0 27) ∧ (I38 a0 27) < 8) <| bnd (up I38 ((P a0 28)) ((I38 a0 27) : Int).toNat x8) fun I40 => bnd (up I40 a0 27 (wr ((I40 a0 27) + 1))) fun I41 => f_X8_runs_497 K P k26 I41 a0 x1 x2 x3 x4 x5)
def f_X8_runs_494 (K : KT) (P : PT) (k26 : IT → Nat → Int → Int → Int → Int → Int → Option (IT)) (I : IT) (a0 : Nat) (x1 : Int) (x2 : Int) (x3 : Int) (x4 : Int) (x5 : Int) (t0 : Int) (b1 : Nat) : Option (IT) := bnd (up I b1 25 t0) fun I48 => f_X8_runs_497 K P k26 I48 a0 x1 x2 x3 x4 x5
def f_X8_runs_468 (K : KT) (P : PT) (k26 : IT → Nat → Int → Int → Int → Int → Int → Option (IT)) (I : IT) (a0 : Nat) (x1 : Int) (x2 : Int) (x3 : Int) (x5 : Int) (t0 : Int) : Option (IT) := ck (0 ≤ x1 ∧ x1 < 67) <| bp (f_X8_isIn K P I t0 0 ((I ((P a0 1)) (x1 : Int).toNat))) fun r46 => if r46 = 0 then (f_X8_runs_494 K P k26 I a0 x1 x2 x3 t0 x5 4 a0) else (f_X8_runs_494 K P k26 I a0 x1 x2 x3 t0 x5 ((I a0 25)) a0)
def f_X8_runs_461 (K : KT) (P : PT) (k26 : IT → Nat → Int → Int → Int → Int → Int → Option (IT)) (I : IT) (a0 : Nat) (x1 : Int) (x2 : Int) (x3 : Int) (x5 : Int) (x7 : Int) : Option (IT) := f_X8_runs_468 K P k26 I a0 x1 x2 x3 x5 x7
def f_X8_runs_445 (K : KT) (P : PT) (k26 : IT → Nat → Int → Int → Int → Int → Int → Option (IT)) (I : IT) (a0 : Nat) (x1 : Int) (x2 : Int) (x3 : Int) (x4 : Int) (x5 : Int) (x6 : Int) (x7 : Int) (x8 : Int) (t0 : Int) (t1 : Int) (b2 : Nat) : Option (IT) := bnd (up I b2 30 (wr (t1 - t0))) fun I43 => if x6 = 8 then (f_X8_runs_461 K P k26 I43 a0 x1 x2 x3 x5 x7) else (if x8 = 0 then (f_X8_runs_461 K P k26 I43 a0 x1 x2 x3 x5 x7) else (f_X8_runs_468 K P k26 I43 a0 x1 x2 x3 x5 x4))
def f_X8_runs_428 (K : KT) (P : PT) (k26 : IT → Nat → Int → Int → Int → Int → Int → Option (IT)) (I : IT) (a0 : Nat) (x1 : Int) (x2 : Int) (x3 : Int) (x4 : Int) (x5 : Int) (x6 : Int) (x7 : Int) (x8 : Int) : Option (IT) := if x6 = 7 then (f_X8_runs_445 K P k26 I a0 x1 x2 x3 x4 x5 x6 x7 x8 1 ((I a0 30)) a0) else (f_X8_runs_445 K P k26 I a0 x1 x2 x3 x4 x5 x6 x7 x8 0 ((I a0 30)) a0)
def f_X8_runs_180 (K : KT) (P : PT) (k26 : IT → Nat → Int → Int → Int → Int → Int → Option (IT)) (I : IT) (a0 : Nat) (x1 : Int) (x2 : Int) (x3 : Int) (x4 : Int) (x5 : Int) (x6 : Int) (x7 : Int) (x8 : Int) (t0 : Int) : Option (IT) := if x6 = 0 then (ck (0 ≤ (wr ((wr (4 * x2)) + x5)) ∧ (wr ((wr (4 * x2)) + x5)) < 292) <| bp (f_X8_pushes K P I a0 ((I ((P a0 5)) ((wr ((wr (4 * x2)) + x5)) : Int).toNat))) fun I18 => f_X8_runs_497 K P k26 I18 a0 x1 x2 x3 x4 ((wr (x5 + 1)))) else if x6 = 1 then (bp (f_X8_pushes K P I a0 x7) fun I20 => f_X8_runs_497 K P k26 I20 a0 x1 x2 x3 x4 x5) else if x6 = 2 then (f_X8_runs_270 K P k26 I a0 x1 x2 x3 x4 x5 x6 x8 t0) else if x6 = 3 then (f_X8_runs_270 K P k26 I a0 x1 x2 x3 x4 x5 x6 x8 t0) else if x6 = 4 then (f_X8_runs_270 K P k26 I a0 x1 x2 x3 x4 x5 x6 x8 t0) else if x6 = 5 then (bp (f_X8_pushes K P I a0 x8) fun I25 => f_X8_runs_497 K P k26 I25 a0 x1 x2 x3 x4 x5) else if x6 = 6 then (ck (0 ≤ (wr ((I a0 30) - 1)) ∧ (wr ((I a0 30) - 1)) < 8) <| bnd (up I ((P a0 29)) ((wr ((I a0 30) - 1)) : Int).toNat t0) fun I27 => ck (0 ≤ (wr ((I27 a0 30) - 2)) ∧ (wr ((I27 a0 30) - 2)) < 8) <| bnd (up I27 ((P a0 29)) ((wr ((I27 a0 30) - 2)) : Int).toNat x8) fun I28 => f_X8_runs_497 K P k26 I28 a0 x1 x2 x3 x4 x5) else if x6 = 7 then (f_X8_runs_428 K P k26 I a0 x1 x2 x3 x4 x5 x6 x7 x8) else if x6 = 8 then (f_X8_runs_428 K P k26 I a0 x1 x2 x3 x4 x5 x6 x7 x8) else if x6 = 9 then (bnd (up I a0 30 (wr ((I a0 30) - 1))) fun I32 => if (I32 a0 27) = 8 then (f_X8_runs_392 K P k26 I32 a0 x1 x2 x3 x4 x5 x8 3 a0) else (f_X8_runs_392 K P k26 I32 a0 x1 x2 x3 x4 x5 x8 ((I32 a0 25)) a0)) else (f_X8_runs_428 K P k26 I a0 x1 x2 x3 x4 x5 x6 x7 x8)
def f_X8_runs_155 (K : KT) (P : PT) (k26 : IT → Nat → Int → Int → Int → Int → Int → Option (IT)) (I : IT) (a0 : Nat) (x1 : Int) (x2 : Int) (x3 : Int) (x4 : Int) (x5 : Int) (x6 : Int) (x7 : Int) (t0 : Int) : Option (IT) := if (I a0 30) ≤ 1 then (f_X8_runs_180 K P k26 I a0 x1 x2 x3 x4 x5 x6 x7 t0 0) else (ck (0 ≤ (wr ((I a0 30) - 2)) ∧ (wr ((I a0 30) - 2)) < 8) <| f_X8_runs_180 K P k26 I a0 x1 x2 x3 x4 x5 x6 x7 t0 ((I ((P a0 29)) ((wr ((I a0 30) - 2)) : Int).toNat)))
def f_X8_runs_133 (K : KT) (P : PT) (k26 : IT → Nat → Int → Int → Int → Int → Int → Option (IT)) (I : IT) (a0 : Nat) (x1 : Int) (x2 : Int) (x3 : Int) (x4 : Int) (x5 : Int) (x6 : Int) (x7 : Int) : Option (IT) := if (I a0 30) ≤ 0 then (f_X8_runs_155 K P k26 I a0 x1 x2 x3 x4 x5 x6 x7 0) else (ck (0 ≤ (wr ((I a0 30) - 1)) ∧ (wr ((I a0 30) - 1)) < 8) <| f_X8_runs_155 K P k26 I a0 x1 x2 x3 x4 x5 x6 x7 ((I ((P a0 29)) ((wr ((I a0 30) - 1)) : Int).toNat)))
def f_X8_runs_26 (K : KT) (P : PT) : Nat → IT → Nat → Int → Int → Int → Int → Int → Option (IT)
  | 0, _, _, _, _, _, _, _ => none
  | n + 1, I, a0, x1, x2, x3, x4, x5 => if (I a0 25) = 0 then (ck (0 ≤ x1 ∧ x1 < 67) <| if (I ((P a0 1)) (x1 : Int).toNat) ≤ x4 then (some I) else (if (I a0 26) = x3 then (f_X8_runs_52 K P  I a0) else (bnd (up I a0 26 (wr ((I a0 26) + 1))) fun I8 => ck (0 ≤ (wr ((wr (16 * x1)) + x4)) ∧ (wr ((wr (16 * x1)) + x4)) < 1072) <| ck (0 ≤ (wr ((wr (16 * x1)) + x4)) ∧ (wr ((wr (16 * x1)) + x4)) < 1072) <| bp (f_X8_needs K P I8 ((I8 ((P a0 2)) ((wr ((wr (16 * x1)) + x4)) : Int).toNat))) fun r9 => if (I8 a0 30) < r9 then (f_X8_runs_127 K P  I8 a0) else (if (I8 ((P a0 2)) ((wr ((wr (16 * x1)) + x4)) : Int).toNat) = 0 then (ck (0 ≤ x2 ∧ x2 < 73) <| if x5 = (I8 ((P a0 4)) (x2 : Int).toNat) then (f_X8_runs_127 K P  I8 a0) else (f_X8_runs_133 K P ((f_X8_runs_26 K P  n)) I8 a0 x1 x2 x3 ((wr (x4 + 1))) x5 ((I8 ((P a0 2)) ((wr ((wr (16 * x1)) + x4)) : Int).toNat)) ((I8 ((P a0 3)) ((wr ((wr (16 * x1)) + x4)) : Int).toNat)))) else (f_X8_runs_133 K P ((f_X8_runs_26 K P  n)) I8 a0 x1 x2 x3 ((wr (x4 + 1))) x5 ((I8 ((P a0 2)) ((wr ((wr (16 * x1)) + x4)) : Int).toNat)) ((I8 ((P a0 3)) ((wr ((wr (16 * x1)) + x4)) : Int).toNat))))))) else (some I)
def f_X8_runs (K : KT) (P : PT) (I : IT) (a0 : Nat) (x1 : Int) (x2 : Int) (x3 : Int) : Option (IT) := bnd (up I a0 25 0) fun I1 => bnd (up I1 a0 26 0) fun I2 => bnd (up I2 a0 27 0) fun I3 => bnd (up I3 a0 30 0) fun I4 => f_X8_runs_26 K P  FU I4 a0 x1 x2 x3 0 0
abbrev G_X8_runs_52 (p : Program) (l : Launch) (e : Env) (s : State) (m : MethodId) (args : Array Value) (below : List Frame) (meth : Method) (c : Code) (D : va_G) (cy : Nat → ClassId) (B : Nat) (L : List Nat) (K : KT) (P : PT) (J : IT) (res : IT) (f : IT → Nat → Option (IT)) : Prop := ∀ (I : IT) (a0 : Nat) (H : Heap) (locs : List Loc) (ls : Array Slot), K a0 = 9 → FS D cy B L K P J s.heap I H locs → lv_has ls 10 [(0, .ref a0)] → f I a0 = some res → W p l e rm_X8_runs s m args below meth c H locs 0 0 (MQ below (QV D cy B L K P J res) args s 0 0 (fun q => B ≤ q)) (F0 m 52 ls [])
abbrev G_X8_runs_127 (p : Program) (l : Launch) (e : Env) (s : State) (m : MethodId) (args : Array Value) (below : List Frame) (meth : Method) (c : Code) (D : va_G) (cy : Nat → ClassId) (B : Nat) (L : List Nat) (K : KT) (P : PT) (J : IT) (res : IT) (f : IT → Nat → Option (IT)) : Prop := ∀ (I : IT) (a0 : Nat) (H : Heap) (locs : List Loc) (ls : Array Slot), K a0 = 9 → FS D cy B L K P J s.heap I H locs → lv_has ls 10 [(0, .ref a0)] → f I a0 = some res → W p l e rm_X8_runs s m args below meth c H locs 0 0 (MQ below (QV D cy B L K P J res) args s 0 0 (fun q => B ≤ q)) (F0 m 127 ls [])
abbrev G_X8_runs_497 (p : Program) (l : Launch) (e : Env) (s : State) (m : MethodId) (args : Array Value) (below : List Frame) (meth : Method) (c : Code) (D : va_G) (cy : Nat → ClassId) (B : Nat) (L : List Nat) (K : KT) (P : PT) (J : IT) (res : IT) (f : IT → Nat → Int → Int → Int → Int → Int → Option (IT)) : Prop := ∀ (I : IT) (a0 : Nat) (x1 : Int) (x2 : Int) (x3 : Int) (x4 : Int) (x5 : Int) (H : Heap) (locs : List Loc) (ls : Array Slot), K a0 = 9 → rg x1 → rg x2 → rg x3 → rg x4 → rg x5 → FS D cy B L K P J s.heap I H locs → lv_has ls 10 [(0, .ref a0), (1, iv x1), (2, iv x2), (3, iv x3), (4, iv x4), (5, iv x5)] → f I a0 x1 x2 x3 x4 x5 = some res → W p l e rm_X8_runs s m args below meth c H locs 0 0 (MQ below (QV D cy B L K P J res) args s 0 0 (fun q => B ≤ q)) (F0 m 497 ls [])
abbrev G_X8_runs_320 (p : Program) (l : Launch) (e : Env) (s : State) (m : MethodId) (args : Array Value) (below : List Frame) (meth : Method) (c : Code) (D : va_G) (cy : Nat → ClassId) (B : Nat) (L : List Nat) (K : KT) (P : PT) (J : IT) (res : IT) (f : IT → Nat → Int → Int → Int → Int → Int → Int → Nat → Option (IT)) : Prop := ∀ (I : IT) (a0 : Nat) (x1 : Int) (x2 : Int) (x3 : Int) (x4 : Int) (x5 : Int) (t0 : Int) (b1 : Nat) (H : Heap) (locs : List Loc) (ls : Array Slot), K a0 = 9 → rg x1 → rg x2 → rg x3 → rg x4 → rg x5 → rl t0 → K b1 = 9 → FS D cy B L K P J s.heap I H locs → lv_has ls 10 [(0, .ref a0), (1, iv x1), (2, iv x2), (3, iv x3), (4, iv x4), (5, iv x5)] → f I a0 x1 x2 x3 x4 x5 t0 b1 = some res → W p l e rm_X8_runs s m args below meth c H locs 0 0 (MQ below (QV D cy B L K P J res) args s 0 0 (fun q => B ≤ q)) (F0 m 320 ls [lgv t0, .ref b1])
abbrev G_X8_runs_270 (p : Program) (l : Launch) (e : Env) (s : State) (m : MethodId) (args : Array Value) (below : List Frame) (meth : Method) (c : Code) (D : va_G) (cy : Nat → ClassId) (B : Nat) (L : List Nat) (K : KT) (P : PT) (J : IT) (res : IT) (f : IT → Nat → Int → Int → Int → Int → Int → Int → Int → Int → Option (IT)) : Prop := ∀ (I : IT) (a0 : Nat) (x1 : Int) (x2 : Int) (x3 : Int) (x4 : Int) (x5 : Int) (x6 : Int) (x8 : Int) (x9 : Int) (H : Heap) (locs : List Loc) (ls : Array Slot), K a0 = 9 → rg x1 → rg x2 → rg x3 → rg x4 → rg x5 → rg x6 → rg x8 → rg x9 → FS D cy B L K P J s.heap I H locs → lv_has ls 10 [(0, .ref a0), (1, iv x1), (2, iv x2), (3, iv x3), (4, iv x4), (5, iv x5), (6, iv x6), (8, iv x8), (9, iv x9)] → f I a0 x1 x2 x3 x4 x5 x6 x8 x9 = some res → W p l e rm_X8_runs s m args below meth c H locs 0 0 (MQ below (QV D cy B L K P J res) args s 0 0 (fun q => B ≤ q)) (F0 m 270 ls [])
abbrev G_X8_runs_392 (p : Program) (l : Launch) (e : Env) (s : State) (m : MethodId) (args : Array Value) (below : List Frame) (meth : Method) (c : Code) (D : va_G) (cy : Nat → ClassId) (B : Nat) (L : List Nat) (K : KT) (P : PT) (J : IT) (res : IT) (f : IT → Nat → Int → Int → Int → Int → Int → Int → Int → Nat → Option (IT)) : Prop := ∀ (I : IT) (a0 : Nat) (x1 : Int) (x2 : Int) (x3 : Int) (x4 : Int) (x5 : Int) (x8 : Int) (t0 : Int) (b1 : Nat) (H : Heap) (locs : List Loc) (ls : Array Slot), K a0 = 9 → rg x1 → rg x2 → rg x3 → rg x4 → rg x5 → rg x8 → rg t0 → K b1 = 9 → FS D cy B L K P J s.heap I H locs → lv_has ls 10 [(0, .ref a0), (1, iv x1), (2, iv x2), (3, iv x3), (4, iv x4), (5, iv x5), (8, iv x8)] → f I a0 x1 x2 x3 x4 x5 x8 t0 b1 = some res → W p l e rm_X8_runs s m args below meth c H locs 0 0 (MQ below (QV D cy B L K P J res) args s 0 0 (fun q => B ≤ q)) (F0 m 392 ls [iv t0, .ref b1])
abbrev G_X8_runs_494 (p : Program) (l : Launch) (e : Env) (s : State) (m : MethodId) (args : Array Value) (below : List Frame) (meth : Method) (c : Code) (D : va_G) (cy : Nat → ClassId) (B : Nat) (L : List Nat) (K : KT) (P : PT) (J : IT) (res : IT) (f : IT → Nat → Int → Int → Int → Int → Int → Int → Nat → Option (IT)) : Prop := ∀ (I : IT) (a0 : Nat) (x1 : Int) (x2 : Int) (x3 : Int) (x4 : Int) (x5 : Int) (t0 : Int) (b1 : Nat) (H : Heap) (locs : List Loc) (ls : Array Slot), K a0 = 9 → rg x1 → rg x2 → rg x3 → rg x4 → rg x5 → rg t0 → K b1 = 9 → FS D cy B L K P J s.heap I H locs → lv_has ls 10 [(0, .ref a0), (1, iv x1), (2, iv x2), (3, iv x3), (4, iv x4), (5, iv x5)] → f I a0 x1 x2 x3 x4 x5 t0 b1 = some res → W p l e rm_X8_runs s m args below meth c H locs 0 0 (MQ below (QV D cy B L K P J res) args s 0 0 (fun q => B ≤ q)) (F0 m 494 ls [iv t0, .ref b1])
abbrev G_X8_runs_468 (p : Program) (l : Launch) (e : Env) (s : State) (m : MethodId) (args : Array Value) (below : List Frame) (meth : Method) (c : Code) (D : va_G) (cy : Nat → ClassId) (B : Nat) (L : List Nat) (K : KT) (P : PT) (J : IT) (res : IT) (f : IT → Nat → Int → Int → Int → Int → Int → Option (IT)) : Prop := ∀ (I : IT) (a0 : Nat) (x1 : Int) (x2 : Int) (x3 : Int) (x5 : Int) (t0 : Int) (H : Heap) (locs : List Loc) (ls : Array Slot), K a0 = 9 → rg x1 → rg x2 → rg x3 → rg x5 → rg t0 → FS D cy B L K P J s.heap I H locs → lv_has ls 10 [(0, .ref a0), (1, iv x1), (2, iv x2), (3, iv x3), (5, iv x5)] → f I a0 x1 x2 x3 x5 t0 = some res → W p l e rm_X8_runs s m args below meth c H locs 0 0 (MQ below (QV D cy B L K P J res) args s 0 0 (fun q => B ≤ q)) (F0 m 468 ls [iv t0])
abbrev G_X8_runs_461 (p : Program) (l : Launch) (e : Env) (s : State) (m : MethodId) (args : Array Value) (below : List Frame) (meth : Method) (c : Code) (D : va_G) (cy : Nat → ClassId) (B : Nat) (L : List Nat) (K : KT) (P : PT) (J : IT) (res : IT) (f : IT → Nat → Int → Int → Int → Int → Int → Option (IT)) : Prop := ∀ (I : IT) (a0 : Nat) (x1 : Int) (x2 : Int) (x3 : Int) (x5 : Int) (x7 : Int) (H : Heap) (locs : List Loc) (ls : Array Slot), K a0 = 9 → rg x1 → rg x2 → rg x3 → rg x5 → rg x7 → FS D cy B L K P J s.heap I H locs → lv_has ls 10 [(0, .ref a0), (1, iv x1), (2, iv x2), (3, iv x3), (5, iv x5), (7, iv x7)] → f I a0 x1 x2 x3 x5 x7 = some res → W p l e rm_X8_runs s m args below meth c H locs 0 0 (MQ below (QV D cy B L K P J res) args s 0 0 (fun q => B ≤ q)) (F0 m 461 ls [])
abbrev G_X8_runs_445 (p : Program) (l : Launch) (e : Env) (s : State) (m : MethodId) (args : Array Value) (below : List Frame) (meth : Method) (c : Code) (D : va_G) (cy : Nat → ClassId) (B : Nat) (L : List Nat) (K : KT) (P : PT) (J : IT) (res : IT) (f : IT → Nat → Int → Int → Int → Int → Int → Int → Int → Int → Int → Int → Nat → Option (IT)) : Prop := ∀ (I : IT) (a0 : Nat) (x1 : Int) (x2 : Int) (x3 : Int) (x4 : Int) (x5 : Int) (x6 : Int) (x7 : Int) (x8 : Int) (t0 : Int) (t1 : Int) (b2 : Nat) (H : Heap) (locs : List Loc) (ls : Array Slot), K a0 = 9 → rg x1 → rg x2 → rg x3 → rg x4 → rg x5 → rg x6 → rg x7 → rg x8 → rg t0 → rg t1 → K b2 = 9 → FS D cy B L K P J s.heap I H locs → lv_has ls 10 [(0, .ref a0), (1, iv x1), (2, iv x2), (3, iv x3), (4, iv x4), (5, iv x5), (6, iv x6), (7, iv x7), (8, iv x8)] → f I a0 x1 x2 x3 x4 x5 x6 x7 x8 t0 t1 b2 = some res → W p l e rm_X8_runs s m args below meth c H locs 0 0 (MQ below (QV D cy B L K P J res) args s 0 0 (fun q => B ≤ q)) (F0 m 445 ls [iv t0, iv t1, .ref b2])
abbrev G_X8_runs_428 (p : Program) (l : Launch) (e : Env) (s : State) (m : MethodId) (args : Array Value) (below : List Frame) (meth : Method) (c : Code) (D : va_G) (cy : Nat → ClassId) (B : Nat) (L : List Nat) (K : KT) (P : PT) (J : IT) (res : IT) (f : IT → Nat → Int → Int → Int → Int → Int → Int → Int → Int → Option (IT)) : Prop := ∀ (I : IT) (a0 : Nat) (x1 : Int) (x2 : Int) (x3 : Int) (x4 : Int) (x5 : Int) (x6 : Int) (x7 : Int) (x8 : Int) (H : Heap) (locs : List Loc) (ls : Array Slot), K a0 = 9 → rg x1 → rg x2 → rg x3 → rg x4 → rg x5 → rg x6 → rg x7 → rg x8 → FS D cy B L K P J s.heap I H locs → lv_has ls 10 [(0, .ref a0), (1, iv x1), (2, iv x2), (3, iv x3), (4, iv x4), (5, iv x5), (6, iv x6), (7, iv x7), (8, iv x8)] → f I a0 x1 x2 x3 x4 x5 x6 x7 x8 = some res → W p l e rm_X8_runs s m args below meth c H locs 0 0 (MQ below (QV D cy B L K P J res) args s 0 0 (fun q => B ≤ q)) (F0 m 428 ls [])
abbrev G_X8_runs_180 (p : Program) (l : Launch) (e : Env) (s : State) (m : MethodId) (args : Array Value) (below : List Frame) (meth : Method) (c : Code) (D : va_G) (cy : Nat → ClassId) (B : Nat) (L : List Nat) (K : KT) (P : PT) (J : IT) (res : IT) (f : IT → Nat → Int → Int → Int → Int → Int → Int → Int → Int → Int → Option (IT)) : Prop := ∀ (I : IT) (a0 : Nat) (x1 : Int) (x2 : Int) (x3 : Int) (x4 : Int) (x5 : Int) (x6 : Int) (x7 : Int) (x8 : Int) (t0 : Int) (H : Heap) (locs : List Loc) (ls : Array Slot), K a0 = 9 → rg x1 → rg x2 → rg x3 → rg x4 → rg x5 → rg x6 → rg x7 → rg x8 → rg t0 → FS D cy B L K P J s.heap I H locs → lv_has ls 10 [(0, .ref a0), (1, iv x1), (2, iv x2), (3, iv x3), (4, iv x4), (5, iv x5), (6, iv x6), (7, iv x7), (8, iv x8)] → f I a0 x1 x2 x3 x4 x5 x6 x7 x8 t0 = some res → W p l e rm_X8_runs s m args below meth c H locs 0 0 (MQ below (QV D cy B L K P J res) args s 0 0 (fun q => B ≤ q)) (F0 m 180 ls [iv t0])
abbrev G_X8_runs_155 (p : Program) (l : Launch) (e : Env) (s : State) (m : MethodId) (args : Array Value) (below : List Frame) (meth : Method) (c : Code) (D : va_G) (cy : Nat → ClassId) (B : Nat) (L : List Nat) (K : KT) (P : PT) (J : IT) (res : IT) (f : IT → Nat → Int → Int → Int → Int → Int → Int → Int → Int → Option (IT)) : Prop := ∀ (I : IT) (a0 : Nat) (x1 : Int) (x2 : Int) (x3 : Int) (x4 : Int) (x5 : Int) (x6 : Int) (x7 : Int) (t0 : Int) (H : Heap) (locs : List Loc) (ls : Array Slot), K a0 = 9 → rg x1 → rg x2 → rg x3 → rg x4 → rg x5 → rg x6 → rg x7 → rg t0 → FS D cy B L K P J s.heap I H locs → lv_has ls 10 [(0, .ref a0), (1, iv x1), (2, iv x2), (3, iv x3), (4, iv x4), (5, iv x5), (6, iv x6), (7, iv x7)] → f I a0 x1 x2 x3 x4 x5 x6 x7 t0 = some res → W p l e rm_X8_runs s m args below meth c H locs 0 0 (MQ below (QV D cy B L K P J res) args s 0 0 (fun q => B ≤ q)) (F0 m 155 ls [iv t0])
abbrev G_X8_runs_133 (p : Program) (l : Launch) (e : Env) (s : State) (m : MethodId) (args : Array Value) (below : List Frame) (meth : Method) (c : Code) (D : va_G) (cy : Nat → ClassId) (B : Nat) (L : List Nat) (K : KT) (P : PT) (J : IT) (res : IT) (f : IT → Nat → Int → Int → Int → Int → Int → Int → Int → Option (IT)) : Prop := ∀ (I : IT) (a0 : Nat) (x1 : Int) (x2 : Int) (x3 : Int) (x4 : Int) (x5 : Int) (x6 : Int) (x7 : Int) (H : Heap) (locs : List Loc) (ls : Array Slot), K a0 = 9 → rg x1 → rg x2 → rg x3 → rg x4 → rg x5 → rg x6 → rg x7 → FS D cy B L K P J s.heap I H locs → lv_has ls 10 [(0, .ref a0), (1, iv x1), (2, iv x2), (3, iv x3), (4, iv x4), (5, iv x5), (6, iv x6), (7, iv x7)] → f I a0 x1 x2 x3 x4 x5 x6 x7 = some res → W p l e rm_X8_runs s m args below meth c H locs 0 0 (MQ below (QV D cy B L K P J res) args s 0 0 (fun q => B ≤ q)) (F0 m 133 ls [])
abbrev G_X8_runs_26 (p : Program) (l : Launch) (e : Env) (s : State) (m : MethodId) (args : Array Value) (below : List Frame) (meth : Method) (c : Code) (D : va_G) (cy : Nat → ClassId) (B : Nat) (L : List Nat) (K : KT) (P : PT) (J : IT) (res : IT) (f : IT → Nat → Int → Int → Int → Int → Int → Option (IT)) : Prop := ∀ (I : IT) (a0 : Nat) (x1 : Int) (x2 : Int) (x3 : Int) (x4 : Int) (x5 : Int) (H : Heap) (locs : List Loc) (ls : Array Slot), K a0 = 9 → rg x1 → rg x2 → rg x3 → rg x4 → rg x5 → FS D cy B L K P J s.heap I H locs → lv_has ls 10 [(0, .ref a0), (1, iv x1), (2, iv x2), (3, iv x3), (4, iv x4), (5, iv x5)] → f I a0 x1 x2 x3 x4 x5 = some res → W p l e rm_X8_runs s m args below meth c H locs 0 0 (MQ below (QV D cy B L K P J res) args s 0 0 (fun q => B ≤ q)) (F0 m 26 ls [])
set_option maxRecDepth 100000 in
set_option maxHeartbeats 4000000 in
theorem b_X8_runs_52 {p : Program} {l : Launch} {e : Env} {s : State} {m : MethodId} {args : Array Value} {below : List Frame} {meth : Method} {c : Code} {D : va_G} {cy : Nat → ClassId} {B : Nat} {L : List Nat} {K : KT} {P : PT} {J : IT} {res : IT} (C0 : FC D cy B p s m meth c "RejudgeHallModel" cX8_runs 10) (hr : meth.sig.returnType = none) (hWT : WT K P) : G_X8_runs_52 p l e s m args below meth c D cy B L K P J res (f_X8_runs_52 K P ) := by
  intro I a0 H locs ls ka0 hF hl hf
  unfold f_X8_runs_52 at hf
  refine lv_aload_n C0.1 C0.2.1 dX8_runs_52 rfl (lv_at hl 0 rfl) ?_
  refine fl_iconst C0 dX8_runs_53 ?_
  refine fl_puti (k := 25) ck_9 C0 hF ka0 rfl (rgk 2 rfl) ⟨rfl, rfl, rfl⟩ aw_899 dX8_runs_54 (fun H locs hF15 => ?_)
  obtain ⟨I15, eI15, hf⟩ := bnd_f hf
  rw [eI15] at hF15
  cases hf
  exact fl_vret C0 hF15 hr rfl dX8_runs_57
set_option maxRecDepth 100000 in
set_option maxHeartbeats 4000000 in
theorem b_X8_runs_127 {p : Program} {l : Launch} {e : Env} {s : State} {m : MethodId} {args : Array Value} {below : List Frame} {meth : Method} {c : Code} {D : va_G} {cy : Nat → ClassId} {B : Nat} {L : List Nat} {K : KT} {P : PT} {J : IT} {res : IT} (C0 : FC D cy B p s m meth c "RejudgeHallModel" cX8_runs 10) (hr : meth.sig.returnType = none) (hWT : WT K P) : G_X8_runs_127 p l e s m args below meth c D cy B L K P J res (f_X8_runs_127 K P ) := by
  intro I a0 H locs ls ka0 hF hl hf
  unfold f_X8_runs_127 at hf
  refine lv_aload_n C0.1 C0.2.1 dX8_runs_127 rfl (lv_at hl 0 rfl) ?_
  refine fl_iconst C0 dX8_runs_128 ?_
  refine fl_puti (k := 25) ck_9 C0 hF ka0 rfl (rgk 4 rfl) ⟨rfl, rfl, rfl⟩ aw_899 dX8_runs_129 (fun H locs hF13 => ?_)
  obtain ⟨I13, eI13, hf⟩ := bnd_f hf
  rw [eI13] at hF13
  cases hf
  exact fl_vret C0 hF13 hr rfl dX8_runs_132
set_option maxRecDepth 100000 in
set_option maxHeartbeats 4000000 in
theorem b_X8_runs_497 {p : Program} {l : Launch} {e : Env} {s : State} {m : MethodId} {args : Array Value} {below : List Frame} {meth : Method} {c : Code} {D : va_G} {cy : Nat → ClassId} {B : Nat} {L : List Nat} {K : KT} {P : PT} {J : IT} {res : IT} (C0 : FC D cy B p s m meth c "RejudgeHallModel" cX8_runs 10) (hr : meth.sig.returnType = none) (hWT : WT K P) {k26 : IT → Nat → Int → Int → Int → Int → Int → Option (IT)} (hk26 : G_X8_runs_26 p l e s m args below meth c D cy B L K P J res k26) : G_X8_runs_497 p l e s m args below meth c D cy B L K P J res (f_X8_runs_497 K P k26) := by
  intro I a0 x1 x2 x3 x4 x5 H locs ls ka0 rx1 rx2 rx3 rx4 rx5 hF hl hf
  unfold f_X8_runs_497 at hf
  refine fl_goto (tgt := 26) C0 dX8_runs_497 (by decide) ?_
  exact hk26 I a0 x1 x2 x3 x4 x5 _ _ _ ka0 rx1 rx2 rx3 rx4 rx5 hF (lv_sub hl [0, 1, 2, 3, 4, 5] rfl) hf
set_option maxRecDepth 100000 in
set_option maxHeartbeats 4000000 in
theorem b_X8_runs_320 {p : Program} {l : Launch} {e : Env} {s : State} {m : MethodId} {args : Array Value} {below : List Frame} {meth : Method} {c : Code} {D : va_G} {cy : Nat → ClassId} {B : Nat} {L : List Nat} {K : KT} {P : PT} {J : IT} {res : IT} (C0 : FC D cy B p s m meth c "RejudgeHallModel" cX8_runs 10) (hr : meth.sig.returnType = none) (hWT : WT K P) {k26 : IT → Nat → Int → Int → Int → Int → Int → Option (IT)} (hk26 : G_X8_runs_26 p l e s m args below meth c D cy B L K P J res k26) : G_X8_runs_320 p l e s m args below meth c D cy B L K P J res (f_X8_runs_320 K P k26) := by
  intro I a0 x1 x2 x3 x4 x5 t0 b1 H locs ls ka0 rx1 rx2 rx3 rx4 rx5 rt0 kb1 hF hl hf
  unfold f_X8_runs_320 at hf
  obtain ⟨I42, hq42, hf⟩ := bp_f hf
  refine fl_rv hF (fl_runV (As := [lgv t0]) (rest := []) C0 hF hl.1 ck_9 kb1 rfl (c_X8_makes l D cy B L K P J hWT I b1 t0 kb1 rt0 hq42) aw_1032 aw_1034 aw_47 aw_73 aw_1035 rfl rfl pm_X8_makes rfl rfl ⟨Nat.le_of_ble_eq_true rfl, Nat.le_of_ble_eq_true rfl⟩ rfl (Nat.le_of_ble_eq_true rfl) dX8_runs_320 ⟨Nat.le_of_ble_eq_true rfl, Nat.le_of_ble_eq_true rfl⟩) (fun H locs hF42 => ?_)
  refine fl_goto (tgt := 497) C0 dX8_runs_323 (by decide) ?_
  exact b_X8_runs_497 C0 hr hWT hk26 I42 a0 x1 x2 x3 x4 x5 _ _ _ ka0 rx1 rx2 rx3 rx4 rx5 hF42 (lv_sub hl [0, 1, 2, 3, 4, 5] rfl) hf
set_option maxRecDepth 100000 in
set_option maxHeartbeats 4000000 in
theorem b_X8_runs_270 {p : Program} {l : Launch} {e : Env} {s : State} {m : MethodId} {args : Array Value} {below : List Frame} {meth : Method} {c : Code} {D : va_G} {cy : Nat → ClassId} {B : Nat} {L : List Nat} {K : KT} {P : PT} {J : IT} {res : IT} (C0 : FC D cy B p s m meth c "RejudgeHallModel" cX8_runs 10) (hr : meth.sig.returnType = none) (hWT : WT K P) {k26 : IT → Nat → Int → Int → Int → Int → Int → Option (IT)} (hk26 : G_X8_runs_26 p l e s m args below meth c D cy B L K P J res k26) : G_X8_runs_270 p l e s m args below meth c D cy B L K P J res (f_X8_runs_270 K P k26) := by
  intro I a0 x1 x2 x3 x4 x5 x6 x8 x9 H locs ls ka0 rx1 rx2 rx3 rx4 rx5 rx6 rx8 rx9 hF hl hf
  unfold f_X8_runs_270 at hf
  refine lv_aload_n C0.1 C0.2.1 dX8_runs_270 rfl (lv_at hl 0 rfl) ?_
  refine lv_dup C0.1 C0.2.1 dX8_runs_271 rfl ?_
  refine fl_geti (k := 30) ck_9 C0 hF ka0 rfl ⟨rfl, rfl⟩ aw_904 dX8_runs_272 ?_
  refine fl_iconst C0 dX8_runs_275 ?_
  refine fl_isub C0 dX8_runs_276 ?_
  refine fl_puti (k := 30) ck_9 C0 hF ka0 rfl (rg_wr _) ⟨rfl, rfl, rfl⟩ aw_904 dX8_runs_277 (fun H locs hF34 => ?_)
  obtain ⟨I34, eI34, hf⟩ := bnd_f hf
  rw [eI34] at hF34
  refine lv_aload_n C0.1 C0.2.1 dX8_runs_280 rfl (lv_at hl 0 rfl) ?_
  refine lv_iload C0.1 C0.2.1 dX8_runs_281 (lv_at hl 6 rfl) ?_
  refine fl_iconst C0 dX8_runs_283 ?_
  refine fl_icmp_ne (tgt := 297) C0 rx6 (rgk 2 rfl) dX8_runs_284 (by decide) (fun c35 => ?_) (fun c35 => ?_)
  · replace hf := (if_neg c35).symm.trans hf
    refine lv_iload C0.1 C0.2.1 dX8_runs_297 (lv_at hl 6 rfl) ?_
    refine fl_iconst C0 dX8_runs_299 ?_
    refine fl_icmp_ne (tgt := 313) C0 rx6 (rgk 3 rfl) dX8_runs_300 (by decide) (fun c36 => ?_) (fun c36 => ?_)
    · replace hf := (if_neg c36).symm.trans hf
      refine lv_iload C0.1 C0.2.1 dX8_runs_313 (lv_at hl 8 rfl) ?_
      refine fl_i2l C0 rx9 dX8_runs_315 ?_
      refine lv_iload C0.1 C0.2.1 dX8_runs_316 (lv_at hl 7 rfl) ?_
      refine fl_i2l C0 rx8 dX8_runs_318 ?_
      refine fl_lmul C0 dX8_runs_319 ?_
      exact b_X8_runs_320 C0 hr hWT hk26 I34 a0 x1 x2 x3 x4 x5 ((wl (x9 * x8))) a0 _ _ _ ka0 rx1 rx2 rx3 rx4 rx5 ((rl_wl _)) ka0 hF34 (lv_sub hl [0, 1, 2, 3, 4, 5] rfl) hf
    · replace hf := (if_pos c36).symm.trans hf
      refine lv_iload C0.1 C0.2.1 dX8_runs_303 (lv_at hl 8 rfl) ?_
      refine fl_i2l C0 rx9 dX8_runs_305 ?_
      refine lv_iload C0.1 C0.2.1 dX8_runs_306 (lv_at hl 7 rfl) ?_
      refine fl_i2l C0 rx8 dX8_runs_308 ?_
      refine fl_lsub C0 dX8_runs_309 ?_
      refine fl_goto (tgt := 320) C0 dX8_runs_310 (by decide) ?_
      exact b_X8_runs_320 C0 hr hWT hk26 I34 a0 x1 x2 x3 x4 x5 ((wl (x9 - x8))) a0 _ _ _ ka0 rx1 rx2 rx3 rx4 rx5 ((rl_wl _)) ka0 hF34 (lv_sub hl [0, 1, 2, 3, 4, 5] rfl) hf
  · replace hf := (if_pos c35).symm.trans hf
    refine lv_iload C0.1 C0.2.1 dX8_runs_287 (lv_at hl 8 rfl) ?_
    refine fl_i2l C0 rx9 dX8_runs_289 ?_
    refine lv_iload C0.1 C0.2.1 dX8_runs_290 (lv_at hl 7 rfl) ?_
    refine fl_i2l C0 rx8 dX8_runs_292 ?_
    refine fl_ladd C0 dX8_runs_293 ?_
    refine fl_goto (tgt := 320) C0 dX8_runs_294 (by decide) ?_
    exact b_X8_runs_320 C0 hr hWT hk26 I34 a0 x1 x2 x3 x4 x5 ((wl (x9 + x8))) a0 _ _ _ ka0 rx1 rx2 rx3 rx4 rx5 ((rl_wl _)) ka0 hF34 (lv_sub hl [0, 1, 2, 3, 4, 5] rfl) hf
set_option maxRecDepth 100000 in
set_option maxHeartbeats 4000000 in
theorem b_X8_runs_392 {p : Program} {l : Launch} {e : Env} {s : State} {m : MethodId} {args : Array Value} {below : List Frame} {meth : Method} {c : Code} {D : va_G} {cy : Nat → ClassId} {B : Nat} {L : List Nat} {K : KT} {P : PT} {J : IT} {res : IT} (C0 : FC D cy B p s m meth c "RejudgeHallModel" cX8_runs 10) (hr : meth.sig.returnType = none) (hWT : WT K P) {k26 : IT → Nat → Int → Int → Int → Int → Int → Option (IT)} (hk26 : G_X8_runs_26 p l e s m args below meth c D cy B L K P J res k26) : G_X8_runs_392 p l e s m args below meth c D cy B L K P J res (f_X8_runs_392 K P k26) := by
  intro I a0 x1 x2 x3 x4 x5 x8 t0 b1 H locs ls ka0 rx1 rx2 rx3 rx4 rx5 rx8 rt0 kb1 hF hl hf
  unfold f_X8_runs_392 at hf
  refine fl_puti (k := 25) ck_9 C0 hF kb1 rfl rt0 ⟨rfl, rfl, rfl⟩ aw_899 dX8_runs_392 (fun H locs hF38 => ?_)
  obtain ⟨I38, eI38, hf⟩ := bnd_f hf
  rw [eI38] at hF38
  refine lv_aload_n C0.1 C0.2.1 dX8_runs_395 rfl (lv_at hl 0 rfl) ?_
  refine fl_geti (k := 27) ck_9 C0 hF38 ka0 rfl ⟨rfl, rfl⟩ aw_901 dX8_runs_396 ?_
  refine fl_bipush C0 dX8_runs_399 (by decide) ?_
  refine fl_icmp_ge (tgt := 497) C0 (hF38.rI _ _) (rgk 8 rfl) dX8_runs_401 (by decide) (fun c39 => ?_) (fun c39 => ?_)
  · replace hf := (if_pos c39).symm.trans hf
    exact b_X8_runs_497 C0 hr hWT hk26 I38 a0 x1 x2 x3 x4 x5 _ _ _ ka0 rx1 rx2 rx3 rx4 rx5 hF38 (lv_sub hl [0, 1, 2, 3, 4, 5] rfl) hf
  · replace hf := (if_neg c39).symm.trans hf
    refine lv_aload_n C0.1 C0.2.1 dX8_runs_404 rfl (lv_at hl 0 rfl) ?_
    refine fl_getr (k := 28) (t := 132) ck_9 C0 hF38 ka0 rfl (wt_at (k := 28) (t := 132) hWT ka0 rfl) rfl ⟨rfl, rfl⟩ aw_902 dX8_runs_405 ?_
    refine lv_aload_n C0.1 C0.2.1 dX8_runs_408 rfl (lv_at hl 0 rfl) ?_
    refine fl_geti (k := 27) ck_9 C0 hF38 ka0 rfl ⟨rfl, rfl⟩ aw_901 dX8_runs_409 ?_
    refine lv_iload C0.1 C0.2.1 dX8_runs_412 (lv_at hl 6 rfl) ?_
    obtain ⟨hc, hf⟩ := ck_f hf
    refine fl_iast (n := 8) C0 hF38 (wt_at (k := 28) (t := 132) hWT ka0 rfl) (hF38.rI _ _) rx8 hc dX8_runs_414 (fun H locs hF40 => ?_)
    obtain ⟨I40, eI40, hf⟩ := bnd_f hf
    rw [eI40] at hF40
    refine lv_aload_n C0.1 C0.2.1 dX8_runs_415 rfl (lv_at hl 0 rfl) ?_
    refine lv_dup C0.1 C0.2.1 dX8_runs_416 rfl ?_
    refine fl_geti (k := 27) ck_9 C0 hF40 ka0 rfl ⟨rfl, rfl⟩ aw_901 dX8_runs_417 ?_
    refine fl_iconst C0 dX8_runs_420 ?_
    refine fl_iadd C0 dX8_runs_421 ?_
    refine fl_puti (k := 27) ck_9 C0 hF40 ka0 rfl (rg_wr _) ⟨rfl, rfl, rfl⟩ aw_901 dX8_runs_422 (fun H locs hF41 => ?_)
    obtain ⟨I41, eI41, hf⟩ := bnd_f hf
    rw [eI41] at hF41
    refine fl_goto (tgt := 497) C0 dX8_runs_425 (by decide) ?_
    exact b_X8_runs_497 C0 hr hWT hk26 I41 a0 x1 x2 x3 x4 x5 _ _ _ ka0 rx1 rx2 rx3 rx4 rx5 hF41 (lv_sub hl [0, 1, 2, 3, 4, 5] rfl) hf
set_option maxRecDepth 100000 in
set_option maxHeartbeats 4000000 in
theorem b_X8_runs_494 {p : Program} {l : Launch} {e : Env} {s : State} {m : MethodId} {args : Array Value} {below : List Frame} {meth : Method} {c : Code} {D : va_G} {cy : Nat → ClassId} {B : Nat} {L : List Nat} {K : KT} {P : PT} {J : IT} {res : IT} (C0 : FC D cy B p s m meth c "RejudgeHallModel" cX8_runs 10) (hr : meth.sig.returnType = none) (hWT : WT K P) {k26 : IT → Nat → Int → Int → Int → Int → Int → Option (IT)} (hk26 : G_X8_runs_26 p l e s m args below meth c D cy B L K P J res k26) : G_X8_runs_494 p l e s m args below meth c D cy B L K P J res (f_X8_runs_494 K P k26) := by
  intro I a0 x1 x2 x3 x4 x5 t0 b1 H locs ls ka0 rx1 rx2 rx3 rx4 rx5 rt0 kb1 hF hl hf
  unfold f_X8_runs_494 at hf
  refine fl_puti (k := 25) ck_9 C0 hF kb1 rfl rt0 ⟨rfl, rfl, rfl⟩ aw_899 dX8_runs_494 (fun H locs hF48 => ?_)
  obtain ⟨I48, eI48, hf⟩ := bnd_f hf
  rw [eI48] at hF48
  exact b_X8_runs_497 C0 hr hWT hk26 I48 a0 x1 x2 x3 x4 x5 _ _ _ ka0 rx1 rx2 rx3 rx4 rx5 hF48 (lv_sub hl [0, 1, 2, 3, 4, 5] rfl) hf
set_option maxRecDepth 100000 in
set_option maxHeartbeats 4000000 in
theorem b_X8_runs_468 {p : Program} {l : Launch} {e : Env} {s : State} {m : MethodId} {args : Array Value} {below : List Frame} {meth : Method} {c : Code} {D : va_G} {cy : Nat → ClassId} {B : Nat} {L : List Nat} {K : KT} {P : PT} {J : IT} {res : IT} (C0 : FC D cy B p s m meth c "RejudgeHallModel" cX8_runs 10) (hr : meth.sig.returnType = none) (hWT : WT K P) {k26 : IT → Nat → Int → Int → Int → Int → Int → Option (IT)} (hk26 : G_X8_runs_26 p l e s m args below meth c D cy B L K P J res k26) : G_X8_runs_468 p l e s m args below meth c D cy B L K P J res (f_X8_runs_468 K P k26) := by
  intro I a0 x1 x2 x3 x5 t0 H locs ls ka0 rx1 rx2 rx3 rx5 rt0 hF hl hf
  unfold f_X8_runs_468 at hf
  refine lv_istore (lv' := [(4, iv t0), (0, .ref a0), (1, iv x1), (2, iv x2), (3, iv x3), (5, iv x5)]) C0.1 C0.2.1 dX8_runs_468 hl (by decide) rfl (fun ls hl => ?_)
  refine lv_aload_n C0.1 C0.2.1 dX8_runs_470 rfl (lv_at hl 1 rfl) ?_
  refine lv_iload C0.1 C0.2.1 dX8_runs_471 (lv_at hl 0 rfl) ?_
  refine fl_iconst C0 dX8_runs_473 ?_
  refine lv_aload_n C0.1 C0.2.1 dX8_runs_474 rfl (lv_at hl 1 rfl) ?_
  refine fl_getr (k := 1) (t := 368) ck_9 C0 hF ka0 rfl (wt_at (k := 1) (t := 368) hWT ka0 rfl) rfl ⟨rfl, rfl⟩ aw_875 dX8_runs_475 ?_
  refine lv_iload_n C0.1 C0.2.1 dX8_runs_478 rfl (lv_at hl 2 rfl) ?_
  obtain ⟨hc, hf⟩ := ck_f hf
  refine fl_iald (n := 67) C0 hF (wt_at (k := 1) (t := 368) hWT ka0 rfl) rx1 hc dX8_runs_479 ?_
  obtain ⟨r46, hq46, hf⟩ := bp_f hf
  refine fl_ri hF (fl_runSG (As := [iv t0, iv 0, iv (I ((P a0 1)) (x1 : Int).toNat)]) (rest := [.ref a0]) C0 hF hl.1 (c_X8_isIn l D cy B L K P J hWT I t0 0 ((I ((P a0 1)) (x1 : Int).toNat)) rt0 ((rgk 0 rfl)) ((hF.rI _ _)) hq46) aw_1000 aw_1001 aw_73 aw_1002 rfl pm_X8_isIn rfl rfl ⟨Nat.le_of_ble_eq_true rfl, Nat.le_of_ble_eq_true rfl⟩ rfl (Nat.le_of_ble_eq_true rfl) dX8_runs_480 ⟨Nat.le_of_ble_eq_true rfl, Nat.le_of_ble_eq_true rfl⟩) (fun H locs hF46 rr46 => ?_)
  refine fl_if_eq (tgt := 493) C0 rr46 dX8_runs_483 (by decide) (fun c47 => ?_) (fun c47 => ?_)
  · replace hf := (if_pos c47).symm.trans hf
    refine fl_iconst C0 dX8_runs_493 ?_
    exact b_X8_runs_494 C0 hr hWT hk26 I a0 x1 x2 x3 t0 x5 4 a0 _ _ _ ka0 rx1 rx2 rx3 rt0 rx5 ((rgk 4 rfl)) ka0 hF46 (lv_sub hl [1, 2, 3, 4, 0, 5] rfl) hf
  · replace hf := (if_neg c47).symm.trans hf
    refine lv_aload_n C0.1 C0.2.1 dX8_runs_486 rfl (lv_at hl 1 rfl) ?_
    refine fl_geti (k := 25) ck_9 C0 hF46 ka0 rfl ⟨rfl, rfl⟩ aw_899 dX8_runs_487 ?_
    refine fl_goto (tgt := 494) C0 dX8_runs_490 (by decide) ?_
    exact b_X8_runs_494 C0 hr hWT hk26 I a0 x1 x2 x3 t0 x5 ((I a0 25)) a0 _ _ _ ka0 rx1 rx2 rx3 rt0 rx5 ((hF46.rI _ _)) ka0 hF46 (lv_sub hl [1, 2, 3, 4, 0, 5] rfl) hf
set_option maxRecDepth 100000 in
set_option maxHeartbeats 4000000 in
theorem b_X8_runs_461 {p : Program} {l : Launch} {e : Env} {s : State} {m : MethodId} {args : Array Value} {below : List Frame} {meth : Method} {c : Code} {D : va_G} {cy : Nat → ClassId} {B : Nat} {L : List Nat} {K : KT} {P : PT} {J : IT} {res : IT} (C0 : FC D cy B p s m meth c "RejudgeHallModel" cX8_runs 10) (hr : meth.sig.returnType = none) (hWT : WT K P) {k26 : IT → Nat → Int → Int → Int → Int → Int → Option (IT)} (hk26 : G_X8_runs_26 p l e s m args below meth c D cy B L K P J res k26) : G_X8_runs_461 p l e s m args below meth c D cy B L K P J res (f_X8_runs_461 K P k26) := by
  intro I a0 x1 x2 x3 x5 x7 H locs ls ka0 rx1 rx2 rx3 rx5 rx7 hF hl hf
  unfold f_X8_runs_461 at hf
  refine lv_iload C0.1 C0.2.1 dX8_runs_461 (lv_at hl 5 rfl) ?_
  refine fl_goto (tgt := 468) C0 dX8_runs_463 (by decide) ?_
  exact b_X8_runs_468 C0 hr hWT hk26 I a0 x1 x2 x3 x5 x7 _ _ _ ka0 rx1 rx2 rx3 rx5 rx7 hF (lv_sub hl [0, 1, 2, 3, 4] rfl) hf
set_option maxRecDepth 100000 in
set_option maxHeartbeats 4000000 in
theorem b_X8_runs_445 {p : Program} {l : Launch} {e : Env} {s : State} {m : MethodId} {args : Array Value} {below : List Frame} {meth : Method} {c : Code} {D : va_G} {cy : Nat → ClassId} {B : Nat} {L : List Nat} {K : KT} {P : PT} {J : IT} {res : IT} (C0 : FC D cy B p s m meth c "RejudgeHallModel" cX8_runs 10) (hr : meth.sig.returnType = none) (hWT : WT K P) {k26 : IT → Nat → Int → Int → Int → Int → Int → Option (IT)} (hk26 : G_X8_runs_26 p l e s m args below meth c D cy B L K P J res k26) : G_X8_runs_445 p l e s m args below meth c D cy B L K P J res (f_X8_runs_445 K P k26) := by
  intro I a0 x1 x2 x3 x4 x5 x6 x7 x8 t0 t1 b2 H locs ls ka0 rx1 rx2 rx3 rx4 rx5 rx6 rx7 rx8 rt0 rt1 kb2 hF hl hf
  unfold f_X8_runs_445 at hf
  refine fl_isub C0 dX8_runs_445 ?_
  refine fl_puti (k := 30) ck_9 C0 hF kb2 rfl (rg_wr _) ⟨rfl, rfl, rfl⟩ aw_904 dX8_runs_446 (fun H locs hF43 => ?_)
  obtain ⟨I43, eI43, hf⟩ := bnd_f hf
  rw [eI43] at hF43
  refine lv_iload C0.1 C0.2.1 dX8_runs_449 (lv_at hl 6 rfl) ?_
  refine fl_bipush C0 dX8_runs_451 (by decide) ?_
  refine fl_icmp_eq (tgt := 461) C0 rx6 (rgk 8 rfl) dX8_runs_453 (by decide) (fun c44 => ?_) (fun c44 => ?_)
  · replace hf := (if_pos c44).symm.trans hf
    exact b_X8_runs_461 C0 hr hWT hk26 I43 a0 x1 x2 x3 x5 x7 _ _ _ ka0 rx1 rx2 rx3 rx5 rx7 hF43 (lv_sub hl [0, 1, 2, 3, 5, 7] rfl) hf
  · replace hf := (if_neg c44).symm.trans hf
    refine lv_iload C0.1 C0.2.1 dX8_runs_456 (lv_at hl 8 rfl) ?_
    refine fl_if_ne (tgt := 466) C0 rx8 dX8_runs_458 (by decide) (fun c45 => ?_) (fun c45 => ?_)
    · replace hf := (if_neg c45).symm.trans hf
      refine lv_iload C0.1 C0.2.1 dX8_runs_466 (lv_at hl 4 rfl) ?_
      exact b_X8_runs_468 C0 hr hWT hk26 I43 a0 x1 x2 x3 x5 x4 _ _ _ ka0 rx1 rx2 rx3 rx5 rx4 hF43 (lv_sub hl [0, 1, 2, 3, 5] rfl) hf
    · replace hf := (if_pos c45).symm.trans hf
      exact b_X8_runs_461 C0 hr hWT hk26 I43 a0 x1 x2 x3 x5 x7 _ _ _ ka0 rx1 rx2 rx3 rx5 rx7 hF43 (lv_sub hl [0, 1, 2, 3, 5, 7] rfl) hf
set_option maxRecDepth 100000 in
set_option maxHeartbeats 4000000 in
theorem b_X8_runs_428 {p : Program} {l : Launch} {e : Env} {s : State} {m : MethodId} {args : Array Value} {below : List Frame} {meth : Method} {c : Code} {D : va_G} {cy : Nat → ClassId} {B : Nat} {L : List Nat} {K : KT} {P : PT} {J : IT} {res : IT} (C0 : FC D cy B p s m meth c "RejudgeHallModel" cX8_runs 10) (hr : meth.sig.returnType = none) (hWT : WT K P) {k26 : IT → Nat → Int → Int → Int → Int → Int → Option (IT)} (hk26 : G_X8_runs_26 p l e s m args below meth c D cy B L K P J res k26) : G_X8_runs_428 p l e s m args below meth c D cy B L K P J res (f_X8_runs_428 K P k26) := by
  intro I a0 x1 x2 x3 x4 x5 x6 x7 x8 H locs ls ka0 rx1 rx2 rx3 rx4 rx5 rx6 rx7 rx8 hF hl hf
  unfold f_X8_runs_428 at hf
  refine lv_aload_n C0.1 C0.2.1 dX8_runs_428 rfl (lv_at hl 0 rfl) ?_
  refine lv_dup C0.1 C0.2.1 dX8_runs_429 rfl ?_
  refine fl_geti (k := 30) ck_9 C0 hF ka0 rfl ⟨rfl, rfl⟩ aw_904 dX8_runs_430 ?_
  refine lv_iload C0.1 C0.2.1 dX8_runs_433 (lv_at hl 6 rfl) ?_
  refine fl_bipush C0 dX8_runs_435 (by decide) ?_
  refine fl_icmp_ne (tgt := 444) C0 rx6 (rgk 7 rfl) dX8_runs_437 (by decide) (fun c37 => ?_) (fun c37 => ?_)
  · replace hf := (if_neg c37).symm.trans hf
    refine fl_iconst C0 dX8_runs_444 ?_
    exact b_X8_runs_445 C0 hr hWT hk26 I a0 x1 x2 x3 x4 x5 x6 x7 x8 0 ((I a0 30)) a0 _ _ _ ka0 rx1 rx2 rx3 rx4 rx5 rx6 rx7 rx8 ((rgk 0 rfl)) ((hF.rI _ _)) ka0 hF (lv_sub hl [0, 1, 2, 3, 4, 5, 6, 7, 8] rfl) hf
  · replace hf := (if_pos c37).symm.trans hf
    refine fl_iconst C0 dX8_runs_440 ?_
    refine fl_goto (tgt := 445) C0 dX8_runs_441 (by decide) ?_
    exact b_X8_runs_445 C0 hr hWT hk26 I a0 x1 x2 x3 x4 x5 x6 x7 x8 1 ((I a0 30)) a0 _ _ _ ka0 rx1 rx2 rx3 rx4 rx5 rx6 rx7 rx8 ((rgk 1 rfl)) ((hF.rI _ _)) ka0 hF (lv_sub hl [0, 1, 2, 3, 4, 5, 6, 7, 8] rfl) hf
set_option maxRecDepth 100000 in
set_option maxHeartbeats 4000000 in
theorem b_X8_runs_180 {p : Program} {l : Launch} {e : Env} {s : State} {m : MethodId} {args : Array Value} {below : List Frame} {meth : Method} {c : Code} {D : va_G} {cy : Nat → ClassId} {B : Nat} {L : List Nat} {K : KT} {P : PT} {J : IT} {res : IT} (C0 : FC D cy B p s m meth c "RejudgeHallModel" cX8_runs 10) (hr : meth.sig.returnType = none) (hWT : WT K P) {k26 : IT → Nat → Int → Int → Int → Int → Int → Option (IT)} (hk26 : G_X8_runs_26 p l e s m args below meth c D cy B L K P J res k26) : G_X8_runs_180 p l e s m args below meth c D cy B L K P J res (f_X8_runs_180 K P k26) := by
  intro I a0 x1 x2 x3 x4 x5 x6 x7 x8 t0 H locs ls ka0 rx1 rx2 rx3 rx4 rx5 rx6 rx7 rx8 rt0 hF hl hf
  unfold f_X8_runs_180 at hf
  refine lv_istore (lv' := [(9, iv t0), (0, .ref a0), (1, iv x1), (2, iv x2), (3, iv x3), (4, iv x4), (5, iv x5), (6, iv x6), (7, iv x7), (8, iv x8)]) C0.1 C0.2.1 dX8_runs_180 hl (by decide) rfl (fun ls hl => ?_)
  refine lv_iload C0.1 C0.2.1 dX8_runs_182 (lv_at hl 7 rfl) ?_
  rcases Classical.em (x6 = 0) with c17 | c17
  · replace hf := (if_pos c17).symm.trans hf
    refine fl_tableIn (v := 0) (tgt := 240) C0 rx6 dX8_runs_184 c17 (by decide) rfl (by decide) ?_
    refine lv_aload_n C0.1 C0.2.1 dX8_runs_240 rfl (lv_at hl 1 rfl) ?_
    refine lv_aload_n C0.1 C0.2.1 dX8_runs_241 rfl (lv_at hl 1 rfl) ?_
    refine fl_getr (k := 5) (t := 1268) ck_9 C0 hF ka0 rfl (wt_at (k := 5) (t := 1268) hWT ka0 rfl) rfl ⟨rfl, rfl⟩ aw_879 dX8_runs_242 ?_
    refine fl_iconst C0 dX8_runs_245 ?_
    refine lv_iload_n C0.1 C0.2.1 dX8_runs_246 rfl (lv_at hl 3 rfl) ?_
    refine fl_imul C0 dX8_runs_247 ?_
    refine lv_iload C0.1 C0.2.1 dX8_runs_248 (lv_at hl 6 rfl) ?_
    refine fl_iadd C0 dX8_runs_250 ?_
    obtain ⟨hc, hf⟩ := ck_f hf
    refine fl_iald (n := 292) C0 hF (wt_at (k := 5) (t := 1268) hWT ka0 rfl) (rg_wr _) hc dX8_runs_251 ?_
    obtain ⟨I18, hq18, hf⟩ := bp_f hf
    refine fl_rv hF (fl_runV (As := [iv (I ((P a0 5)) ((wr ((wr (4 * x2)) + x5)) : Int).toNat)]) (rest := []) C0 hF hl.1 ck_9 ka0 rfl (c_X8_pushes l D cy B L K P J hWT I a0 ((I ((P a0 5)) ((wr ((wr (4 * x2)) + x5)) : Int).toNat)) ka0 ((hF.rI _ _)) hq18) aw_1026 aw_1028 aw_46 aw_73 aw_1029 rfl rfl pm_X8_pushes rfl rfl ⟨Nat.le_of_ble_eq_true rfl, Nat.le_of_ble_eq_true rfl⟩ rfl (Nat.le_of_ble_eq_true rfl) dX8_runs_252 ⟨Nat.le_of_ble_eq_true rfl, Nat.le_of_ble_eq_true rfl⟩) (fun H locs hF18 => ?_)
    refine fl_iinc (lv' := [(5, iv (wr (x5 + 1))), (9, iv t0), (0, .ref a0), (1, iv x1), (2, iv x2), (3, iv x3), (4, iv x4), (6, iv x6), (7, iv x7), (8, iv x8)]) C0 dX8_runs_255 hl (k := 6) rfl (by decide) rfl (fun ls hl => ?_)
    refine fl_goto (tgt := 497) C0 dX8_runs_258 (by decide) ?_
    exact b_X8_runs_497 C0 hr hWT hk26 I18 a0 x1 x2 x3 x4 ((wr (x5 + 1))) _ _ _ ka0 rx1 rx2 rx3 rx4 ((rg_wr _)) hF18 (lv_sub hl [2, 3, 4, 5, 6, 0] rfl) hf
  · replace hf := (if_neg c17).symm.trans hf
    rcases Classical.em (x6 = 1) with c19 | c19
    · replace hf := (if_pos c19).symm.trans hf
      refine fl_tableIn (v := 1) (tgt := 261) C0 rx6 dX8_runs_184 c19 (by decide) rfl (by decide) ?_
      refine lv_aload_n C0.1 C0.2.1 dX8_runs_261 rfl (lv_at hl 1 rfl) ?_
      refine lv_iload C0.1 C0.2.1 dX8_runs_262 (lv_at hl 8 rfl) ?_
      obtain ⟨I20, hq20, hf⟩ := bp_f hf
      refine fl_rv hF (fl_runV (As := [iv x7]) (rest := []) C0 hF hl.1 ck_9 ka0 rfl (c_X8_pushes l D cy B L K P J hWT I a0 x7 ka0 rx7 hq20) aw_1026 aw_1028 aw_46 aw_73 aw_1029 rfl rfl pm_X8_pushes rfl rfl ⟨Nat.le_of_ble_eq_true rfl, Nat.le_of_ble_eq_true rfl⟩ rfl (Nat.le_of_ble_eq_true rfl) dX8_runs_264 ⟨Nat.le_of_ble_eq_true rfl, Nat.le_of_ble_eq_true rfl⟩) (fun H locs hF20 => ?_)
      refine fl_goto (tgt := 497) C0 dX8_runs_267 (by decide) ?_
      exact b_X8_runs_497 C0 hr hWT hk26 I20 a0 x1 x2 x3 x4 x5 _ _ _ ka0 rx1 rx2 rx3 rx4 rx5 hF20 (lv_sub hl [1, 2, 3, 4, 5, 6] rfl) hf
    · replace hf := (if_neg c19).symm.trans hf
      rcases Classical.em (x6 = 2) with c21 | c21
      · replace hf := (if_pos c21).symm.trans hf
        refine fl_tableIn (v := 2) (tgt := 270) C0 rx6 dX8_runs_184 c21 (by decide) rfl (by decide) ?_
        exact b_X8_runs_270 C0 hr hWT hk26 I a0 x1 x2 x3 x4 x5 x6 x8 t0 _ _ _ ka0 rx1 rx2 rx3 rx4 rx5 rx6 rx8 rt0 hF (lv_sub hl [1, 2, 3, 4, 5, 6, 7, 9, 0] rfl) hf
      · replace hf := (if_neg c21).symm.trans hf
        rcases Classical.em (x6 = 3) with c22 | c22
        · replace hf := (if_pos c22).symm.trans hf
          refine fl_tableIn (v := 3) (tgt := 270) C0 rx6 dX8_runs_184 c22 (by decide) rfl (by decide) ?_
          exact b_X8_runs_270 C0 hr hWT hk26 I a0 x1 x2 x3 x4 x5 x6 x8 t0 _ _ _ ka0 rx1 rx2 rx3 rx4 rx5 rx6 rx8 rt0 hF (lv_sub hl [1, 2, 3, 4, 5, 6, 7, 9, 0] rfl) hf
        · replace hf := (if_neg c22).symm.trans hf
          rcases Classical.em (x6 = 4) with c23 | c23
          · replace hf := (if_pos c23).symm.trans hf
            refine fl_tableIn (v := 4) (tgt := 270) C0 rx6 dX8_runs_184 c23 (by decide) rfl (by decide) ?_
            exact b_X8_runs_270 C0 hr hWT hk26 I a0 x1 x2 x3 x4 x5 x6 x8 t0 _ _ _ ka0 rx1 rx2 rx3 rx4 rx5 rx6 rx8 rt0 hF (lv_sub hl [1, 2, 3, 4, 5, 6, 7, 9, 0] rfl) hf
          · replace hf := (if_neg c23).symm.trans hf
            rcases Classical.em (x6 = 5) with c24 | c24
            · replace hf := (if_pos c24).symm.trans hf
              refine fl_tableIn (v := 5) (tgt := 326) C0 rx6 dX8_runs_184 c24 (by decide) rfl (by decide) ?_
              refine lv_aload_n C0.1 C0.2.1 dX8_runs_326 rfl (lv_at hl 1 rfl) ?_
              refine lv_iload C0.1 C0.2.1 dX8_runs_327 (lv_at hl 9 rfl) ?_
              obtain ⟨I25, hq25, hf⟩ := bp_f hf
              refine fl_rv hF (fl_runV (As := [iv x8]) (rest := []) C0 hF hl.1 ck_9 ka0 rfl (c_X8_pushes l D cy B L K P J hWT I a0 x8 ka0 rx8 hq25) aw_1026 aw_1028 aw_46 aw_73 aw_1029 rfl rfl pm_X8_pushes rfl rfl ⟨Nat.le_of_ble_eq_true rfl, Nat.le_of_ble_eq_true rfl⟩ rfl (Nat.le_of_ble_eq_true rfl) dX8_runs_329 ⟨Nat.le_of_ble_eq_true rfl, Nat.le_of_ble_eq_true rfl⟩) (fun H locs hF25 => ?_)
              refine fl_goto (tgt := 497) C0 dX8_runs_332 (by decide) ?_
              exact b_X8_runs_497 C0 hr hWT hk26 I25 a0 x1 x2 x3 x4 x5 _ _ _ ka0 rx1 rx2 rx3 rx4 rx5 hF25 (lv_sub hl [1, 2, 3, 4, 5, 6] rfl) hf
            · replace hf := (if_neg c24).symm.trans hf
              rcases Classical.em (x6 = 6) with c26 | c26
              · replace hf := (if_pos c26).symm.trans hf
                refine fl_tableIn (v := 6) (tgt := 335) C0 rx6 dX8_runs_184 c26 (by decide) rfl (by decide) ?_
                refine lv_aload_n C0.1 C0.2.1 dX8_runs_335 rfl (lv_at hl 1 rfl) ?_
                refine fl_getr (k := 29) (t := 132) ck_9 C0 hF ka0 rfl (wt_at (k := 29) (t := 132) hWT ka0 rfl) rfl ⟨rfl, rfl⟩ aw_903 dX8_runs_336 ?_
                refine lv_aload_n C0.1 C0.2.1 dX8_runs_339 rfl (lv_at hl 1 rfl) ?_
                refine fl_geti (k := 30) ck_9 C0 hF ka0 rfl ⟨rfl, rfl⟩ aw_904 dX8_runs_340 ?_
                refine fl_iconst C0 dX8_runs_343 ?_
                refine fl_isub C0 dX8_runs_344 ?_
                refine lv_iload C0.1 C0.2.1 dX8_runs_345 (lv_at hl 0 rfl) ?_
                obtain ⟨hc, hf⟩ := ck_f hf
                refine fl_iast (n := 8) C0 hF (wt_at (k := 29) (t := 132) hWT ka0 rfl) (rg_wr _) rt0 hc dX8_runs_347 (fun H locs hF27 => ?_)
                obtain ⟨I27, eI27, hf⟩ := bnd_f hf
                rw [eI27] at hF27
                refine lv_aload_n C0.1 C0.2.1 dX8_runs_348 rfl (lv_at hl 1 rfl) ?_
                refine fl_getr (k := 29) (t := 132) ck_9 C0 hF27 ka0 rfl (wt_at (k := 29) (t := 132) hWT ka0 rfl) rfl ⟨rfl, rfl⟩ aw_903 dX8_runs_349 ?_
                refine lv_aload_n C0.1 C0.2.1 dX8_runs_352 rfl (lv_at hl 1 rfl) ?_
                refine fl_geti (k := 30) ck_9 C0 hF27 ka0 rfl ⟨rfl, rfl⟩ aw_904 dX8_runs_353 ?_
                refine fl_iconst C0 dX8_runs_356 ?_
                refine fl_isub C0 dX8_runs_357 ?_
                refine lv_iload C0.1 C0.2.1 dX8_runs_358 (lv_at hl 9 rfl) ?_
                obtain ⟨hc, hf⟩ := ck_f hf
                refine fl_iast (n := 8) C0 hF27 (wt_at (k := 29) (t := 132) hWT ka0 rfl) (rg_wr _) rx8 hc dX8_runs_360 (fun H locs hF28 => ?_)
                obtain ⟨I28, eI28, hf⟩ := bnd_f hf
                rw [eI28] at hF28
                refine fl_goto (tgt := 497) C0 dX8_runs_361 (by decide) ?_
                exact b_X8_runs_497 C0 hr hWT hk26 I28 a0 x1 x2 x3 x4 x5 _ _ _ ka0 rx1 rx2 rx3 rx4 rx5 hF28 (lv_sub hl [1, 2, 3, 4, 5, 6] rfl) hf
              · replace hf := (if_neg c26).symm.trans hf
                rcases Classical.em (x6 = 7) with c29 | c29
                · replace hf := (if_pos c29).symm.trans hf
                  refine fl_tableIn (v := 7) (tgt := 428) C0 rx6 dX8_runs_184 c29 (by decide) rfl (by decide) ?_
                  exact b_X8_runs_428 C0 hr hWT hk26 I a0 x1 x2 x3 x4 x5 x6 x7 x8 _ _ _ ka0 rx1 rx2 rx3 rx4 rx5 rx6 rx7 rx8 hF (lv_sub hl [1, 2, 3, 4, 5, 6, 7, 8, 9] rfl) hf
                · replace hf := (if_neg c29).symm.trans hf
                  rcases Classical.em (x6 = 8) with c30 | c30
                  · replace hf := (if_pos c30).symm.trans hf
                    refine fl_tableIn (v := 8) (tgt := 428) C0 rx6 dX8_runs_184 c30 (by decide) rfl (by decide) ?_
                    exact b_X8_runs_428 C0 hr hWT hk26 I a0 x1 x2 x3 x4 x5 x6 x7 x8 _ _ _ ka0 rx1 rx2 rx3 rx4 rx5 rx6 rx7 rx8 hF (lv_sub hl [1, 2, 3, 4, 5, 6, 7, 8, 9] rfl) hf
                  · replace hf := (if_neg c30).symm.trans hf
                    rcases Classical.em (x6 = 9) with c31 | c31
                    · replace hf := (if_pos c31).symm.trans hf
                      refine fl_tableIn (v := 9) (tgt := 364) C0 rx6 dX8_runs_184 c31 (by decide) rfl (by decide) ?_
                      refine lv_aload_n C0.1 C0.2.1 dX8_runs_364 rfl (lv_at hl 1 rfl) ?_
                      refine lv_dup C0.1 C0.2.1 dX8_runs_365 rfl ?_
                      refine fl_geti (k := 30) ck_9 C0 hF ka0 rfl ⟨rfl, rfl⟩ aw_904 dX8_runs_366 ?_
                      refine fl_iconst C0 dX8_runs_369 ?_
                      refine fl_isub C0 dX8_runs_370 ?_
                      refine fl_puti (k := 30) ck_9 C0 hF ka0 rfl (rg_wr _) ⟨rfl, rfl, rfl⟩ aw_904 dX8_runs_371 (fun H locs hF32 => ?_)
                      obtain ⟨I32, eI32, hf⟩ := bnd_f hf
                      rw [eI32] at hF32
                      refine lv_aload_n C0.1 C0.2.1 dX8_runs_374 rfl (lv_at hl 1 rfl) ?_
                      refine lv_aload_n C0.1 C0.2.1 dX8_runs_375 rfl (lv_at hl 1 rfl) ?_
                      refine fl_geti (k := 27) ck_9 C0 hF32 ka0 rfl ⟨rfl, rfl⟩ aw_901 dX8_runs_376 ?_
                      refine fl_bipush C0 dX8_runs_379 (by decide) ?_
                      refine fl_icmp_ne (tgt := 388) C0 (hF32.rI _ _) (rgk 8 rfl) dX8_runs_381 (by decide) (fun c33 => ?_) (fun c33 => ?_)
                      · replace hf := (if_neg c33).symm.trans hf
                        refine lv_aload_n C0.1 C0.2.1 dX8_runs_388 rfl (lv_at hl 1 rfl) ?_
                        refine fl_geti (k := 25) ck_9 C0 hF32 ka0 rfl ⟨rfl, rfl⟩ aw_899 dX8_runs_389 ?_
                        exact b_X8_runs_392 C0 hr hWT hk26 I32 a0 x1 x2 x3 x4 x5 x8 ((I32 a0 25)) a0 _ _ _ ka0 rx1 rx2 rx3 rx4 rx5 rx8 ((hF32.rI _ _)) ka0 hF32 (lv_sub hl [1, 2, 3, 4, 5, 6, 9] rfl) hf
                      · replace hf := (if_pos c33).symm.trans hf
                        refine fl_iconst C0 dX8_runs_384 ?_
                        refine fl_goto (tgt := 392) C0 dX8_runs_385 (by decide) ?_
                        exact b_X8_runs_392 C0 hr hWT hk26 I32 a0 x1 x2 x3 x4 x5 x8 3 a0 _ _ _ ka0 rx1 rx2 rx3 rx4 rx5 rx8 ((rgk 3 rfl)) ka0 hF32 (lv_sub hl [1, 2, 3, 4, 5, 6, 9] rfl) hf
                    · replace hf := (if_neg c31).symm.trans hf
                      refine fl_tableOut (tgt := 428) C0 rx6 dX8_runs_184 (by omega) (by decide) ?_
                      exact b_X8_runs_428 C0 hr hWT hk26 I a0 x1 x2 x3 x4 x5 x6 x7 x8 _ _ _ ka0 rx1 rx2 rx3 rx4 rx5 rx6 rx7 rx8 hF (lv_sub hl [1, 2, 3, 4, 5, 6, 7, 8, 9] rfl) hf
set_option maxRecDepth 100000 in
set_option maxHeartbeats 4000000 in
theorem b_X8_runs_155 {p : Program} {l : Launch} {e : Env} {s : State} {m : MethodId} {args : Array Value} {below : List Frame} {meth : Method} {c : Code} {D : va_G} {cy : Nat → ClassId} {B : Nat} {L : List Nat} {K : KT} {P : PT} {J : IT} {res : IT} (C0 : FC D cy B p s m meth c "RejudgeHallModel" cX8_runs 10) (hr : meth.sig.returnType = none) (hWT : WT K P) {k26 : IT → Nat → Int → Int → Int → Int → Int → Option (IT)} (hk26 : G_X8_runs_26 p l e s m args below meth c D cy B L K P J res k26) : G_X8_runs_155 p l e s m args below meth c D cy B L K P J res (f_X8_runs_155 K P k26) := by
  intro I a0 x1 x2 x3 x4 x5 x6 x7 t0 H locs ls ka0 rx1 rx2 rx3 rx4 rx5 rx6 rx7 rt0 hF hl hf
  unfold f_X8_runs_155 at hf
  refine lv_istore (lv' := [(8, iv t0), (0, .ref a0), (1, iv x1), (2, iv x2), (3, iv x3), (4, iv x4), (5, iv x5), (6, iv x6), (7, iv x7)]) C0.1 C0.2.1 dX8_runs_155 hl (by decide) rfl (fun ls hl => ?_)
  refine lv_aload_n C0.1 C0.2.1 dX8_runs_157 rfl (lv_at hl 1 rfl) ?_
  refine fl_geti (k := 30) ck_9 C0 hF ka0 rfl ⟨rfl, rfl⟩ aw_904 dX8_runs_158 ?_
  refine fl_iconst C0 dX8_runs_161 ?_
  refine fl_icmp_le (tgt := 179) C0 (hF.rI _ _) (rgk 1 rfl) dX8_runs_162 (by decide) (fun c16 => ?_) (fun c16 => ?_)
  · replace hf := (if_pos c16).symm.trans hf
    refine fl_iconst C0 dX8_runs_179 ?_
    exact b_X8_runs_180 C0 hr hWT hk26 I a0 x1 x2 x3 x4 x5 x6 x7 t0 0 _ _ _ ka0 rx1 rx2 rx3 rx4 rx5 rx6 rx7 rt0 ((rgk 0 rfl)) hF (lv_sub hl [1, 2, 3, 4, 5, 6, 7, 8, 0] rfl) hf
  · replace hf := (if_neg c16).symm.trans hf
    refine lv_aload_n C0.1 C0.2.1 dX8_runs_165 rfl (lv_at hl 1 rfl) ?_
    refine fl_getr (k := 29) (t := 132) ck_9 C0 hF ka0 rfl (wt_at (k := 29) (t := 132) hWT ka0 rfl) rfl ⟨rfl, rfl⟩ aw_903 dX8_runs_166 ?_
    refine lv_aload_n C0.1 C0.2.1 dX8_runs_169 rfl (lv_at hl 1 rfl) ?_
    refine fl_geti (k := 30) ck_9 C0 hF ka0 rfl ⟨rfl, rfl⟩ aw_904 dX8_runs_170 ?_
    refine fl_iconst C0 dX8_runs_173 ?_
    refine fl_isub C0 dX8_runs_174 ?_
    obtain ⟨hc, hf⟩ := ck_f hf
    refine fl_iald (n := 8) C0 hF (wt_at (k := 29) (t := 132) hWT ka0 rfl) (rg_wr _) hc dX8_runs_175 ?_
    refine fl_goto (tgt := 180) C0 dX8_runs_176 (by decide) ?_
    exact b_X8_runs_180 C0 hr hWT hk26 I a0 x1 x2 x3 x4 x5 x6 x7 t0 ((I ((P a0 29)) ((wr ((I a0 30) - 2)) : Int).toNat)) _ _ _ ka0 rx1 rx2 rx3 rx4 rx5 rx6 rx7 rt0 ((hF.rI _ _)) hF (lv_sub hl [1, 2, 3, 4, 5, 6, 7, 8, 0] rfl) hf
set_option maxRecDepth 100000 in
set_option maxHeartbeats 4000000 in
theorem b_X8_runs_133 {p : Program} {l : Launch} {e : Env} {s : State} {m : MethodId} {args : Array Value} {below : List Frame} {meth : Method} {c : Code} {D : va_G} {cy : Nat → ClassId} {B : Nat} {L : List Nat} {K : KT} {P : PT} {J : IT} {res : IT} (C0 : FC D cy B p s m meth c "RejudgeHallModel" cX8_runs 10) (hr : meth.sig.returnType = none) (hWT : WT K P) {k26 : IT → Nat → Int → Int → Int → Int → Int → Option (IT)} (hk26 : G_X8_runs_26 p l e s m args below meth c D cy B L K P J res k26) : G_X8_runs_133 p l e s m args below meth c D cy B L K P J res (f_X8_runs_133 K P k26) := by
  intro I a0 x1 x2 x3 x4 x5 x6 x7 H locs ls ka0 rx1 rx2 rx3 rx4 rx5 rx6 rx7 hF hl hf
  unfold f_X8_runs_133 at hf
  refine lv_aload_n C0.1 C0.2.1 dX8_runs_133 rfl (lv_at hl 0 rfl) ?_
  refine fl_geti (k := 30) ck_9 C0 hF ka0 rfl ⟨rfl, rfl⟩ aw_904 dX8_runs_134 ?_
  refine fl_if_le (tgt := 154) C0 (hF.rI _ _) dX8_runs_137 (by decide) (fun c14 => ?_) (fun c14 => ?_)
  · replace hf := (if_pos c14).symm.trans hf
    refine fl_iconst C0 dX8_runs_154 ?_
    exact b_X8_runs_155 C0 hr hWT hk26 I a0 x1 x2 x3 x4 x5 x6 x7 0 _ _ _ ka0 rx1 rx2 rx3 rx4 rx5 rx6 rx7 ((rgk 0 rfl)) hF (lv_sub hl [0, 1, 2, 3, 4, 5, 6, 7] rfl) hf
  · replace hf := (if_neg c14).symm.trans hf
    refine lv_aload_n C0.1 C0.2.1 dX8_runs_140 rfl (lv_at hl 0 rfl) ?_
    refine fl_getr (k := 29) (t := 132) ck_9 C0 hF ka0 rfl (wt_at (k := 29) (t := 132) hWT ka0 rfl) rfl ⟨rfl, rfl⟩ aw_903 dX8_runs_141 ?_
    refine lv_aload_n C0.1 C0.2.1 dX8_runs_144 rfl (lv_at hl 0 rfl) ?_
    refine fl_geti (k := 30) ck_9 C0 hF ka0 rfl ⟨rfl, rfl⟩ aw_904 dX8_runs_145 ?_
    refine fl_iconst C0 dX8_runs_148 ?_
    refine fl_isub C0 dX8_runs_149 ?_
    obtain ⟨hc, hf⟩ := ck_f hf
    refine fl_iald (n := 8) C0 hF (wt_at (k := 29) (t := 132) hWT ka0 rfl) (rg_wr _) hc dX8_runs_150 ?_
    refine fl_goto (tgt := 155) C0 dX8_runs_151 (by decide) ?_
    exact b_X8_runs_155 C0 hr hWT hk26 I a0 x1 x2 x3 x4 x5 x6 x7 ((I ((P a0 29)) ((wr ((I a0 30) - 1)) : Int).toNat)) _ _ _ ka0 rx1 rx2 rx3 rx4 rx5 rx6 rx7 ((hF.rI _ _)) hF (lv_sub hl [0, 1, 2, 3, 4, 5, 6, 7] rfl) hf
set_option maxRecDepth 100000 in
set_option maxHeartbeats 4000000 in
theorem b_X8_runs_26 {p : Program} {l : Launch} {e : Env} {s : State} {m : MethodId} {args : Array Value} {below : List Frame} {meth : Method} {c : Code} {D : va_G} {cy : Nat → ClassId} {B : Nat} {L : List Nat} {K : KT} {P : PT} {J : IT} {res : IT} (C0 : FC D cy B p s m meth c "RejudgeHallModel" cX8_runs 10) (hr : meth.sig.returnType = none) (hWT : WT K P) : ∀ n : Nat, G_X8_runs_26 p l e s m args below meth c D cy B L K P J res (f_X8_runs_26 K P  n)
  | 0 => by
    intro I a0 x1 x2 x3 x4 x5 H locs ls ka0 rx1 rx2 rx3 rx4 rx5 hF hl hf
    cases hf
  | n + 1 => by
    have ih : G_X8_runs_26 p l e s m args below meth c D cy B L K P J res (f_X8_runs_26 K P  n)  := b_X8_runs_26 C0 hr hWT  n
    intro I a0 x1 x2 x3 x4 x5 H locs ls ka0 rx1 rx2 rx3 rx4 rx5 hF hl hf
    rw [f_X8_runs_26] at hf
    refine lv_aload_n C0.1 C0.2.1 dX8_runs_26 rfl (lv_at hl 0 rfl) ?_
    refine fl_geti (k := 25) ck_9 C0 hF ka0 rfl ⟨rfl, rfl⟩ aw_899 dX8_runs_27 ?_
    refine fl_if_ne (tgt := 500) C0 (hF.rI _ _) dX8_runs_30 (by decide) (fun c5 => ?_) (fun c5 => ?_)
    · replace hf := (if_neg c5).symm.trans hf
      cases hf
      exact fl_vret C0 hF hr rfl dX8_runs_500
    · replace hf := (if_pos c5).symm.trans hf
      refine lv_iload C0.1 C0.2.1 dX8_runs_33 (lv_at hl 4 rfl) ?_
      refine lv_aload_n C0.1 C0.2.1 dX8_runs_35 rfl (lv_at hl 0 rfl) ?_
      refine fl_getr (k := 1) (t := 368) ck_9 C0 hF ka0 rfl (wt_at (k := 1) (t := 368) hWT ka0 rfl) rfl ⟨rfl, rfl⟩ aw_875 dX8_runs_36 ?_
      refine lv_iload_n C0.1 C0.2.1 dX8_runs_39 rfl (lv_at hl 1 rfl) ?_
      obtain ⟨hc, hf⟩ := ck_f hf
      refine fl_iald (n := 67) C0 hF (wt_at (k := 1) (t := 368) hWT ka0 rfl) rx1 hc dX8_runs_40 ?_
      refine fl_icmp_ge (tgt := 500) C0 rx4 (hF.rI _ _) dX8_runs_41 (by decide) (fun c6 => ?_) (fun c6 => ?_)
      · replace hf := (if_pos c6).symm.trans hf
        cases hf
        exact fl_vret C0 hF hr rfl dX8_runs_500
      · replace hf := (if_neg c6).symm.trans hf
        refine lv_aload_n C0.1 C0.2.1 dX8_runs_44 rfl (lv_at hl 0 rfl) ?_
        refine fl_geti (k := 26) ck_9 C0 hF ka0 rfl ⟨rfl, rfl⟩ aw_900 dX8_runs_45 ?_
        refine lv_iload_n C0.1 C0.2.1 dX8_runs_48 rfl (lv_at hl 3 rfl) ?_
        refine fl_icmp_ne (tgt := 58) C0 (hF.rI _ _) rx3 dX8_runs_49 (by decide) (fun c7 => ?_) (fun c7 => ?_)
        · replace hf := (if_neg c7).symm.trans hf
          refine lv_aload_n C0.1 C0.2.1 dX8_runs_58 rfl (lv_at hl 0 rfl) ?_
          refine lv_dup C0.1 C0.2.1 dX8_runs_59 rfl ?_
          refine fl_geti (k := 26) ck_9 C0 hF ka0 rfl ⟨rfl, rfl⟩ aw_900 dX8_runs_60 ?_
          refine fl_iconst C0 dX8_runs_63 ?_
          refine fl_iadd C0 dX8_runs_64 ?_
          refine fl_puti (k := 26) ck_9 C0 hF ka0 rfl (rg_wr _) ⟨rfl, rfl, rfl⟩ aw_900 dX8_runs_65 (fun H locs hF8 => ?_)
          obtain ⟨I8, eI8, hf⟩ := bnd_f hf
          rw [eI8] at hF8
          refine lv_aload_n C0.1 C0.2.1 dX8_runs_68 rfl (lv_at hl 0 rfl) ?_
          refine fl_getr (k := 2) (t := 4388) ck_9 C0 hF8 ka0 rfl (wt_at (k := 2) (t := 4388) hWT ka0 rfl) rfl ⟨rfl, rfl⟩ aw_876 dX8_runs_69 ?_
          refine fl_bipush C0 dX8_runs_72 (by decide) ?_
          refine lv_iload_n C0.1 C0.2.1 dX8_runs_74 rfl (lv_at hl 1 rfl) ?_
          refine fl_imul C0 dX8_runs_75 ?_
          refine lv_iload C0.1 C0.2.1 dX8_runs_76 (lv_at hl 4 rfl) ?_
          refine fl_iadd C0 dX8_runs_78 ?_
          obtain ⟨hc, hf⟩ := ck_f hf
          refine fl_iald (n := 1072) C0 hF8 (wt_at (k := 2) (t := 4388) hWT ka0 rfl) (rg_wr _) hc dX8_runs_79 ?_
          refine lv_istore (lv' := [(6, iv (I8 ((P a0 2)) ((wr ((wr (16 * x1)) + x4)) : Int).toNat)), (0, .ref a0), (1, iv x1), (2, iv x2), (3, iv x3), (4, iv x4), (5, iv x5)]) C0.1 C0.2.1 dX8_runs_80 hl (by decide) rfl (fun ls hl => ?_)
          refine lv_aload_n C0.1 C0.2.1 dX8_runs_82 rfl (lv_at hl 1 rfl) ?_
          refine fl_getr (k := 3) (t := 4388) ck_9 C0 hF8 ka0 rfl (wt_at (k := 3) (t := 4388) hWT ka0 rfl) rfl ⟨rfl, rfl⟩ aw_877 dX8_runs_83 ?_
          refine fl_bipush C0 dX8_runs_86 (by decide) ?_
          refine lv_iload_n C0.1 C0.2.1 dX8_runs_88 rfl (lv_at hl 2 rfl) ?_
          refine fl_imul C0 dX8_runs_89 ?_
          refine lv_iload C0.1 C0.2.1 dX8_runs_90 (lv_at hl 5 rfl) ?_
          refine fl_iadd C0 dX8_runs_92 ?_
          obtain ⟨hc, hf⟩ := ck_f hf
          refine fl_iald (n := 1072) C0 hF8 (wt_at (k := 3) (t := 4388) hWT ka0 rfl) (rg_wr _) hc dX8_runs_93 ?_
          refine lv_istore (lv' := [(7, iv (I8 ((P a0 3)) ((wr ((wr (16 * x1)) + x4)) : Int).toNat)), (6, iv (I8 ((P a0 2)) ((wr ((wr (16 * x1)) + x4)) : Int).toNat)), (0, .ref a0), (1, iv x1), (2, iv x2), (3, iv x3), (4, iv x4), (5, iv x5)]) C0.1 C0.2.1 dX8_runs_94 hl (by decide) rfl (fun ls hl => ?_)
          refine fl_iinc (lv' := [(4, iv (wr (x4 + 1))), (7, iv (I8 ((P a0 3)) ((wr ((wr (16 * x1)) + x4)) : Int).toNat)), (6, iv (I8 ((P a0 2)) ((wr ((wr (16 * x1)) + x4)) : Int).toNat)), (0, .ref a0), (1, iv x1), (2, iv x2), (3, iv x3), (5, iv x5)]) C0 dX8_runs_96 hl (k := 6) rfl (by decide) rfl (fun ls hl => ?_)
          refine lv_aload_n C0.1 C0.2.1 dX8_runs_99 rfl (lv_at hl 3 rfl) ?_
          refine fl_geti (k := 30) ck_9 C0 hF8 ka0 rfl ⟨rfl, rfl⟩ aw_904 dX8_runs_100 ?_
          refine lv_iload C0.1 C0.2.1 dX8_runs_103 (lv_at hl 2 rfl) ?_
          obtain ⟨r9, hq9, hf⟩ := bp_f hf
          refine fl_ri hF8 (fl_runSG (As := [iv (I8 ((P a0 2)) ((wr ((wr (16 * x1)) + x4)) : Int).toNat)]) (rest := [iv (I8 a0 30)]) C0 hF8 hl.1 (c_X8_needs l D cy B L K P J hWT I8 ((I8 ((P a0 2)) ((wr ((wr (16 * x1)) + x4)) : Int).toNat)) ((hF8.rI _ _)) hq9) aw_1023 aw_1024 aw_73 aw_1025 rfl pm_X8_needs rfl rfl ⟨Nat.le_of_ble_eq_true rfl, Nat.le_of_ble_eq_true rfl⟩ rfl (Nat.le_of_ble_eq_true rfl) dX8_runs_105 ⟨Nat.le_of_ble_eq_true rfl, Nat.le_of_ble_eq_true rfl⟩) (fun H locs hF9 rr9 => ?_)
          refine fl_icmp_lt (tgt := 127) C0 (hF8.rI _ _) rr9 dX8_runs_108 (by decide) (fun c10 => ?_) (fun c10 => ?_)
          · replace hf := (if_pos c10).symm.trans hf
            exact b_X8_runs_127 C0 hr hWT  I8 a0 _ _ _ ka0 hF9 (lv_sub hl [3] rfl) hf
          · replace hf := (if_neg c10).symm.trans hf
            refine lv_iload C0.1 C0.2.1 dX8_runs_111 (lv_at hl 2 rfl) ?_
            refine fl_if_ne (tgt := 133) C0 (hF8.rI _ _) dX8_runs_113 (by decide) (fun c11 => ?_) (fun c11 => ?_)
            · replace hf := (if_neg c11).symm.trans hf
              exact b_X8_runs_133 C0 hr hWT ih I8 a0 x1 x2 x3 ((wr (x4 + 1))) x5 ((I8 ((P a0 2)) ((wr ((wr (16 * x1)) + x4)) : Int).toNat)) ((I8 ((P a0 3)) ((wr ((wr (16 * x1)) + x4)) : Int).toNat)) _ _ _ ka0 rx1 rx2 rx3 ((rg_wr _)) rx5 ((hF8.rI _ _)) ((hF8.rI _ _)) hF9 (lv_sub hl [3, 4, 5, 6, 0, 7, 2, 1] rfl) hf
            · replace hf := (if_pos c11).symm.trans hf
              refine lv_iload C0.1 C0.2.1 dX8_runs_116 (lv_at hl 7 rfl) ?_
              refine lv_aload_n C0.1 C0.2.1 dX8_runs_118 rfl (lv_at hl 3 rfl) ?_
              refine fl_getr (k := 4) (t := 392) ck_9 C0 hF9 ka0 rfl (wt_at (k := 4) (t := 392) hWT ka0 rfl) rfl ⟨rfl, rfl⟩ aw_878 dX8_runs_119 ?_
              refine lv_iload_n C0.1 C0.2.1 dX8_runs_122 rfl (lv_at hl 5 rfl) ?_
              obtain ⟨hc, hf⟩ := ck_f hf
              refine fl_iald (n := 73) C0 hF9 (wt_at (k := 4) (t := 392) hWT ka0 rfl) rx2 hc dX8_runs_123 ?_
              refine fl_icmp_ne (tgt := 133) C0 rx5 (hF9.rI _ _) dX8_runs_124 (by decide) (fun c12 => ?_) (fun c12 => ?_)
              · replace hf := (if_neg c12).symm.trans hf
                exact b_X8_runs_133 C0 hr hWT ih I8 a0 x1 x2 x3 ((wr (x4 + 1))) x5 ((I8 ((P a0 2)) ((wr ((wr (16 * x1)) + x4)) : Int).toNat)) ((I8 ((P a0 3)) ((wr ((wr (16 * x1)) + x4)) : Int).toNat)) _ _ _ ka0 rx1 rx2 rx3 ((rg_wr _)) rx5 ((hF8.rI _ _)) ((hF8.rI _ _)) hF9 (lv_sub hl [3, 4, 5, 6, 0, 7, 2, 1] rfl) hf
              · replace hf := (if_pos c12).symm.trans hf
                exact b_X8_runs_127 C0 hr hWT  I8 a0 _ _ _ ka0 hF9 (lv_sub hl [3] rfl) hf
        · replace hf := (if_pos c7).symm.trans hf
          exact b_X8_runs_52 C0 hr hWT  I a0 _ _ _ ka0 hF (lv_sub hl [0] rfl) hf
theorem pm_X8_runs : plainM yX8_runs 3 := by decide +kernel
set_option maxRecDepth 100000 in
set_option maxHeartbeats 4000000 in
theorem c_X8_runs (l : Launch) (D : va_G) (cy : Nat → ClassId) (B : Nat) (L : List Nat) (K : KT) (P : PT) (J : IT) (hWT : WT K P) (I : IT) (a0 : Nat) (x1 : Int) (x2 : Int) (x3 : Int) (ka0 : K a0 = 9) (rx1 : rg x1) (rx2 : rg x2) (rx3 : rg x3) {I' : IT} (hf : f_X8_runs K P I a0 x1 x2 x3 = some I') : Met l yX8_runs [.code yX8_runs cX8_runs 10 none] rm_X8_runs (va_Pc [.ref a0, iv x1, iv x2, iv x3] (FW D cy B L K P J I)) (QV D cy B L K P J I') 0 0 (fun q => B ≤ q) := by
  refine fl_body (own := "RejudgeHallModel") [.ref a0, iv x1, iv x2, iv x3] (by decide) rfl (Nat.le_of_ble_eq_true rfl) ?_
  intro p e s m args below meth c ls C0 hr hF hl
  have hl : lv_has ls 10 [(0, .ref a0), (1, iv x1), (2, iv x2), (3, iv x3)] := hl
  unfold f_X8_runs at hf
  refine lv_aload_n C0.1 C0.2.1 dX8_runs_0 rfl (lv_at hl 0 rfl) ?_
  refine fl_iconst C0 dX8_runs_1 ?_
  refine fl_puti (k := 25) ck_9 C0 hF ka0 rfl (rgk 0 rfl) ⟨rfl, rfl, rfl⟩ aw_899 dX8_runs_2 (fun H locs hF1 => ?_)
  obtain ⟨I1, eI1, hf⟩ := bnd_f hf
  rw [eI1] at hF1
  refine lv_aload_n C0.1 C0.2.1 dX8_runs_5 rfl (lv_at hl 0 rfl) ?_
  refine fl_iconst C0 dX8_runs_6 ?_
  refine fl_puti (k := 26) ck_9 C0 hF1 ka0 rfl (rgk 0 rfl) ⟨rfl, rfl, rfl⟩ aw_900 dX8_runs_7 (fun H locs hF2 => ?_)
  obtain ⟨I2, eI2, hf⟩ := bnd_f hf
  rw [eI2] at hF2
  refine lv_aload_n C0.1 C0.2.1 dX8_runs_10 rfl (lv_at hl 0 rfl) ?_
  refine fl_iconst C0 dX8_runs_11 ?_
  refine fl_puti (k := 27) ck_9 C0 hF2 ka0 rfl (rgk 0 rfl) ⟨rfl, rfl, rfl⟩ aw_901 dX8_runs_12 (fun H locs hF3 => ?_)
  obtain ⟨I3, eI3, hf⟩ := bnd_f hf
  rw [eI3] at hF3
  refine lv_aload_n C0.1 C0.2.1 dX8_runs_15 rfl (lv_at hl 0 rfl) ?_
  refine fl_iconst C0 dX8_runs_16 ?_
  refine fl_puti (k := 30) ck_9 C0 hF3 ka0 rfl (rgk 0 rfl) ⟨rfl, rfl, rfl⟩ aw_904 dX8_runs_17 (fun H locs hF4 => ?_)
  obtain ⟨I4, eI4, hf⟩ := bnd_f hf
  rw [eI4] at hF4
  refine fl_iconst C0 dX8_runs_20 ?_
  refine lv_istore (lv' := [(4, iv 0), (0, .ref a0), (1, iv x1), (2, iv x2), (3, iv x3)]) C0.1 C0.2.1 dX8_runs_21 hl (by decide) rfl (fun ls hl => ?_)
  refine fl_iconst C0 dX8_runs_23 ?_
  refine lv_istore (lv' := [(5, iv 0), (4, iv 0), (0, .ref a0), (1, iv x1), (2, iv x2), (3, iv x3)]) C0.1 C0.2.1 dX8_runs_24 hl (by decide) rfl (fun ls hl => ?_)
  exact b_X8_runs_26 C0 hr hWT  FU I4 a0 x1 x2 x3 0 0 _ _ _ ka0 rx1 rx2 rx3 ((rgk 0 rfl)) ((rgk 0 rfl)) hF4 (lv_sub hl [2, 3, 4, 5, 1, 0] rfl) hf
-- RejudgeHallModel.empties(I)V
abbrev rm_X8_empties : Room := { frames := 0, cells := 0, slots := 0, locals := 0 }
def f_X8_empties (K : KT) (P : PT) (I : IT) (a0 : Nat) (x1 : Int) : Option (IT) := ck (0 ≤ x1 ∧ x1 < 67) <| bnd (up I ((P a0 1)) (x1 : Int).toNat 0) fun I1 => some I1
theorem pm_X8_empties : plainM yX8_empties 1 := by decide +kernel
set_option maxRecDepth 100000 in
set_option maxHeartbeats 4000000 in
theorem c_X8_empties (l : Launch) (D : va_G) (cy : Nat → ClassId) (B : Nat) (L : List Nat) (K : KT) (P : PT) (J : IT) (hWT : WT K P) (I : IT) (a0 : Nat) (x1 : Int) (ka0 : K a0 = 9) (rx1 : rg x1) {I' : IT} (hf : f_X8_empties K P I a0 x1 = some I') : Met l yX8_empties [.code yX8_empties cX8_empties 2 none] rm_X8_empties (va_Pc [.ref a0, iv x1] (FW D cy B L K P J I)) (QV D cy B L K P J I') 0 0 (fun q => B ≤ q) := by
  refine fl_body (own := "RejudgeHallModel") [.ref a0, iv x1] (by decide) rfl (Nat.le_of_ble_eq_true rfl) ?_
  intro p e s m args below meth c ls C0 hr hF hl
  have hl : lv_has ls 2 [(0, .ref a0), (1, iv x1)] := hl
  unfold f_X8_empties at hf
  refine lv_aload_n C0.1 C0.2.1 dX8_empties_0 rfl (lv_at hl 0 rfl) ?_
  refine fl_getr (k := 1) (t := 368) ck_9 C0 hF ka0 rfl (wt_at (k := 1) (t := 368) hWT ka0 rfl) rfl ⟨rfl, rfl⟩ aw_875 dX8_empties_1 ?_
  refine lv_iload_n C0.1 C0.2.1 dX8_empties_4 rfl (lv_at hl 1 rfl) ?_
  refine fl_iconst C0 dX8_empties_5 ?_
  obtain ⟨hc, hf⟩ := ck_f hf
  refine fl_iast (n := 67) C0 hF (wt_at (k := 1) (t := 368) hWT ka0 rfl) rx1 (rgk 0 rfl) hc dX8_empties_6 (fun H locs hF1 => ?_)
  obtain ⟨I1, eI1, hf⟩ := bnd_f hf
  rw [eI1] at hF1
  cases hf
  exact fl_vret C0 hF1 hr rfl dX8_empties_7
-- RejudgeHallModel.copies(II)V
abbrev rm_X8_copies : Room := { frames := 0, cells := 0, slots := 0, locals := 0 }
def f_X8_copies_62 (K : KT) (P : PT) (I : IT) (a0 : Nat) (x1 : Int) (x2 : Int) : Option (IT) := ck (0 ≤ x1 ∧ x1 < 67) <| ck (0 ≤ x2 ∧ x2 < 67) <| bnd (up I ((P a0 1)) (x2 : Int).toNat (I ((P a0 1)) (x1 : Int).toNat)) fun I4 => some I4
def f_X8_copies_2 (K : KT) (P : PT) : Nat → IT → Nat → Int → Int → Int → Option (IT)
  | 0, _, _, _, _, _ => none
  | n + 1, I, a0, x1, x2, x3 => ck (0 ≤ x1 ∧ x1 < 67) <| if (I ((P a0 1)) (x1 : Int).toNat) ≤ x3 then (f_X8_copies_62 K P  I a0 x1 x2) else (ck (0 ≤ (wr ((wr (16 * x1)) + x3)) ∧ (wr ((wr (16 * x1)) + x3)) < 1072) <| ck (0 ≤ (wr ((wr (16 * x2)) + x3)) ∧ (wr ((wr (16 * x2)) + x3)) < 1072) <| bnd (up I ((P a0 2)) ((wr ((wr (16 * x2)) + x3)) : Int).toNat (I ((P a0 2)) ((wr ((wr (16 * x1)) + x3)) : Int).toNat)) fun I2 => ck (0 ≤ (wr ((wr (16 * x1)) + x3)) ∧ (wr ((wr (16 * x1)) + x3)) < 1072) <| ck (0 ≤ (wr ((wr (16 * x2)) + x3)) ∧ (wr ((wr (16 * x2)) + x3)) < 1072) <| bnd (up I2 ((P a0 3)) ((wr ((wr (16 * x2)) + x3)) : Int).toNat (I2 ((P a0 3)) ((wr ((wr (16 * x1)) + x3)) : Int).toNat)) fun I3 => (f_X8_copies_2 K P  n) I3 a0 x1 x2 ((wr (x3 + 1))))
def f_X8_copies (K : KT) (P : PT) (I : IT) (a0 : Nat) (x1 : Int) (x2 : Int) : Option (IT) := f_X8_copies_2 K P  FU I a0 x1 x2 0
abbrev G_X8_copies_62 (p : Program) (l : Launch) (e : Env) (s : State) (m : MethodId) (args : Array Value) (below : List Frame) (meth : Method) (c : Code) (D : va_G) (cy : Nat → ClassId) (B : Nat) (L : List Nat) (K : KT) (P : PT) (J : IT) (res : IT) (f : IT → Nat → Int → Int → Option (IT)) : Prop := ∀ (I : IT) (a0 : Nat) (x1 : Int) (x2 : Int) (H : Heap) (locs : List Loc) (ls : Array Slot), K a0 = 9 → rg x1 → rg x2 → FS D cy B L K P J s.heap I H locs → lv_has ls 4 [(0, .ref a0), (1, iv x1), (2, iv x2)] → f I a0 x1 x2 = some res → W p l e rm_X8_copies s m args below meth c H locs 0 0 (MQ below (QV D cy B L K P J res) args s 0 0 (fun q => B ≤ q)) (F0 m 62 ls [])
abbrev G_X8_copies_2 (p : Program) (l : Launch) (e : Env) (s : State) (m : MethodId) (args : Array Value) (below : List Frame) (meth : Method) (c : Code) (D : va_G) (cy : Nat → ClassId) (B : Nat) (L : List Nat) (K : KT) (P : PT) (J : IT) (res : IT) (f : IT → Nat → Int → Int → Int → Option (IT)) : Prop := ∀ (I : IT) (a0 : Nat) (x1 : Int) (x2 : Int) (x3 : Int) (H : Heap) (locs : List Loc) (ls : Array Slot), K a0 = 9 → rg x1 → rg x2 → rg x3 → FS D cy B L K P J s.heap I H locs → lv_has ls 4 [(0, .ref a0), (1, iv x1), (2, iv x2), (3, iv x3)] → f I a0 x1 x2 x3 = some res → W p l e rm_X8_copies s m args below meth c H locs 0 0 (MQ below (QV D cy B L K P J res) args s 0 0 (fun q => B ≤ q)) (F0 m 2 ls [])
set_option maxRecDepth 100000 in
set_option maxHeartbeats 4000000 in
theorem b_X8_copies_62 {p : Program} {l : Launch} {e : Env} {s : State} {m : MethodId} {args : Array Value} {below : List Frame} {meth : Method} {c : Code} {D : va_G} {cy : Nat → ClassId} {B : Nat} {L : List Nat} {K : KT} {P : PT} {J : IT} {res : IT} (C0 : FC D cy B p s m meth c "RejudgeHallModel" cX8_copies 4) (hr : meth.sig.returnType = none) (hWT : WT K P) : G_X8_copies_62 p l e s m args below meth c D cy B L K P J res (f_X8_copies_62 K P ) := by
  intro I a0 x1 x2 H locs ls ka0 rx1 rx2 hF hl hf
  unfold f_X8_copies_62 at hf
  refine lv_aload_n C0.1 C0.2.1 dX8_copies_62 rfl (lv_at hl 0 rfl) ?_
  refine fl_getr (k := 1) (t := 368) ck_9 C0 hF ka0 rfl (wt_at (k := 1) (t := 368) hWT ka0 rfl) rfl ⟨rfl, rfl⟩ aw_875 dX8_copies_63 ?_
  refine lv_iload_n C0.1 C0.2.1 dX8_copies_66 rfl (lv_at hl 2 rfl) ?_
  refine lv_aload_n C0.1 C0.2.1 dX8_copies_67 rfl (lv_at hl 0 rfl) ?_
  refine fl_getr (k := 1) (t := 368) ck_9 C0 hF ka0 rfl (wt_at (k := 1) (t := 368) hWT ka0 rfl) rfl ⟨rfl, rfl⟩ aw_875 dX8_copies_68 ?_
  refine lv_iload_n C0.1 C0.2.1 dX8_copies_71 rfl (lv_at hl 1 rfl) ?_
  obtain ⟨hc, hf⟩ := ck_f hf
  refine fl_iald (n := 67) C0 hF (wt_at (k := 1) (t := 368) hWT ka0 rfl) rx1 hc dX8_copies_72 ?_
  obtain ⟨hc, hf⟩ := ck_f hf
  refine fl_iast (n := 67) C0 hF (wt_at (k := 1) (t := 368) hWT ka0 rfl) rx2 (hF.rI _ _) hc dX8_copies_73 (fun H locs hF4 => ?_)
  obtain ⟨I4, eI4, hf⟩ := bnd_f hf
  rw [eI4] at hF4
  cases hf
  exact fl_vret C0 hF4 hr rfl dX8_copies_74
set_option maxRecDepth 100000 in
set_option maxHeartbeats 4000000 in
theorem b_X8_copies_2 {p : Program} {l : Launch} {e : Env} {s : State} {m : MethodId} {args : Array Value} {below : List Frame} {meth : Method} {c : Code} {D : va_G} {cy : Nat → ClassId} {B : Nat} {L : List Nat} {K : KT} {P : PT} {J : IT} {res : IT} (C0 : FC D cy B p s m meth c "RejudgeHallModel" cX8_copies 4) (hr : meth.sig.returnType = none) (hWT : WT K P) : ∀ n : Nat, G_X8_copies_2 p l e s m args below meth c D cy B L K P J res (f_X8_copies_2 K P  n)
  | 0 => by
    intro I a0 x1 x2 x3 H locs ls ka0 rx1 rx2 rx3 hF hl hf
    cases hf
  | n + 1 => by
    have ih : G_X8_copies_2 p l e s m args below meth c D cy B L K P J res (f_X8_copies_2 K P  n)  := b_X8_copies_2 C0 hr hWT  n
    intro I a0 x1 x2 x3 H locs ls ka0 rx1 rx2 rx3 hF hl hf
    rw [f_X8_copies_2] at hf
    refine lv_iload_n C0.1 C0.2.1 dX8_copies_2 rfl (lv_at hl 3 rfl) ?_
    refine lv_aload_n C0.1 C0.2.1 dX8_copies_3 rfl (lv_at hl 0 rfl) ?_
    refine fl_getr (k := 1) (t := 368) ck_9 C0 hF ka0 rfl (wt_at (k := 1) (t := 368) hWT ka0 rfl) rfl ⟨rfl, rfl⟩ aw_875 dX8_copies_4 ?_
    refine lv_iload_n C0.1 C0.2.1 dX8_copies_7 rfl (lv_at hl 1 rfl) ?_
    obtain ⟨hc, hf⟩ := ck_f hf
    refine fl_iald (n := 67) C0 hF (wt_at (k := 1) (t := 368) hWT ka0 rfl) rx1 hc dX8_copies_8 ?_
    refine fl_icmp_ge (tgt := 62) C0 rx3 (hF.rI _ _) dX8_copies_9 (by decide) (fun c1 => ?_) (fun c1 => ?_)
    · replace hf := (if_pos c1).symm.trans hf
      exact b_X8_copies_62 C0 hr hWT  I a0 x1 x2 _ _ _ ka0 rx1 rx2 hF (lv_sub hl [0, 1, 2] rfl) hf
    · replace hf := (if_neg c1).symm.trans hf
      refine lv_aload_n C0.1 C0.2.1 dX8_copies_12 rfl (lv_at hl 0 rfl) ?_
      refine fl_getr (k := 2) (t := 4388) ck_9 C0 hF ka0 rfl (wt_at (k := 2) (t := 4388) hWT ka0 rfl) rfl ⟨rfl, rfl⟩ aw_876 dX8_copies_13 ?_
      refine fl_bipush C0 dX8_copies_16 (by decide) ?_
      refine lv_iload_n C0.1 C0.2.1 dX8_copies_18 rfl (lv_at hl 2 rfl) ?_
      refine fl_imul C0 dX8_copies_19 ?_
      refine lv_iload_n C0.1 C0.2.1 dX8_copies_20 rfl (lv_at hl 3 rfl) ?_
      refine fl_iadd C0 dX8_copies_21 ?_
      refine lv_aload_n C0.1 C0.2.1 dX8_copies_22 rfl (lv_at hl 0 rfl) ?_
      refine fl_getr (k := 2) (t := 4388) ck_9 C0 hF ka0 rfl (wt_at (k := 2) (t := 4388) hWT ka0 rfl) rfl ⟨rfl, rfl⟩ aw_876 dX8_copies_23 ?_
      refine fl_bipush C0 dX8_copies_26 (by decide) ?_
      refine lv_iload_n C0.1 C0.2.1 dX8_copies_28 rfl (lv_at hl 1 rfl) ?_
      refine fl_imul C0 dX8_copies_29 ?_
      refine lv_iload_n C0.1 C0.2.1 dX8_copies_30 rfl (lv_at hl 3 rfl) ?_
      refine fl_iadd C0 dX8_copies_31 ?_
      obtain ⟨hc, hf⟩ := ck_f hf
      refine fl_iald (n := 1072) C0 hF (wt_at (k := 2) (t := 4388) hWT ka0 rfl) (rg_wr _) hc dX8_copies_32 ?_
      obtain ⟨hc, hf⟩ := ck_f hf
      refine fl_iast (n := 1072) C0 hF (wt_at (k := 2) (t := 4388) hWT ka0 rfl) (rg_wr _) (hF.rI _ _) hc dX8_copies_33 (fun H locs hF2 => ?_)
      obtain ⟨I2, eI2, hf⟩ := bnd_f hf
      rw [eI2] at hF2
      refine lv_aload_n C0.1 C0.2.1 dX8_copies_34 rfl (lv_at hl 0 rfl) ?_
      refine fl_getr (k := 3) (t := 4388) ck_9 C0 hF2 ka0 rfl (wt_at (k := 3) (t := 4388) hWT ka0 rfl) rfl ⟨rfl, rfl⟩ aw_877 dX8_copies_35 ?_
      refine fl_bipush C0 dX8_copies_38 (by decide) ?_
      refine lv_iload_n C0.1 C0.2.1 dX8_copies_40 rfl (lv_at hl 2 rfl) ?_
      refine fl_imul C0 dX8_copies_41 ?_
      refine lv_iload_n C0.1 C0.2.1 dX8_copies_42 rfl (lv_at hl 3 rfl) ?_
      refine fl_iadd C0 dX8_copies_43 ?_
      refine lv_aload_n C0.1 C0.2.1 dX8_copies_44 rfl (lv_at hl 0 rfl) ?_
      refine fl_getr (k := 3) (t := 4388) ck_9 C0 hF2 ka0 rfl (wt_at (k := 3) (t := 4388) hWT ka0 rfl) rfl ⟨rfl, rfl⟩ aw_877 dX8_copies_45 ?_
      refine fl_bipush C0 dX8_copies_48 (by decide) ?_
      refine lv_iload_n C0.1 C0.2.1 dX8_copies_50 rfl (lv_at hl 1 rfl) ?_
      refine fl_imul C0 dX8_copies_51 ?_
      refine lv_iload_n C0.1 C0.2.1 dX8_copies_52 rfl (lv_at hl 3 rfl) ?_
      refine fl_iadd C0 dX8_copies_53 ?_
      obtain ⟨hc, hf⟩ := ck_f hf
      refine fl_iald (n := 1072) C0 hF2 (wt_at (k := 3) (t := 4388) hWT ka0 rfl) (rg_wr _) hc dX8_copies_54 ?_
      obtain ⟨hc, hf⟩ := ck_f hf
      refine fl_iast (n := 1072) C0 hF2 (wt_at (k := 3) (t := 4388) hWT ka0 rfl) (rg_wr _) (hF2.rI _ _) hc dX8_copies_55 (fun H locs hF3 => ?_)
      obtain ⟨I3, eI3, hf⟩ := bnd_f hf
      rw [eI3] at hF3
      refine fl_iinc (lv' := [(3, iv (wr (x3 + 1))), (0, .ref a0), (1, iv x1), (2, iv x2)]) C0 dX8_copies_56 hl (k := 3) rfl (by decide) rfl (fun ls hl => ?_)
      refine fl_goto (tgt := 2) C0 dX8_copies_59 (by decide) ?_
      exact ih I3 a0 x1 x2 ((wr (x3 + 1))) _ _ _ ka0 rx1 rx2 ((rg_wr _)) hF3 (lv_sub hl [1, 2, 3, 0] rfl) hf
theorem pm_X8_copies : plainM yX8_copies 2 := by decide +kernel
set_option maxRecDepth 100000 in
set_option maxHeartbeats 4000000 in
theorem c_X8_copies (l : Launch) (D : va_G) (cy : Nat → ClassId) (B : Nat) (L : List Nat) (K : KT) (P : PT) (J : IT) (hWT : WT K P) (I : IT) (a0 : Nat) (x1 : Int) (x2 : Int) (ka0 : K a0 = 9) (rx1 : rg x1) (rx2 : rg x2) {I' : IT} (hf : f_X8_copies K P I a0 x1 x2 = some I') : Met l yX8_copies [.code yX8_copies cX8_copies 4 none] rm_X8_copies (va_Pc [.ref a0, iv x1, iv x2] (FW D cy B L K P J I)) (QV D cy B L K P J I') 0 0 (fun q => B ≤ q) := by
  refine fl_body (own := "RejudgeHallModel") [.ref a0, iv x1, iv x2] (by decide) rfl (Nat.le_of_ble_eq_true rfl) ?_
  intro p e s m args below meth c ls C0 hr hF hl
  have hl : lv_has ls 4 [(0, .ref a0), (1, iv x1), (2, iv x2)] := hl
  unfold f_X8_copies at hf
  refine fl_iconst C0 dX8_copies_0 ?_
  refine lv_istore_n (lv' := [(3, iv 0), (0, .ref a0), (1, iv x1), (2, iv x2)]) C0.1 C0.2.1 dX8_copies_1 rfl hl (by decide) rfl (fun ls hl => ?_)
  exact b_X8_copies_2 C0 hr hWT  FU I a0 x1 x2 0 _ _ _ ka0 rx1 rx2 ((rgk 0 rfl)) hF (lv_sub hl [1, 2, 3, 0] rfl) hf
-- RejudgeHallModel.code(II)I
abbrev rm_X8_code : Room := { frames := 1, cells := 0, slots := 0, locals := 22 }
def f_X8_code_42 (K : KT) (P : PT) (I : IT) (a0 : Nat) (x1 : Int) (x2 : Int) (t0 : Int) (b1 : Nat) : Option (Int × IT) := bnd (up I b1 38 t0) fun I6 => if (I6 a0 38) ≤ 0 then (ck (0 ≤ (I6 ((P a0 1)) (0 : Int).toNat) ∧ (I6 ((P a0 1)) (0 : Int).toNat) < 1072) <| bnd (up I6 ((P a0 2)) ((I6 ((P a0 1)) (0 : Int).toNat) : Int).toNat x1) fun I8 => ck (0 ≤ (I8 ((P a0 1)) (0 : Int).toNat) ∧ (I8 ((P a0 1)) (0 : Int).toNat) < 1072) <| bnd (up I8 ((P a0 3)) ((I8 ((P a0 1)) (0 : Int).toNat) : Int).toNat x2) fun I9 => bnd (up I9 ((P a0 1)) (0 : Int).toNat (wr ((I9 ((P a0 1)) (0 : Int).toNat) + 1))) fun I10 => some ((I10 ((P a0 1)) (0 : Int).toNat), I10)) else (some (0, I6))
def f_X8_code_22 (K : KT) (P : PT) (I : IT) (a0 : Nat) (x1 : Int) (x2 : Int) (b0 : Nat) : Option (Int × IT) := f_X8_code_42 K P  I a0 x1 x2 1 b0
def f_X8_code (K : KT) (P : PT) (I : IT) (a0 : Nat) (x1 : Int) (x2 : Int) : Option (Int × IT) := bp (f_X8_isIn K P I x1 0 9) fun r1 => if r1 = 0 then (f_X8_code_22 K P  I a0 x1 x2 a0) else (bp (f_X8_isIn K P I x2 ((-99)) 99) fun r3 => if r3 = 0 then (f_X8_code_22 K P  I a0 x1 x2 a0) else (if (I ((P a0 1)) (0 : Int).toNat) = 16 then (f_X8_code_42 K P  I a0 x1 x2 2 a0) else (f_X8_code_42 K P  I a0 x1 x2 0 a0)))
abbrev G_X8_code_42 (p : Program) (l : Launch) (e : Env) (s : State) (m : MethodId) (args : Array Value) (below : List Frame) (meth : Method) (c : Code) (D : va_G) (cy : Nat → ClassId) (B : Nat) (L : List Nat) (K : KT) (P : PT) (J : IT) (res : Int × IT) (f : IT → Nat → Int → Int → Int → Nat → Option (Int × IT)) : Prop := ∀ (I : IT) (a0 : Nat) (x1 : Int) (x2 : Int) (t0 : Int) (b1 : Nat) (H : Heap) (locs : List Loc) (ls : Array Slot), K a0 = 9 → rg x1 → rg x2 → rg t0 → K b1 = 9 → FS D cy B L K P J s.heap I H locs → lv_has ls 3 [(0, .ref a0), (1, iv x1), (2, iv x2)] → f I a0 x1 x2 t0 b1 = some res → W p l e rm_X8_code s m args below meth c H locs 0 0 (MQ below (QI D cy B L K P J res) args s 0 0 (fun q => B ≤ q)) (F0 m 42 ls [iv t0, .ref b1])
abbrev G_X8_code_22 (p : Program) (l : Launch) (e : Env) (s : State) (m : MethodId) (args : Array Value) (below : List Frame) (meth : Method) (c : Code) (D : va_G) (cy : Nat → ClassId) (B : Nat) (L : List Nat) (K : KT) (P : PT) (J : IT) (res : Int × IT) (f : IT → Nat → Int → Int → Nat → Option (Int × IT)) : Prop := ∀ (I : IT) (a0 : Nat) (x1 : Int) (x2 : Int) (b0 : Nat) (H : Heap) (locs : List Loc) (ls : Array Slot), K a0 = 9 → rg x1 → rg x2 → K b0 = 9 → FS D cy B L K P J s.heap I H locs → lv_has ls 3 [(0, .ref a0), (1, iv x1), (2, iv x2)] → f I a0 x1 x2 b0 = some res → W p l e rm_X8_code s m args below meth c H locs 0 0 (MQ below (QI D cy B L K P J res) args s 0 0 (fun q => B ≤ q)) (F0 m 22 ls [.ref b0])
set_option maxRecDepth 100000 in
set_option maxHeartbeats 4000000 in
theorem b_X8_code_42 {p : Program} {l : Launch} {e : Env} {s : State} {m : MethodId} {args : Array Value} {below : List Frame} {meth : Method} {c : Code} {D : va_G} {cy : Nat → ClassId} {B : Nat} {L : List Nat} {K : KT} {P : PT} {J : IT} {res : Int × IT} (C0 : FC D cy B p s m meth c "RejudgeHallModel" cX8_code 3) (hr : meth.sig.returnType = (some .int)) (hWT : WT K P) : G_X8_code_42 p l e s m args below meth c D cy B L K P J res (f_X8_code_42 K P ) := by
  intro I a0 x1 x2 t0 b1 H locs ls ka0 rx1 rx2 rt0 kb1 hF hl hf
  unfold f_X8_code_42 at hf
  refine fl_puti (k := 38) ck_9 C0 hF kb1 rfl rt0 ⟨rfl, rfl, rfl⟩ aw_912 dX8_code_42 (fun H locs hF6 => ?_)
  obtain ⟨I6, eI6, hf⟩ := bnd_f hf
  rw [eI6] at hF6
  refine lv_aload_n C0.1 C0.2.1 dX8_code_45 rfl (lv_at hl 0 rfl) ?_
  refine fl_geti (k := 38) ck_9 C0 hF6 ka0 rfl ⟨rfl, rfl⟩ aw_912 dX8_code_46 ?_
  refine fl_if_le (tgt := 54) C0 (hF6.rI _ _) dX8_code_49 (by decide) (fun c7 => ?_) (fun c7 => ?_)
  · replace hf := (if_pos c7).symm.trans hf
    refine lv_aload_n C0.1 C0.2.1 dX8_code_54 rfl (lv_at hl 0 rfl) ?_
    refine fl_getr (k := 2) (t := 4388) ck_9 C0 hF6 ka0 rfl (wt_at (k := 2) (t := 4388) hWT ka0 rfl) rfl ⟨rfl, rfl⟩ aw_876 dX8_code_55 ?_
    refine lv_aload_n C0.1 C0.2.1 dX8_code_58 rfl (lv_at hl 0 rfl) ?_
    refine fl_getr (k := 1) (t := 368) ck_9 C0 hF6 ka0 rfl (wt_at (k := 1) (t := 368) hWT ka0 rfl) rfl ⟨rfl, rfl⟩ aw_875 dX8_code_59 ?_
    refine fl_iconst C0 dX8_code_62 ?_
    refine fl_iald (n := 67) C0 hF6 (wt_at (k := 1) (t := 368) hWT ka0 rfl) (rgk 0 rfl) ⟨by decide, by decide⟩ dX8_code_63 ?_
    refine lv_iload_n C0.1 C0.2.1 dX8_code_64 rfl (lv_at hl 1 rfl) ?_
    obtain ⟨hc, hf⟩ := ck_f hf
    refine fl_iast (n := 1072) C0 hF6 (wt_at (k := 2) (t := 4388) hWT ka0 rfl) (hF6.rI _ _) rx1 hc dX8_code_65 (fun H locs hF8 => ?_)
    obtain ⟨I8, eI8, hf⟩ := bnd_f hf
    rw [eI8] at hF8
    refine lv_aload_n C0.1 C0.2.1 dX8_code_66 rfl (lv_at hl 0 rfl) ?_
    refine fl_getr (k := 3) (t := 4388) ck_9 C0 hF8 ka0 rfl (wt_at (k := 3) (t := 4388) hWT ka0 rfl) rfl ⟨rfl, rfl⟩ aw_877 dX8_code_67 ?_
    refine lv_aload_n C0.1 C0.2.1 dX8_code_70 rfl (lv_at hl 0 rfl) ?_
    refine fl_getr (k := 1) (t := 368) ck_9 C0 hF8 ka0 rfl (wt_at (k := 1) (t := 368) hWT ka0 rfl) rfl ⟨rfl, rfl⟩ aw_875 dX8_code_71 ?_
    refine fl_iconst C0 dX8_code_74 ?_
    refine fl_iald (n := 67) C0 hF8 (wt_at (k := 1) (t := 368) hWT ka0 rfl) (rgk 0 rfl) ⟨by decide, by decide⟩ dX8_code_75 ?_
    refine lv_iload_n C0.1 C0.2.1 dX8_code_76 rfl (lv_at hl 2 rfl) ?_
    obtain ⟨hc, hf⟩ := ck_f hf
    refine fl_iast (n := 1072) C0 hF8 (wt_at (k := 3) (t := 4388) hWT ka0 rfl) (hF8.rI _ _) rx2 hc dX8_code_77 (fun H locs hF9 => ?_)
    obtain ⟨I9, eI9, hf⟩ := bnd_f hf
    rw [eI9] at hF9
    refine lv_aload_n C0.1 C0.2.1 dX8_code_78 rfl (lv_at hl 0 rfl) ?_
    refine fl_getr (k := 1) (t := 368) ck_9 C0 hF9 ka0 rfl (wt_at (k := 1) (t := 368) hWT ka0 rfl) rfl ⟨rfl, rfl⟩ aw_875 dX8_code_79 ?_
    refine fl_iconst C0 dX8_code_82 ?_
    refine lv_dup2_11 C0.1 C0.2.1 dX8_code_83 rfl rfl ?_
    refine fl_iald (n := 67) C0 hF9 (wt_at (k := 1) (t := 368) hWT ka0 rfl) (rgk 0 rfl) ⟨by decide, by decide⟩ dX8_code_84 ?_
    refine fl_iconst C0 dX8_code_85 ?_
    refine fl_iadd C0 dX8_code_86 ?_
    refine fl_iast (n := 67) C0 hF9 (wt_at (k := 1) (t := 368) hWT ka0 rfl) (rgk 0 rfl) (rg_wr _) ⟨by decide, by decide⟩ dX8_code_87 (fun H locs hF10 => ?_)
    obtain ⟨I10, eI10, hf⟩ := bnd_f hf
    rw [eI10] at hF10
    refine lv_aload_n C0.1 C0.2.1 dX8_code_88 rfl (lv_at hl 0 rfl) ?_
    refine fl_getr (k := 1) (t := 368) ck_9 C0 hF10 ka0 rfl (wt_at (k := 1) (t := 368) hWT ka0 rfl) rfl ⟨rfl, rfl⟩ aw_875 dX8_code_89 ?_
    refine fl_iconst C0 dX8_code_92 ?_
    refine fl_iald (n := 67) C0 hF10 (wt_at (k := 1) (t := 368) hWT ka0 rfl) (rgk 0 rfl) ⟨by decide, by decide⟩ dX8_code_93 ?_
    cases hf
    exact fl_iret C0 hF10 hr (hF10.rI _ _) rfl dX8_code_94
  · replace hf := (if_neg c7).symm.trans hf
    refine fl_iconst C0 dX8_code_52 ?_
    cases hf
    exact fl_iret C0 hF6 hr (rgk 0 rfl) rfl dX8_code_53
set_option maxRecDepth 100000 in
set_option maxHeartbeats 4000000 in
theorem b_X8_code_22 {p : Program} {l : Launch} {e : Env} {s : State} {m : MethodId} {args : Array Value} {below : List Frame} {meth : Method} {c : Code} {D : va_G} {cy : Nat → ClassId} {B : Nat} {L : List Nat} {K : KT} {P : PT} {J : IT} {res : Int × IT} (C0 : FC D cy B p s m meth c "RejudgeHallModel" cX8_code 3) (hr : meth.sig.returnType = (some .int)) (hWT : WT K P) : G_X8_code_22 p l e s m args below meth c D cy B L K P J res (f_X8_code_22 K P ) := by
  intro I a0 x1 x2 b0 H locs ls ka0 rx1 rx2 kb0 hF hl hf
  unfold f_X8_code_22 at hf
  refine fl_iconst C0 dX8_code_22 ?_
  refine fl_goto (tgt := 42) C0 dX8_code_23 (by decide) ?_
  exact b_X8_code_42 C0 hr hWT  I a0 x1 x2 1 b0 _ _ _ ka0 rx1 rx2 ((rgk 1 rfl)) kb0 hF (lv_sub hl [0, 1, 2] rfl) hf
theorem pm_X8_code : plainM yX8_code 2 := by decide +kernel
set_option maxRecDepth 100000 in
set_option maxHeartbeats 4000000 in
theorem c_X8_code (l : Launch) (D : va_G) (cy : Nat → ClassId) (B : Nat) (L : List Nat) (K : KT) (P : PT) (J : IT) (hWT : WT K P) (I : IT) (a0 : Nat) (x1 : Int) (x2 : Int) (ka0 : K a0 = 9) (rx1 : rg x1) (rx2 : rg x2) {r : Int} {I' : IT} (hf : f_X8_code K P I a0 x1 x2 = some (r, I')) : Met l yX8_code [.code yX8_code cX8_code 3 (some .int)] rm_X8_code (va_Pc [.ref a0, iv x1, iv x2] (FW D cy B L K P J I)) (QI D cy B L K P J (r, I')) 0 0 (fun q => B ≤ q) := by
  refine fl_body (own := "RejudgeHallModel") [.ref a0, iv x1, iv x2] (by decide) rfl (Nat.le_of_ble_eq_true rfl) ?_
  intro p e s m args below meth c ls C0 hr hF hl
  have hl : lv_has ls 3 [(0, .ref a0), (1, iv x1), (2, iv x2)] := hl
  unfold f_X8_code at hf
  refine lv_aload_n C0.1 C0.2.1 dX8_code_0 rfl (lv_at hl 0 rfl) ?_
  refine lv_iload_n C0.1 C0.2.1 dX8_code_1 rfl (lv_at hl 1 rfl) ?_
  refine fl_iconst C0 dX8_code_2 ?_
  refine fl_bipush C0 dX8_code_3 (by decide) ?_
  obtain ⟨r1, hq1, hf⟩ := bp_f hf
  refine fl_ri hF (fl_runSG (As := [iv x1, iv 0, iv 9]) (rest := [.ref a0]) C0 hF hl.1 (c_X8_isIn l D cy B L K P J hWT I x1 0 9 rx1 ((rgk 0 rfl)) ((rgk 9 rfl)) hq1) aw_1000 aw_1001 aw_73 aw_1002 rfl pm_X8_isIn rfl rfl ⟨Nat.le_of_ble_eq_true rfl, Nat.le_of_ble_eq_true rfl⟩ rfl (Nat.le_of_ble_eq_true rfl) dX8_code_5 ⟨Nat.le_of_ble_eq_true rfl, Nat.le_of_ble_eq_true rfl⟩) (fun H locs hF1 rr1 => ?_)
  refine fl_if_eq (tgt := 22) C0 rr1 dX8_code_8 (by decide) (fun c2 => ?_) (fun c2 => ?_)
  · replace hf := (if_pos c2).symm.trans hf
    exact b_X8_code_22 C0 hr hWT  I a0 x1 x2 a0 _ _ _ ka0 rx1 rx2 ka0 hF1 (lv_sub hl [0, 1, 2] rfl) hf
  · replace hf := (if_neg c2).symm.trans hf
    refine lv_iload_n C0.1 C0.2.1 dX8_code_11 rfl (lv_at hl 2 rfl) ?_
    refine fl_bipush C0 dX8_code_12 (by decide) ?_
    refine fl_bipush C0 dX8_code_14 (by decide) ?_
    obtain ⟨r3, hq3, hf⟩ := bp_f hf
    refine fl_ri hF1 (fl_runSG (As := [iv x2, iv (-99), iv 99]) (rest := [.ref a0]) C0 hF1 hl.1 (c_X8_isIn l D cy B L K P J hWT I x2 ((-99)) 99 rx2 ((rgk (-99) rfl)) ((rgk 99 rfl)) hq3) aw_1000 aw_1001 aw_73 aw_1002 rfl pm_X8_isIn rfl rfl ⟨Nat.le_of_ble_eq_true rfl, Nat.le_of_ble_eq_true rfl⟩ rfl (Nat.le_of_ble_eq_true rfl) dX8_code_16 ⟨Nat.le_of_ble_eq_true rfl, Nat.le_of_ble_eq_true rfl⟩) (fun H locs hF3 rr3 => ?_)
    refine fl_if_ne (tgt := 26) C0 rr3 dX8_code_19 (by decide) (fun c4 => ?_) (fun c4 => ?_)
    · replace hf := (if_neg c4).symm.trans hf
      refine lv_aload_n C0.1 C0.2.1 dX8_code_26 rfl (lv_at hl 0 rfl) ?_
      refine fl_getr (k := 1) (t := 368) ck_9 C0 hF3 ka0 rfl (wt_at (k := 1) (t := 368) hWT ka0 rfl) rfl ⟨rfl, rfl⟩ aw_875 dX8_code_27 ?_
      refine fl_iconst C0 dX8_code_30 ?_
      refine fl_iald (n := 67) C0 hF3 (wt_at (k := 1) (t := 368) hWT ka0 rfl) (rgk 0 rfl) ⟨by decide, by decide⟩ dX8_code_31 ?_
      refine fl_bipush C0 dX8_code_32 (by decide) ?_
      refine fl_icmp_ne (tgt := 41) C0 (hF3.rI _ _) (rgk 16 rfl) dX8_code_34 (by decide) (fun c5 => ?_) (fun c5 => ?_)
      · replace hf := (if_neg c5).symm.trans hf
        refine fl_iconst C0 dX8_code_41 ?_
        exact b_X8_code_42 C0 hr hWT  I a0 x1 x2 0 a0 _ _ _ ka0 rx1 rx2 ((rgk 0 rfl)) ka0 hF3 (lv_sub hl [0, 1, 2] rfl) hf
      · replace hf := (if_pos c5).symm.trans hf
        refine fl_iconst C0 dX8_code_37 ?_
        refine fl_goto (tgt := 42) C0 dX8_code_38 (by decide) ?_
        exact b_X8_code_42 C0 hr hWT  I a0 x1 x2 2 a0 _ _ _ ka0 rx1 rx2 ((rgk 2 rfl)) ka0 hF3 (lv_sub hl [0, 1, 2] rfl) hf
    · replace hf := (if_pos c4).symm.trans hf
      exact b_X8_code_22 C0 hr hWT  I a0 x1 x2 a0 _ _ _ ka0 rx1 rx2 ka0 hF3 (lv_sub hl [0, 1, 2] rfl) hf
-- RejudgeHallModel.input(I)I
abbrev rm_X8_input : Room := { frames := 1, cells := 0, slots := 0, locals := 22 }
def f_X8_input_32 (K : KT) (P : PT) (I : IT) (a0 : Nat) (x1 : Int) (t0 : Int) (b1 : Nat) : Option (Int × IT) := bnd (up I b1 38 t0) fun I4 => if (I4 a0 38) ≤ 0 then (ck (0 ≤ (wr (288 + (I4 ((P a0 4)) (72 : Int).toNat))) ∧ (wr (288 + (I4 ((P a0 4)) (72 : Int).toNat))) < 292) <| bnd (up I4 ((P a0 5)) ((wr (288 + (I4 ((P a0 4)) (72 : Int).toNat))) : Int).toNat x1) fun I6 => bnd (up I6 ((P a0 4)) (72 : Int).toNat (wr ((I6 ((P a0 4)) (72 : Int).toNat) + 1))) fun I7 => some ((I7 ((P a0 4)) (72 : Int).toNat), I7)) else (some (0, I4))
def f_X8_input (K : KT) (P : PT) (I : IT) (a0 : Nat) (x1 : Int) : Option (Int × IT) := bp (f_X8_isIn K P I x1 ((-9)) 9) fun r1 => if r1 = 0 then (f_X8_input_32 K P  I a0 x1 1 a0) else (if (I ((P a0 4)) (72 : Int).toNat) = 4 then (f_X8_input_32 K P  I a0 x1 2 a0) else (f_X8_input_32 K P  I a0 x1 0 a0))
abbrev G_X8_input_32 (p : Program) (l : Launch) (e : Env) (s : State) (m : MethodId) (args : Array Value) (below : List Frame) (meth : Method) (c : Code) (D : va_G) (cy : Nat → ClassId) (B : Nat) (L : List Nat) (K : KT) (P : PT) (J : IT) (res : Int × IT) (f : IT → Nat → Int → Int → Nat → Option (Int × IT)) : Prop := ∀ (I : IT) (a0 : Nat) (x1 : Int) (t0 : Int) (b1 : Nat) (H : Heap) (locs : List Loc) (ls : Array Slot), K a0 = 9 → rg x1 → rg t0 → K b1 = 9 → FS D cy B L K P J s.heap I H locs → lv_has ls 2 [(0, .ref a0), (1, iv x1)] → f I a0 x1 t0 b1 = some res → W p l e rm_X8_input s m args below meth c H locs 0 0 (MQ below (QI D cy B L K P J res) args s 0 0 (fun q => B ≤ q)) (F0 m 32 ls [iv t0, .ref b1])
set_option maxRecDepth 100000 in
set_option maxHeartbeats 4000000 in
theorem b_X8_input_32 {p : Program} {l : Launch} {e : Env} {s : State} {m : MethodId} {args : Array Value} {below : List Frame} {meth : Method} {c : Code} {D : va_G} {cy : Nat → ClassId} {B : Nat} {L : List Nat} {K : KT} {P : PT} {J : IT} {res : Int × IT} (C0 : FC D cy B p s m meth c "RejudgeHallModel" cX8_input 2) (hr : meth.sig.returnType = (some .int)) (hWT : WT K P) : G_X8_input_32 p l e s m args below meth c D cy B L K P J res (f_X8_input_32 K P ) := by
  intro I a0 x1 t0 b1 H locs ls ka0 rx1 rt0 kb1 hF hl hf
  unfold f_X8_input_32 at hf
  refine fl_puti (k := 38) ck_9 C0 hF kb1 rfl rt0 ⟨rfl, rfl, rfl⟩ aw_912 dX8_input_32 (fun H locs hF4 => ?_)
  obtain ⟨I4, eI4, hf⟩ := bnd_f hf
  rw [eI4] at hF4
  refine lv_aload_n C0.1 C0.2.1 dX8_input_35 rfl (lv_at hl 0 rfl) ?_
  refine fl_geti (k := 38) ck_9 C0 hF4 ka0 rfl ⟨rfl, rfl⟩ aw_912 dX8_input_36 ?_
  refine fl_if_le (tgt := 44) C0 (hF4.rI _ _) dX8_input_39 (by decide) (fun c5 => ?_) (fun c5 => ?_)
  · replace hf := (if_pos c5).symm.trans hf
    refine lv_aload_n C0.1 C0.2.1 dX8_input_44 rfl (lv_at hl 0 rfl) ?_
    refine fl_getr (k := 5) (t := 1268) ck_9 C0 hF4 ka0 rfl (wt_at (k := 5) (t := 1268) hWT ka0 rfl) rfl ⟨rfl, rfl⟩ aw_879 dX8_input_45 ?_
    refine fl_sipush C0 dX8_input_48 (by decide) ?_
    refine lv_aload_n C0.1 C0.2.1 dX8_input_51 rfl (lv_at hl 0 rfl) ?_
    refine fl_getr (k := 4) (t := 392) ck_9 C0 hF4 ka0 rfl (wt_at (k := 4) (t := 392) hWT ka0 rfl) rfl ⟨rfl, rfl⟩ aw_878 dX8_input_52 ?_
    refine fl_bipush C0 dX8_input_55 (by decide) ?_
    refine fl_iald (n := 73) C0 hF4 (wt_at (k := 4) (t := 392) hWT ka0 rfl) (rgk 72 rfl) ⟨by decide, by decide⟩ dX8_input_57 ?_
    refine fl_iadd C0 dX8_input_58 ?_
    refine lv_iload_n C0.1 C0.2.1 dX8_input_59 rfl (lv_at hl 1 rfl) ?_
    obtain ⟨hc, hf⟩ := ck_f hf
    refine fl_iast (n := 292) C0 hF4 (wt_at (k := 5) (t := 1268) hWT ka0 rfl) (rg_wr _) rx1 hc dX8_input_60 (fun H locs hF6 => ?_)
    obtain ⟨I6, eI6, hf⟩ := bnd_f hf
    rw [eI6] at hF6
    refine lv_aload_n C0.1 C0.2.1 dX8_input_61 rfl (lv_at hl 0 rfl) ?_
    refine fl_getr (k := 4) (t := 392) ck_9 C0 hF6 ka0 rfl (wt_at (k := 4) (t := 392) hWT ka0 rfl) rfl ⟨rfl, rfl⟩ aw_878 dX8_input_62 ?_
    refine fl_bipush C0 dX8_input_65 (by decide) ?_
    refine lv_dup2_11 C0.1 C0.2.1 dX8_input_67 rfl rfl ?_
    refine fl_iald (n := 73) C0 hF6 (wt_at (k := 4) (t := 392) hWT ka0 rfl) (rgk 72 rfl) ⟨by decide, by decide⟩ dX8_input_68 ?_
    refine fl_iconst C0 dX8_input_69 ?_
    refine fl_iadd C0 dX8_input_70 ?_
    refine fl_iast (n := 73) C0 hF6 (wt_at (k := 4) (t := 392) hWT ka0 rfl) (rgk 72 rfl) (rg_wr _) ⟨by decide, by decide⟩ dX8_input_71 (fun H locs hF7 => ?_)
    obtain ⟨I7, eI7, hf⟩ := bnd_f hf
    rw [eI7] at hF7
    refine lv_aload_n C0.1 C0.2.1 dX8_input_72 rfl (lv_at hl 0 rfl) ?_
    refine fl_getr (k := 4) (t := 392) ck_9 C0 hF7 ka0 rfl (wt_at (k := 4) (t := 392) hWT ka0 rfl) rfl ⟨rfl, rfl⟩ aw_878 dX8_input_73 ?_
    refine fl_bipush C0 dX8_input_76 (by decide) ?_
    refine fl_iald (n := 73) C0 hF7 (wt_at (k := 4) (t := 392) hWT ka0 rfl) (rgk 72 rfl) ⟨by decide, by decide⟩ dX8_input_78 ?_
    cases hf
    exact fl_iret C0 hF7 hr (hF7.rI _ _) rfl dX8_input_79
  · replace hf := (if_neg c5).symm.trans hf
    refine fl_iconst C0 dX8_input_42 ?_
    cases hf
    exact fl_iret C0 hF4 hr (rgk 0 rfl) rfl dX8_input_43
theorem pm_X8_input : plainM yX8_input 1 := by decide +kernel
set_option maxRecDepth 100000 in
set_option maxHeartbeats 4000000 in
theorem c_X8_input (l : Launch) (D : va_G) (cy : Nat → ClassId) (B : Nat) (L : List Nat) (K : KT) (P : PT) (J : IT) (hWT : WT K P) (I : IT) (a0 : Nat) (x1 : Int) (ka0 : K a0 = 9) (rx1 : rg x1) {r : Int} {I' : IT} (hf : f_X8_input K P I a0 x1 = some (r, I')) : Met l yX8_input [.code yX8_input cX8_input 2 (some .int)] rm_X8_input (va_Pc [.ref a0, iv x1] (FW D cy B L K P J I)) (QI D cy B L K P J (r, I')) 0 0 (fun q => B ≤ q) := by
  refine fl_body (own := "RejudgeHallModel") [.ref a0, iv x1] (by decide) rfl (Nat.le_of_ble_eq_true rfl) ?_
  intro p e s m args below meth c ls C0 hr hF hl
  have hl : lv_has ls 2 [(0, .ref a0), (1, iv x1)] := hl
  unfold f_X8_input at hf
  refine lv_aload_n C0.1 C0.2.1 dX8_input_0 rfl (lv_at hl 0 rfl) ?_
  refine lv_iload_n C0.1 C0.2.1 dX8_input_1 rfl (lv_at hl 1 rfl) ?_
  refine fl_bipush C0 dX8_input_2 (by decide) ?_
  refine fl_bipush C0 dX8_input_4 (by decide) ?_
  obtain ⟨r1, hq1, hf⟩ := bp_f hf
  refine fl_ri hF (fl_runSG (As := [iv x1, iv (-9), iv 9]) (rest := [.ref a0]) C0 hF hl.1 (c_X8_isIn l D cy B L K P J hWT I x1 ((-9)) 9 rx1 ((rgk (-9) rfl)) ((rgk 9 rfl)) hq1) aw_1000 aw_1001 aw_73 aw_1002 rfl pm_X8_isIn rfl rfl ⟨Nat.le_of_ble_eq_true rfl, Nat.le_of_ble_eq_true rfl⟩ rfl (Nat.le_of_ble_eq_true rfl) dX8_input_6 ⟨Nat.le_of_ble_eq_true rfl, Nat.le_of_ble_eq_true rfl⟩) (fun H locs hF1 rr1 => ?_)
  refine fl_if_ne (tgt := 16) C0 rr1 dX8_input_9 (by decide) (fun c2 => ?_) (fun c2 => ?_)
  · replace hf := (if_neg c2).symm.trans hf
    refine lv_aload_n C0.1 C0.2.1 dX8_input_16 rfl (lv_at hl 0 rfl) ?_
    refine fl_getr (k := 4) (t := 392) ck_9 C0 hF1 ka0 rfl (wt_at (k := 4) (t := 392) hWT ka0 rfl) rfl ⟨rfl, rfl⟩ aw_878 dX8_input_17 ?_
    refine fl_bipush C0 dX8_input_20 (by decide) ?_
    refine fl_iald (n := 73) C0 hF1 (wt_at (k := 4) (t := 392) hWT ka0 rfl) (rgk 72 rfl) ⟨by decide, by decide⟩ dX8_input_22 ?_
    refine fl_iconst C0 dX8_input_23 ?_
    refine fl_icmp_ne (tgt := 31) C0 (hF1.rI _ _) (rgk 4 rfl) dX8_input_24 (by decide) (fun c3 => ?_) (fun c3 => ?_)
    · replace hf := (if_neg c3).symm.trans hf
      refine fl_iconst C0 dX8_input_31 ?_
      exact b_X8_input_32 C0 hr hWT  I a0 x1 0 a0 _ _ _ ka0 rx1 ((rgk 0 rfl)) ka0 hF1 (lv_sub hl [0, 1] rfl) hf
    · replace hf := (if_pos c3).symm.trans hf
      refine fl_iconst C0 dX8_input_27 ?_
      refine fl_goto (tgt := 32) C0 dX8_input_28 (by decide) ?_
      exact b_X8_input_32 C0 hr hWT  I a0 x1 2 a0 _ _ _ ka0 rx1 ((rgk 2 rfl)) ka0 hF1 (lv_sub hl [0, 1] rfl) hf
  · replace hf := (if_pos c2).symm.trans hf
    refine fl_iconst C0 dX8_input_12 ?_
    refine fl_goto (tgt := 32) C0 dX8_input_13 (by decide) ?_
    exact b_X8_input_32 C0 hr hWT  I a0 x1 1 a0 _ _ _ ka0 rx1 ((rgk 1 rfl)) ka0 hF1 (lv_sub hl [0, 1] rfl) hf
-- RejudgeHallModel.clear()I
abbrev rm_X8_clear : Room := { frames := 1, cells := 0, slots := 0, locals := 21 }
def f_X8_clear (K : KT) (P : PT) (I : IT) (a0 : Nat) : Option (Int × IT) := bnd (up I a0 38 0) fun I1 => bp (f_X8_empties K P I1 a0 0) fun I2 => bnd (up I2 ((P a0 4)) (72 : Int).toNat 0) fun I3 => some ((I1 ((P a0 1)) (0 : Int).toNat), I3)
theorem pm_X8_clear : plainM yX8_clear 0 := by decide +kernel
set_option maxRecDepth 100000 in
set_option maxHeartbeats 4000000 in
theorem c_X8_clear (l : Launch) (D : va_G) (cy : Nat → ClassId) (B : Nat) (L : List Nat) (K : KT) (P : PT) (J : IT) (hWT : WT K P) (I : IT) (a0 : Nat) (ka0 : K a0 = 9) {r : Int} {I' : IT} (hf : f_X8_clear K P I a0 = some (r, I')) : Met l yX8_clear [.code yX8_clear cX8_clear 2 (some .int)] rm_X8_clear (va_Pc [.ref a0] (FW D cy B L K P J I)) (QI D cy B L K P J (r, I')) 0 0 (fun q => B ≤ q) := by
  refine fl_body (own := "RejudgeHallModel") [.ref a0] (by decide) rfl (Nat.le_of_ble_eq_true rfl) ?_
  intro p e s m args below meth c ls C0 hr hF hl
  have hl : lv_has ls 2 [(0, .ref a0)] := hl
  unfold f_X8_clear at hf
  refine lv_aload_n C0.1 C0.2.1 dX8_clear_0 rfl (lv_at hl 0 rfl) ?_
  refine fl_iconst C0 dX8_clear_1 ?_
  refine fl_puti (k := 38) ck_9 C0 hF ka0 rfl (rgk 0 rfl) ⟨rfl, rfl, rfl⟩ aw_912 dX8_clear_2 (fun H locs hF1 => ?_)
  obtain ⟨I1, eI1, hf⟩ := bnd_f hf
  rw [eI1] at hF1
  refine lv_aload_n C0.1 C0.2.1 dX8_clear_5 rfl (lv_at hl 0 rfl) ?_
  refine fl_getr (k := 1) (t := 368) ck_9 C0 hF1 ka0 rfl (wt_at (k := 1) (t := 368) hWT ka0 rfl) rfl ⟨rfl, rfl⟩ aw_875 dX8_clear_6 ?_
  refine fl_iconst C0 dX8_clear_9 ?_
  refine fl_iald (n := 67) C0 hF1 (wt_at (k := 1) (t := 368) hWT ka0 rfl) (rgk 0 rfl) ⟨by decide, by decide⟩ dX8_clear_10 ?_
  refine lv_istore_n (lv' := [(1, iv (I1 ((P a0 1)) (0 : Int).toNat)), (0, .ref a0)]) C0.1 C0.2.1 dX8_clear_11 rfl hl (by decide) rfl (fun ls hl => ?_)
  refine lv_aload_n C0.1 C0.2.1 dX8_clear_12 rfl (lv_at hl 1 rfl) ?_
  refine fl_iconst C0 dX8_clear_13 ?_
  obtain ⟨I2, hq2, hf⟩ := bp_f hf
  refine fl_rv hF1 (fl_runV (As := [iv 0]) (rest := []) C0 hF1 hl.1 ck_9 ka0 rfl (c_X8_empties l D cy B L K P J hWT I1 a0 0 ka0 ((rgk 0 rfl)) hq2) aw_1011 aw_1013 aw_44 aw_73 aw_1014 rfl rfl pm_X8_empties rfl rfl ⟨Nat.le_of_ble_eq_true rfl, Nat.le_of_ble_eq_true rfl⟩ rfl (Nat.le_of_ble_eq_true rfl) dX8_clear_14 ⟨Nat.le_of_ble_eq_true rfl, Nat.le_of_ble_eq_true rfl⟩) (fun H locs hF2 => ?_)
  refine lv_aload_n C0.1 C0.2.1 dX8_clear_17 rfl (lv_at hl 1 rfl) ?_
  refine fl_getr (k := 4) (t := 392) ck_9 C0 hF2 ka0 rfl (wt_at (k := 4) (t := 392) hWT ka0 rfl) rfl ⟨rfl, rfl⟩ aw_878 dX8_clear_18 ?_
  refine fl_bipush C0 dX8_clear_21 (by decide) ?_
  refine fl_iconst C0 dX8_clear_23 ?_
  refine fl_iast (n := 73) C0 hF2 (wt_at (k := 4) (t := 392) hWT ka0 rfl) (rgk 72 rfl) (rgk 0 rfl) ⟨by decide, by decide⟩ dX8_clear_24 (fun H locs hF3 => ?_)
  obtain ⟨I3, eI3, hf⟩ := bnd_f hf
  rw [eI3] at hF3
  refine lv_iload_n C0.1 C0.2.1 dX8_clear_25 rfl (lv_at hl 0 rfl) ?_
  cases hf
  exact fl_iret C0 hF3 hr (hF1.rI _ _) rfl dX8_clear_26
-- RejudgeHallModel.run(II)I
abbrev rm_X8_run : Room := { frames := 4, cells := 0, slots := 0, locals := 94 }
def f_X8_run_27 (K : KT) (P : PT) (I : IT) (a0 : Nat) (x1 : Int) (x2 : Int) (t0 : Int) (b1 : Nat) : Option (Int × IT) := bnd (up I b1 38 t0) fun I5 => if (I5 a0 38) ≤ 0 then (bp (f_X8_runs K P I5 a0 0 72 x1) fun I7 => if x2 = 0 then (some ((I7 a0 25), I7)) else (if x2 = 1 then (some ((I7 a0 26), I7)) else (if x2 = 2 then (some ((I7 a0 27), I7)) else (if (I7 a0 27) ≤ (wr (x2 - 3)) then (some (0, I7)) else (ck (0 ≤ (wr (x2 - 3)) ∧ (wr (x2 - 3)) < 8) <| some ((I7 ((P a0 28)) ((wr (x2 - 3)) : Int).toNat), I7)))))) else (some (0, I5))
def f_X8_run_26 (K : KT) (P : PT) (I : IT) (a0 : Nat) (x1 : Int) (x2 : Int) (b0 : Nat) : Option (Int × IT) := f_X8_run_27 K P  I a0 x1 x2 1 b0
def f_X8_run (K : KT) (P : PT) (I : IT) (a0 : Nat) (x1 : Int) (x2 : Int) : Option (Int × IT) := bp (f_X8_isIn K P I x1 1 500) fun r1 => if r1 = 0 then (f_X8_run_26 K P  I a0 x1 x2 a0) else (bp (f_X8_isIn K P I x2 0 10) fun r3 => if r3 = 0 then (f_X8_run_26 K P  I a0 x1 x2 a0) else (f_X8_run_27 K P  I a0 x1 x2 0 a0))
abbrev G_X8_run_27 (p : Program) (l : Launch) (e : Env) (s : State) (m : MethodId) (args : Array Value) (below : List Frame) (meth : Method) (c : Code) (D : va_G) (cy : Nat → ClassId) (B : Nat) (L : List Nat) (K : KT) (P : PT) (J : IT) (res : Int × IT) (f : IT → Nat → Int → Int → Int → Nat → Option (Int × IT)) : Prop := ∀ (I : IT) (a0 : Nat) (x1 : Int) (x2 : Int) (t0 : Int) (b1 : Nat) (H : Heap) (locs : List Loc) (ls : Array Slot), K a0 = 9 → rg x1 → rg x2 → rg t0 → K b1 = 9 → FS D cy B L K P J s.heap I H locs → lv_has ls 3 [(0, .ref a0), (1, iv x1), (2, iv x2)] → f I a0 x1 x2 t0 b1 = some res → W p l e rm_X8_run s m args below meth c H locs 0 0 (MQ below (QI D cy B L K P J res) args s 0 0 (fun q => B ≤ q)) (F0 m 27 ls [iv t0, .ref b1])
abbrev G_X8_run_26 (p : Program) (l : Launch) (e : Env) (s : State) (m : MethodId) (args : Array Value) (below : List Frame) (meth : Method) (c : Code) (D : va_G) (cy : Nat → ClassId) (B : Nat) (L : List Nat) (K : KT) (P : PT) (J : IT) (res : Int × IT) (f : IT → Nat → Int → Int → Nat → Option (Int × IT)) : Prop := ∀ (I : IT) (a0 : Nat) (x1 : Int) (x2 : Int) (b0 : Nat) (H : Heap) (locs : List Loc) (ls : Array Slot), K a0 = 9 → rg x1 → rg x2 → K b0 = 9 → FS D cy B L K P J s.heap I H locs → lv_has ls 3 [(0, .ref a0), (1, iv x1), (2, iv x2)] → f I a0 x1 x2 b0 = some res → W p l e rm_X8_run s m args below meth c H locs 0 0 (MQ below (QI D cy B L K P J res) args s 0 0 (fun q => B ≤ q)) (F0 m 26 ls [.ref b0])
set_option maxRecDepth 100000 in
set_option maxHeartbeats 4000000 in
theorem b_X8_run_27 {p : Program} {l : Launch} {e : Env} {s : State} {m : MethodId} {args : Array Value} {below : List Frame} {meth : Method} {c : Code} {D : va_G} {cy : Nat → ClassId} {B : Nat} {L : List Nat} {K : KT} {P : PT} {J : IT} {res : Int × IT} (C0 : FC D cy B p s m meth c "RejudgeHallModel" cX8_run 3) (hr : meth.sig.returnType = (some .int)) (hWT : WT K P) : G_X8_run_27 p l e s m args below meth c D cy B L K P J res (f_X8_run_27 K P ) := by
  intro I a0 x1 x2 t0 b1 H locs ls ka0 rx1 rx2 rt0 kb1 hF hl hf
  unfold f_X8_run_27 at hf
  refine fl_puti (k := 38) ck_9 C0 hF kb1 rfl rt0 ⟨rfl, rfl, rfl⟩ aw_912 dX8_run_27 (fun H locs hF5 => ?_)
  obtain ⟨I5, eI5, hf⟩ := bnd_f hf
  rw [eI5] at hF5
  refine lv_aload_n C0.1 C0.2.1 dX8_run_30 rfl (lv_at hl 0 rfl) ?_
  refine fl_geti (k := 38) ck_9 C0 hF5 ka0 rfl ⟨rfl, rfl⟩ aw_912 dX8_run_31 ?_
  refine fl_if_le (tgt := 39) C0 (hF5.rI _ _) dX8_run_34 (by decide) (fun c6 => ?_) (fun c6 => ?_)
  · replace hf := (if_pos c6).symm.trans hf
    refine lv_aload_n C0.1 C0.2.1 dX8_run_39 rfl (lv_at hl 0 rfl) ?_
    refine fl_iconst C0 dX8_run_40 ?_
    refine fl_bipush C0 dX8_run_41 (by decide) ?_
    refine lv_iload_n C0.1 C0.2.1 dX8_run_43 rfl (lv_at hl 1 rfl) ?_
    obtain ⟨I7, hq7, hf⟩ := bp_f hf
    refine fl_rv hF5 (fl_runV (As := [iv 0, iv 72, iv x1]) (rest := []) C0 hF5 hl.1 ck_9 ka0 rfl (c_X8_runs l D cy B L K P J hWT I5 a0 0 72 x1 ka0 ((rgk 0 rfl)) ((rgk 72 rfl)) rx1 hq7) aw_1019 aw_1021 aw_45 aw_73 aw_1022 rfl rfl pm_X8_runs rfl rfl ⟨Nat.le_of_ble_eq_true rfl, Nat.le_of_ble_eq_true rfl⟩ rfl (Nat.le_of_ble_eq_true rfl) dX8_run_44 ⟨Nat.le_of_ble_eq_true rfl, Nat.le_of_ble_eq_true rfl⟩) (fun H locs hF7 => ?_)
    refine lv_iload_n C0.1 C0.2.1 dX8_run_47 rfl (lv_at hl 2 rfl) ?_
    refine fl_if_ne (tgt := 58) C0 rx2 dX8_run_48 (by decide) (fun c8 => ?_) (fun c8 => ?_)
    · replace hf := (if_neg c8).symm.trans hf
      refine lv_iload_n C0.1 C0.2.1 dX8_run_58 rfl (lv_at hl 2 rfl) ?_
      refine fl_iconst C0 dX8_run_59 ?_
      refine fl_icmp_ne (tgt := 70) C0 rx2 (rgk 1 rfl) dX8_run_60 (by decide) (fun c9 => ?_) (fun c9 => ?_)
      · replace hf := (if_neg c9).symm.trans hf
        refine lv_iload_n C0.1 C0.2.1 dX8_run_70 rfl (lv_at hl 2 rfl) ?_
        refine fl_iconst C0 dX8_run_71 ?_
        refine fl_icmp_ne (tgt := 82) C0 rx2 (rgk 2 rfl) dX8_run_72 (by decide) (fun c10 => ?_) (fun c10 => ?_)
        · replace hf := (if_neg c10).symm.trans hf
          refine lv_iload_n C0.1 C0.2.1 dX8_run_82 rfl (lv_at hl 2 rfl) ?_
          refine fl_iconst C0 dX8_run_83 ?_
          refine fl_isub C0 dX8_run_84 ?_
          refine lv_aload_n C0.1 C0.2.1 dX8_run_85 rfl (lv_at hl 0 rfl) ?_
          refine fl_geti (k := 27) ck_9 C0 hF7 ka0 rfl ⟨rfl, rfl⟩ aw_901 dX8_run_86 ?_
          refine fl_icmp_ge (tgt := 103) C0 (rg_wr _) (hF7.rI _ _) dX8_run_89 (by decide) (fun c11 => ?_) (fun c11 => ?_)
          · replace hf := (if_pos c11).symm.trans hf
            refine fl_iconst C0 dX8_run_103 ?_
            cases hf
            exact fl_iret C0 hF7 hr (rgk 0 rfl) rfl dX8_run_104
          · replace hf := (if_neg c11).symm.trans hf
            refine lv_aload_n C0.1 C0.2.1 dX8_run_92 rfl (lv_at hl 0 rfl) ?_
            refine fl_getr (k := 28) (t := 132) ck_9 C0 hF7 ka0 rfl (wt_at (k := 28) (t := 132) hWT ka0 rfl) rfl ⟨rfl, rfl⟩ aw_902 dX8_run_93 ?_
            refine lv_iload_n C0.1 C0.2.1 dX8_run_96 rfl (lv_at hl 2 rfl) ?_
            refine fl_iconst C0 dX8_run_97 ?_
            refine fl_isub C0 dX8_run_98 ?_
            obtain ⟨hc, hf⟩ := ck_f hf
            refine fl_iald (n := 8) C0 hF7 (wt_at (k := 28) (t := 132) hWT ka0 rfl) (rg_wr _) hc dX8_run_99 ?_
            refine fl_goto (tgt := 104) C0 dX8_run_100 (by decide) ?_
            cases hf
            exact fl_iret C0 hF7 hr (hF7.rI _ _) rfl dX8_run_104
        · replace hf := (if_pos c10).symm.trans hf
          refine lv_aload_n C0.1 C0.2.1 dX8_run_75 rfl (lv_at hl 0 rfl) ?_
          refine fl_geti (k := 27) ck_9 C0 hF7 ka0 rfl ⟨rfl, rfl⟩ aw_901 dX8_run_76 ?_
          refine fl_goto (tgt := 104) C0 dX8_run_79 (by decide) ?_
          cases hf
          exact fl_iret C0 hF7 hr (hF7.rI _ _) rfl dX8_run_104
      · replace hf := (if_pos c9).symm.trans hf
        refine lv_aload_n C0.1 C0.2.1 dX8_run_63 rfl (lv_at hl 0 rfl) ?_
        refine fl_geti (k := 26) ck_9 C0 hF7 ka0 rfl ⟨rfl, rfl⟩ aw_900 dX8_run_64 ?_
        refine fl_goto (tgt := 104) C0 dX8_run_67 (by decide) ?_
        cases hf
        exact fl_iret C0 hF7 hr (hF7.rI _ _) rfl dX8_run_104
    · replace hf := (if_pos c8).symm.trans hf
      refine lv_aload_n C0.1 C0.2.1 dX8_run_51 rfl (lv_at hl 0 rfl) ?_
      refine fl_geti (k := 25) ck_9 C0 hF7 ka0 rfl ⟨rfl, rfl⟩ aw_899 dX8_run_52 ?_
      refine fl_goto (tgt := 104) C0 dX8_run_55 (by decide) ?_
      cases hf
      exact fl_iret C0 hF7 hr (hF7.rI _ _) rfl dX8_run_104
  · replace hf := (if_neg c6).symm.trans hf
    refine fl_iconst C0 dX8_run_37 ?_
    cases hf
    exact fl_iret C0 hF5 hr (rgk 0 rfl) rfl dX8_run_38
set_option maxRecDepth 100000 in
set_option maxHeartbeats 4000000 in
theorem b_X8_run_26 {p : Program} {l : Launch} {e : Env} {s : State} {m : MethodId} {args : Array Value} {below : List Frame} {meth : Method} {c : Code} {D : va_G} {cy : Nat → ClassId} {B : Nat} {L : List Nat} {K : KT} {P : PT} {J : IT} {res : Int × IT} (C0 : FC D cy B p s m meth c "RejudgeHallModel" cX8_run 3) (hr : meth.sig.returnType = (some .int)) (hWT : WT K P) : G_X8_run_26 p l e s m args below meth c D cy B L K P J res (f_X8_run_26 K P ) := by
  intro I a0 x1 x2 b0 H locs ls ka0 rx1 rx2 kb0 hF hl hf
  unfold f_X8_run_26 at hf
  refine fl_iconst C0 dX8_run_26 ?_
  exact b_X8_run_27 C0 hr hWT  I a0 x1 x2 1 b0 _ _ _ ka0 rx1 rx2 ((rgk 1 rfl)) kb0 hF (lv_sub hl [0, 1, 2] rfl) hf
theorem pm_X8_run : plainM yX8_run 2 := by decide +kernel
set_option maxRecDepth 100000 in
set_option maxHeartbeats 4000000 in
theorem c_X8_run (l : Launch) (D : va_G) (cy : Nat → ClassId) (B : Nat) (L : List Nat) (K : KT) (P : PT) (J : IT) (hWT : WT K P) (I : IT) (a0 : Nat) (x1 : Int) (x2 : Int) (ka0 : K a0 = 9) (rx1 : rg x1) (rx2 : rg x2) {r : Int} {I' : IT} (hf : f_X8_run K P I a0 x1 x2 = some (r, I')) : Met l yX8_run [.code yX8_run cX8_run 3 (some .int)] rm_X8_run (va_Pc [.ref a0, iv x1, iv x2] (FW D cy B L K P J I)) (QI D cy B L K P J (r, I')) 0 0 (fun q => B ≤ q) := by
  refine fl_body (own := "RejudgeHallModel") [.ref a0, iv x1, iv x2] (by decide) rfl (Nat.le_of_ble_eq_true rfl) ?_
  intro p e s m args below meth c ls C0 hr hF hl
  have hl : lv_has ls 3 [(0, .ref a0), (1, iv x1), (2, iv x2)] := hl
  unfold f_X8_run at hf
  refine lv_aload_n C0.1 C0.2.1 dX8_run_0 rfl (lv_at hl 0 rfl) ?_
  refine lv_iload_n C0.1 C0.2.1 dX8_run_1 rfl (lv_at hl 1 rfl) ?_
  refine fl_iconst C0 dX8_run_2 ?_
  refine fl_sipush C0 dX8_run_3 (by decide) ?_
  obtain ⟨r1, hq1, hf⟩ := bp_f hf
  refine fl_ri hF (fl_runSG (As := [iv x1, iv 1, iv 500]) (rest := [.ref a0]) C0 hF hl.1 (c_X8_isIn l D cy B L K P J hWT I x1 1 500 rx1 ((rgk 1 rfl)) ((rgk 500 rfl)) hq1) aw_1000 aw_1001 aw_73 aw_1002 rfl pm_X8_isIn rfl rfl ⟨Nat.le_of_ble_eq_true rfl, Nat.le_of_ble_eq_true rfl⟩ rfl (Nat.le_of_ble_eq_true rfl) dX8_run_6 ⟨Nat.le_of_ble_eq_true rfl, Nat.le_of_ble_eq_true rfl⟩) (fun H locs hF1 rr1 => ?_)
  refine fl_if_eq (tgt := 26) C0 rr1 dX8_run_9 (by decide) (fun c2 => ?_) (fun c2 => ?_)
  · replace hf := (if_pos c2).symm.trans hf
    exact b_X8_run_26 C0 hr hWT  I a0 x1 x2 a0 _ _ _ ka0 rx1 rx2 ka0 hF1 (lv_sub hl [0, 1, 2] rfl) hf
  · replace hf := (if_neg c2).symm.trans hf
    refine lv_iload_n C0.1 C0.2.1 dX8_run_12 rfl (lv_at hl 2 rfl) ?_
    refine fl_iconst C0 dX8_run_13 ?_
    refine fl_bipush C0 dX8_run_14 (by decide) ?_
    obtain ⟨r3, hq3, hf⟩ := bp_f hf
    refine fl_ri hF1 (fl_runSG (As := [iv x2, iv 0, iv 10]) (rest := [.ref a0]) C0 hF1 hl.1 (c_X8_isIn l D cy B L K P J hWT I x2 0 10 rx2 ((rgk 0 rfl)) ((rgk 10 rfl)) hq3) aw_1000 aw_1001 aw_73 aw_1002 rfl pm_X8_isIn rfl rfl ⟨Nat.le_of_ble_eq_true rfl, Nat.le_of_ble_eq_true rfl⟩ rfl (Nat.le_of_ble_eq_true rfl) dX8_run_16 ⟨Nat.le_of_ble_eq_true rfl, Nat.le_of_ble_eq_true rfl⟩) (fun H locs hF3 rr3 => ?_)
    refine fl_if_eq (tgt := 26) C0 rr3 dX8_run_19 (by decide) (fun c4 => ?_) (fun c4 => ?_)
    · replace hf := (if_pos c4).symm.trans hf
      exact b_X8_run_26 C0 hr hWT  I a0 x1 x2 a0 _ _ _ ka0 rx1 rx2 ka0 hF3 (lv_sub hl [0, 1, 2] rfl) hf
    · replace hf := (if_neg c4).symm.trans hf
      refine fl_iconst C0 dX8_run_22 ?_
      refine fl_goto (tgt := 27) C0 dX8_run_23 (by decide) ?_
      exact b_X8_run_27 C0 hr hWT  I a0 x1 x2 0 a0 _ _ _ ka0 rx1 rx2 ((rgk 0 rfl)) ka0 hF3 (lv_sub hl [0, 1, 2] rfl) hf
-- RejudgeHallModel.answers(II)Z
abbrev rm_X8_answers : Room := { frames := 4, cells := 0, slots := 0, locals := 94 }
def f_X8_answers_45 (K : KT) (P : PT) (I : IT) (a0 : Nat) : Option (Int × IT) := if (I a0 25) = 0 then (some (1, I)) else (some (0, I))
def f_X8_answers_19 (K : KT) (P : PT) : Nat → IT → Nat → Int → Option (Int × IT)
  | 0, _, _, _ => none
  | n + 1, I, a0, x3 => if (I a0 27) ≤ x3 then (f_X8_answers_45 K P  I a0) else (ck (0 ≤ x3 ∧ x3 < 8) <| ck (0 ≤ x3 ∧ x3 < 8) <| bnd (up I ((P a0 32)) (x3 : Int).toNat (I ((P a0 28)) (x3 : Int).toNat)) fun I4 => (f_X8_answers_19 K P  n) I4 a0 ((wr (x3 + 1))))
def f_X8_answers (K : KT) (P : PT) (I : IT) (a0 : Nat) (x1 : Int) (x2 : Int) : Option (Int × IT) := bp (f_X8_runs K P I a0 x1 x2 500) fun I1 => bnd (up I1 a0 31 (I1 a0 27)) fun I2 => f_X8_answers_19 K P  FU I2 a0 0
abbrev G_X8_answers_45 (p : Program) (l : Launch) (e : Env) (s : State) (m : MethodId) (args : Array Value) (below : List Frame) (meth : Method) (c : Code) (D : va_G) (cy : Nat → ClassId) (B : Nat) (L : List Nat) (K : KT) (P : PT) (J : IT) (res : Int × IT) (f : IT → Nat → Option (Int × IT)) : Prop := ∀ (I : IT) (a0 : Nat) (H : Heap) (locs : List Loc) (ls : Array Slot), K a0 = 9 → FS D cy B L K P J s.heap I H locs → lv_has ls 4 [(0, .ref a0)] → f I a0 = some res → W p l e rm_X8_answers s m args below meth c H locs 0 0 (MQ below (QI D cy B L K P J res) args s 0 0 (fun q => B ≤ q)) (F0 m 45 ls [])
abbrev G_X8_answers_19 (p : Program) (l : Launch) (e : Env) (s : State) (m : MethodId) (args : Array Value) (below : List Frame) (meth : Method) (c : Code) (D : va_G) (cy : Nat → ClassId) (B : Nat) (L : List Nat) (K : KT) (P : PT) (J : IT) (res : Int × IT) (f : IT → Nat → Int → Option (Int × IT)) : Prop := ∀ (I : IT) (a0 : Nat) (x3 : Int) (H : Heap) (locs : List Loc) (ls : Array Slot), K a0 = 9 → rg x3 → FS D cy B L K P J s.heap I H locs → lv_has ls 4 [(0, .ref a0), (3, iv x3)] → f I a0 x3 = some res → W p l e rm_X8_answers s m args below meth c H locs 0 0 (MQ below (QI D cy B L K P J res) args s 0 0 (fun q => B ≤ q)) (F0 m 19 ls [])
set_option maxRecDepth 100000 in
set_option maxHeartbeats 4000000 in
theorem b_X8_answers_45 {p : Program} {l : Launch} {e : Env} {s : State} {m : MethodId} {args : Array Value} {below : List Frame} {meth : Method} {c : Code} {D : va_G} {cy : Nat → ClassId} {B : Nat} {L : List Nat} {K : KT} {P : PT} {J : IT} {res : Int × IT} (C0 : FC D cy B p s m meth c "RejudgeHallModel" cX8_answers 4) (hr : meth.sig.returnType = (some .boolean)) (hWT : WT K P) : G_X8_answers_45 p l e s m args below meth c D cy B L K P J res (f_X8_answers_45 K P ) := by
  intro I a0 H locs ls ka0 hF hl hf
  unfold f_X8_answers_45 at hf
  refine lv_aload_n C0.1 C0.2.1 dX8_answers_45 rfl (lv_at hl 0 rfl) ?_
  refine fl_geti (k := 25) ck_9 C0 hF ka0 rfl ⟨rfl, rfl⟩ aw_899 dX8_answers_46 ?_
  refine fl_if_ne (tgt := 56) C0 (hF.rI _ _) dX8_answers_49 (by decide) (fun c5 => ?_) (fun c5 => ?_)
  · replace hf := (if_neg c5).symm.trans hf
    refine fl_iconst C0 dX8_answers_56 ?_
    cases hf
    exact fl_zret C0 hF hr (rgk 0 rfl) (Or.inl rfl) rfl dX8_answers_57
  · replace hf := (if_pos c5).symm.trans hf
    refine fl_iconst C0 dX8_answers_52 ?_
    refine fl_goto (tgt := 57) C0 dX8_answers_53 (by decide) ?_
    cases hf
    exact fl_zret C0 hF hr (rgk 1 rfl) (Or.inr rfl) rfl dX8_answers_57
set_option maxRecDepth 100000 in
set_option maxHeartbeats 4000000 in
theorem b_X8_answers_19 {p : Program} {l : Launch} {e : Env} {s : State} {m : MethodId} {args : Array Value} {below : List Frame} {meth : Method} {c : Code} {D : va_G} {cy : Nat → ClassId} {B : Nat} {L : List Nat} {K : KT} {P : PT} {J : IT} {res : Int × IT} (C0 : FC D cy B p s m meth c "RejudgeHallModel" cX8_answers 4) (hr : meth.sig.returnType = (some .boolean)) (hWT : WT K P) : ∀ n : Nat, G_X8_answers_19 p l e s m args below meth c D cy B L K P J res (f_X8_answers_19 K P  n)
  | 0 => by
    intro I a0 x3 H locs ls ka0 rx3 hF hl hf
    cases hf
  | n + 1 => by
    have ih : G_X8_answers_19 p l e s m args below meth c D cy B L K P J res (f_X8_answers_19 K P  n)  := b_X8_answers_19 C0 hr hWT  n
    intro I a0 x3 H locs ls ka0 rx3 hF hl hf
    rw [f_X8_answers_19] at hf
    refine lv_iload_n C0.1 C0.2.1 dX8_answers_19 rfl (lv_at hl 1 rfl) ?_
    refine lv_aload_n C0.1 C0.2.1 dX8_answers_20 rfl (lv_at hl 0 rfl) ?_
    refine fl_geti (k := 27) ck_9 C0 hF ka0 rfl ⟨rfl, rfl⟩ aw_901 dX8_answers_21 ?_
    refine fl_icmp_ge (tgt := 45) C0 rx3 (hF.rI _ _) dX8_answers_24 (by decide) (fun c3 => ?_) (fun c3 => ?_)
    · replace hf := (if_pos c3).symm.trans hf
      exact b_X8_answers_45 C0 hr hWT  I a0 _ _ _ ka0 hF (lv_sub hl [0] rfl) hf
    · replace hf := (if_neg c3).symm.trans hf
      refine lv_aload_n C0.1 C0.2.1 dX8_answers_27 rfl (lv_at hl 0 rfl) ?_
      refine fl_getr (k := 32) (t := 132) ck_9 C0 hF ka0 rfl (wt_at (k := 32) (t := 132) hWT ka0 rfl) rfl ⟨rfl, rfl⟩ aw_906 dX8_answers_28 ?_
      refine lv_iload_n C0.1 C0.2.1 dX8_answers_31 rfl (lv_at hl 1 rfl) ?_
      refine lv_aload_n C0.1 C0.2.1 dX8_answers_32 rfl (lv_at hl 0 rfl) ?_
      refine fl_getr (k := 28) (t := 132) ck_9 C0 hF ka0 rfl (wt_at (k := 28) (t := 132) hWT ka0 rfl) rfl ⟨rfl, rfl⟩ aw_902 dX8_answers_33 ?_
      refine lv_iload_n C0.1 C0.2.1 dX8_answers_36 rfl (lv_at hl 1 rfl) ?_
      obtain ⟨hc, hf⟩ := ck_f hf
      refine fl_iald (n := 8) C0 hF (wt_at (k := 28) (t := 132) hWT ka0 rfl) rx3 hc dX8_answers_37 ?_
      obtain ⟨hc, hf⟩ := ck_f hf
      refine fl_iast (n := 8) C0 hF (wt_at (k := 32) (t := 132) hWT ka0 rfl) rx3 (hF.rI _ _) hc dX8_answers_38 (fun H locs hF4 => ?_)
      obtain ⟨I4, eI4, hf⟩ := bnd_f hf
      rw [eI4] at hF4
      refine fl_iinc (lv' := [(3, iv (wr (x3 + 1))), (0, .ref a0)]) C0 dX8_answers_39 hl (k := 1) rfl (by decide) rfl (fun ls hl => ?_)
      refine fl_goto (tgt := 19) C0 dX8_answers_42 (by decide) ?_
      exact ih I4 a0 ((wr (x3 + 1))) _ _ _ ka0 ((rg_wr _)) hF4 (lv_sub hl [1, 0] rfl) hf
theorem pm_X8_answers : plainM yX8_answers 2 := by decide +kernel
set_option maxRecDepth 100000 in
set_option maxHeartbeats 4000000 in
theorem c_X8_answers (l : Launch) (D : va_G) (cy : Nat → ClassId) (B : Nat) (L : List Nat) (K : KT) (P : PT) (J : IT) (hWT : WT K P) (I : IT) (a0 : Nat) (x1 : Int) (x2 : Int) (ka0 : K a0 = 9) (rx1 : rg x1) (rx2 : rg x2) {r : Int} {I' : IT} (hf : f_X8_answers K P I a0 x1 x2 = some (r, I')) : Met l yX8_answers [.code yX8_answers cX8_answers 4 (some .boolean)] rm_X8_answers (va_Pc [.ref a0, iv x1, iv x2] (FW D cy B L K P J I)) (QI D cy B L K P J (r, I')) 0 0 (fun q => B ≤ q) := by
  refine fl_body (own := "RejudgeHallModel") [.ref a0, iv x1, iv x2] (by decide) rfl (Nat.le_of_ble_eq_true rfl) ?_
  intro p e s m args below meth c ls C0 hr hF hl
  have hl : lv_has ls 4 [(0, .ref a0), (1, iv x1), (2, iv x2)] := hl
  unfold f_X8_answers at hf
  refine lv_aload_n C0.1 C0.2.1 dX8_answers_0 rfl (lv_at hl 0 rfl) ?_
  refine lv_iload_n C0.1 C0.2.1 dX8_answers_1 rfl (lv_at hl 1 rfl) ?_
  refine lv_iload_n C0.1 C0.2.1 dX8_answers_2 rfl (lv_at hl 2 rfl) ?_
  refine fl_sipush C0 dX8_answers_3 (by decide) ?_
  obtain ⟨I1, hq1, hf⟩ := bp_f hf
  refine fl_rv hF (fl_runV (As := [iv x1, iv x2, iv 500]) (rest := []) C0 hF hl.1 ck_9 ka0 rfl (c_X8_runs l D cy B L K P J hWT I a0 x1 x2 500 ka0 rx1 rx2 ((rgk 500 rfl)) hq1) aw_1019 aw_1021 aw_45 aw_73 aw_1022 rfl rfl pm_X8_runs rfl rfl ⟨Nat.le_of_ble_eq_true rfl, Nat.le_of_ble_eq_true rfl⟩ rfl (Nat.le_of_ble_eq_true rfl) dX8_answers_6 ⟨Nat.le_of_ble_eq_true rfl, Nat.le_of_ble_eq_true rfl⟩) (fun H locs hF1 => ?_)
  refine lv_aload_n C0.1 C0.2.1 dX8_answers_9 rfl (lv_at hl 0 rfl) ?_
  refine lv_aload_n C0.1 C0.2.1 dX8_answers_10 rfl (lv_at hl 0 rfl) ?_
  refine fl_geti (k := 27) ck_9 C0 hF1 ka0 rfl ⟨rfl, rfl⟩ aw_901 dX8_answers_11 ?_
  refine fl_puti (k := 31) ck_9 C0 hF1 ka0 rfl (hF1.rI _ _) ⟨rfl, rfl, rfl⟩ aw_905 dX8_answers_14 (fun H locs hF2 => ?_)
  obtain ⟨I2, eI2, hf⟩ := bnd_f hf
  rw [eI2] at hF2
  refine fl_iconst C0 dX8_answers_17 ?_
  refine lv_istore_n (lv' := [(3, iv 0), (0, .ref a0), (1, iv x1), (2, iv x2)]) C0.1 C0.2.1 dX8_answers_18 rfl hl (by decide) rfl (fun ls hl => ?_)
  exact b_X8_answers_19 C0 hr hWT  FU I2 a0 0 _ _ _ ka0 ((rgk 0 rfl)) hF2 (lv_sub hl [1, 0] rfl) hf
-- RejudgeHallModel.isChecker(I)Z
abbrev rm_X8_isChecker : Room := { frames := 1, cells := 0, slots := 0, locals := 22 }
def f_X8_isChecker (K : KT) (P : PT) (I : IT) (x0 : Int) : Option (Int) := bp (f_X8_isIn K P I x0 0 1) fun r1 => ck (r1 = 0 ∨ r1 = 1) <| some r1
theorem pm_X8_isChecker : plainM yX8_isChecker 1 := by decide +kernel
set_option maxRecDepth 100000 in
set_option maxHeartbeats 4000000 in
theorem c_X8_isChecker (l : Launch) (D : va_G) (cy : Nat → ClassId) (B : Nat) (L : List Nat) (K : KT) (P : PT) (J : IT) (hWT : WT K P) (I : IT) (x0 : Int) (rx0 : rg x0) {r : Int} (hf : f_X8_isChecker K P I x0 = some r) : Met l yX8_isChecker [.code yX8_isChecker cX8_isChecker 1 (some .boolean)] rm_X8_isChecker (va_Pc [iv x0] (FW D cy B L K P J I)) (QI D cy B L K P J (r, I)) 0 0 (fun q => B ≤ q) := by
  refine fl_body (own := "RejudgeHallModel") [iv x0] (by decide) rfl (Nat.le_of_ble_eq_true rfl) ?_
  intro p e s m args below meth c ls C0 hr hF hl
  have hl : lv_has ls 1 [(0, iv x0)] := hl
  unfold f_X8_isChecker at hf
  refine lv_iload_n C0.1 C0.2.1 dX8_isChecker_0 rfl (lv_at hl 0 rfl) ?_
  refine fl_iconst C0 dX8_isChecker_1 ?_
  refine fl_iconst C0 dX8_isChecker_2 ?_
  obtain ⟨r1, hq1, hf⟩ := bp_f hf
  refine fl_ri hF (fl_runSG (As := [iv x0, iv 0, iv 1]) (rest := []) C0 hF hl.1 (c_X8_isIn l D cy B L K P J hWT I x0 0 1 rx0 ((rgk 0 rfl)) ((rgk 1 rfl)) hq1) aw_1000 aw_1001 aw_73 aw_1002 rfl pm_X8_isIn rfl rfl ⟨Nat.le_of_ble_eq_true rfl, Nat.le_of_ble_eq_true rfl⟩ rfl (Nat.le_of_ble_eq_true rfl) dX8_isChecker_3 ⟨Nat.le_of_ble_eq_true rfl, Nat.le_of_ble_eq_true rfl⟩) (fun H locs hF1 rr1 => ?_)
  obtain ⟨hz, hf⟩ := ck_f hf
  cases hf
  exact fl_zret C0 hF1 hr rr1 hz rfl dX8_isChecker_6
-- RejudgeHallModel.problem(II)I
abbrev rm_X8_problem : Room := { frames := 2, cells := 0, slots := 0, locals := 42 }
def f_X8_problem_37 (K : KT) (P : PT) (I : IT) (a0 : Nat) (x1 : Int) (x2 : Int) (t0 : Int) (b1 : Nat) : Option (Int × IT) := bnd (up I b1 38 t0) fun I6 => if (I6 a0 38) ≤ 0 then (ck (0 ≤ (I6 a0 6) ∧ (I6 a0 6) < 6) <| bnd (up I6 ((P a0 7)) ((I6 a0 6) : Int).toNat x1) fun I8 => ck (0 ≤ (I8 a0 6) ∧ (I8 a0 6) < 6) <| bnd (up I8 ((P a0 8)) ((I8 a0 6) : Int).toNat x2) fun I9 => bp (f_X8_copies K P I9 a0 0 ((wr (1 + (I9 a0 6))))) fun I10 => bp (f_X8_empties K P I10 a0 0) fun I11 => bnd (up I11 a0 6 (wr ((I11 a0 6) + 1))) fun I12 => some ((wr ((I12 a0 6) - 1)), I12)) else (some (0, I6))
def f_X8_problem_19 (K : KT) (P : PT) (I : IT) (a0 : Nat) (x1 : Int) (x2 : Int) (b0 : Nat) : Option (Int × IT) := f_X8_problem_37 K P  I a0 x1 x2 1 b0
def f_X8_problem (K : KT) (P : PT) (I : IT) (a0 : Nat) (x1 : Int) (x2 : Int) : Option (Int × IT) := bp (f_X8_isIn K P I x1 1 500) fun r1 => if r1 = 0 then (f_X8_problem_19 K P  I a0 x1 x2 a0) else (bp (f_X8_isChecker K P I x2) fun r3 => if r3 = 0 then (f_X8_problem_19 K P  I a0 x1 x2 a0) else (if (I a0 6) = 6 then (f_X8_problem_37 K P  I a0 x1 x2 2 a0) else (f_X8_problem_37 K P  I a0 x1 x2 0 a0)))
abbrev G_X8_problem_37 (p : Program) (l : Launch) (e : Env) (s : State) (m : MethodId) (args : Array Value) (below : List Frame) (meth : Method) (c : Code) (D : va_G) (cy : Nat → ClassId) (B : Nat) (L : List Nat) (K : KT) (P : PT) (J : IT) (res : Int × IT) (f : IT → Nat → Int → Int → Int → Nat → Option (Int × IT)) : Prop := ∀ (I : IT) (a0 : Nat) (x1 : Int) (x2 : Int) (t0 : Int) (b1 : Nat) (H : Heap) (locs : List Loc) (ls : Array Slot), K a0 = 9 → rg x1 → rg x2 → rg t0 → K b1 = 9 → FS D cy B L K P J s.heap I H locs → lv_has ls 3 [(0, .ref a0), (1, iv x1), (2, iv x2)] → f I a0 x1 x2 t0 b1 = some res → W p l e rm_X8_problem s m args below meth c H locs 0 0 (MQ below (QI D cy B L K P J res) args s 0 0 (fun q => B ≤ q)) (F0 m 37 ls [iv t0, .ref b1])
abbrev G_X8_problem_19 (p : Program) (l : Launch) (e : Env) (s : State) (m : MethodId) (args : Array Value) (below : List Frame) (meth : Method) (c : Code) (D : va_G) (cy : Nat → ClassId) (B : Nat) (L : List Nat) (K : KT) (P : PT) (J : IT) (res : Int × IT) (f : IT → Nat → Int → Int → Nat → Option (Int × IT)) : Prop := ∀ (I : IT) (a0 : Nat) (x1 : Int) (x2 : Int) (b0 : Nat) (H : Heap) (locs : List Loc) (ls : Array Slot), K a0 = 9 → rg x1 → rg x2 → K b0 = 9 → FS D cy B L K P J s.heap I H locs → lv_has ls 3 [(0, .ref a0), (1, iv x1), (2, iv x2)] → f I a0 x1 x2 b0 = some res → W p l e rm_X8_problem s m args below meth c H locs 0 0 (MQ below (QI D cy B L K P J res) args s 0 0 (fun q => B ≤ q)) (F0 m 19 ls [.ref b0])
set_option maxRecDepth 100000 in
set_option maxHeartbeats 4000000 in
theorem b_X8_problem_37 {p : Program} {l : Launch} {e : Env} {s : State} {m : MethodId} {args : Array Value} {below : List Frame} {meth : Method} {c : Code} {D : va_G} {cy : Nat → ClassId} {B : Nat} {L : List Nat} {K : KT} {P : PT} {J : IT} {res : Int × IT} (C0 : FC D cy B p s m meth c "RejudgeHallModel" cX8_problem 3) (hr : meth.sig.returnType = (some .int)) (hWT : WT K P) : G_X8_problem_37 p l e s m args below meth c D cy B L K P J res (f_X8_problem_37 K P ) := by
  intro I a0 x1 x2 t0 b1 H locs ls ka0 rx1 rx2 rt0 kb1 hF hl hf
  unfold f_X8_problem_37 at hf
  refine fl_puti (k := 38) ck_9 C0 hF kb1 rfl rt0 ⟨rfl, rfl, rfl⟩ aw_912 dX8_problem_37 (fun H locs hF6 => ?_)
  obtain ⟨I6, eI6, hf⟩ := bnd_f hf
  rw [eI6] at hF6
  refine lv_aload_n C0.1 C0.2.1 dX8_problem_40 rfl (lv_at hl 0 rfl) ?_
  refine fl_geti (k := 38) ck_9 C0 hF6 ka0 rfl ⟨rfl, rfl⟩ aw_912 dX8_problem_41 ?_
  refine fl_if_le (tgt := 49) C0 (hF6.rI _ _) dX8_problem_44 (by decide) (fun c7 => ?_) (fun c7 => ?_)
  · replace hf := (if_pos c7).symm.trans hf
    refine lv_aload_n C0.1 C0.2.1 dX8_problem_49 rfl (lv_at hl 0 rfl) ?_
    refine fl_getr (k := 7) (t := 124) ck_9 C0 hF6 ka0 rfl (wt_at (k := 7) (t := 124) hWT ka0 rfl) rfl ⟨rfl, rfl⟩ aw_881 dX8_problem_50 ?_
    refine lv_aload_n C0.1 C0.2.1 dX8_problem_53 rfl (lv_at hl 0 rfl) ?_
    refine fl_geti (k := 6) ck_9 C0 hF6 ka0 rfl ⟨rfl, rfl⟩ aw_880 dX8_problem_54 ?_
    refine lv_iload_n C0.1 C0.2.1 dX8_problem_57 rfl (lv_at hl 1 rfl) ?_
    obtain ⟨hc, hf⟩ := ck_f hf
    refine fl_iast (n := 6) C0 hF6 (wt_at (k := 7) (t := 124) hWT ka0 rfl) (hF6.rI _ _) rx1 hc dX8_problem_58 (fun H locs hF8 => ?_)
    obtain ⟨I8, eI8, hf⟩ := bnd_f hf
    rw [eI8] at hF8
    refine lv_aload_n C0.1 C0.2.1 dX8_problem_59 rfl (lv_at hl 0 rfl) ?_
    refine fl_getr (k := 8) (t := 124) ck_9 C0 hF8 ka0 rfl (wt_at (k := 8) (t := 124) hWT ka0 rfl) rfl ⟨rfl, rfl⟩ aw_882 dX8_problem_60 ?_
    refine lv_aload_n C0.1 C0.2.1 dX8_problem_63 rfl (lv_at hl 0 rfl) ?_
    refine fl_geti (k := 6) ck_9 C0 hF8 ka0 rfl ⟨rfl, rfl⟩ aw_880 dX8_problem_64 ?_
    refine lv_iload_n C0.1 C0.2.1 dX8_problem_67 rfl (lv_at hl 2 rfl) ?_
    obtain ⟨hc, hf⟩ := ck_f hf
    refine fl_iast (n := 6) C0 hF8 (wt_at (k := 8) (t := 124) hWT ka0 rfl) (hF8.rI _ _) rx2 hc dX8_problem_68 (fun H locs hF9 => ?_)
    obtain ⟨I9, eI9, hf⟩ := bnd_f hf
    rw [eI9] at hF9
    refine lv_aload_n C0.1 C0.2.1 dX8_problem_69 rfl (lv_at hl 0 rfl) ?_
    refine fl_iconst C0 dX8_problem_70 ?_
    refine fl_iconst C0 dX8_problem_71 ?_
    refine lv_aload_n C0.1 C0.2.1 dX8_problem_72 rfl (lv_at hl 0 rfl) ?_
    refine fl_geti (k := 6) ck_9 C0 hF9 ka0 rfl ⟨rfl, rfl⟩ aw_880 dX8_problem_73 ?_
    refine fl_iadd C0 dX8_problem_76 ?_
    obtain ⟨I10, hq10, hf⟩ := bp_f hf
    refine fl_rv hF9 (fl_runV (As := [iv 0, iv (wr (1 + (I9 a0 6)))]) (rest := []) C0 hF9 hl.1 ck_9 ka0 rfl (c_X8_copies l D cy B L K P J hWT I9 a0 0 ((wr (1 + (I9 a0 6)))) ka0 ((rgk 0 rfl)) ((rg_wr _)) hq10) aw_1045 aw_1047 aw_48 aw_73 aw_1048 rfl rfl pm_X8_copies rfl rfl ⟨Nat.le_of_ble_eq_true rfl, Nat.le_of_ble_eq_true rfl⟩ rfl (Nat.le_of_ble_eq_true rfl) dX8_problem_77 ⟨Nat.le_of_ble_eq_true rfl, Nat.le_of_ble_eq_true rfl⟩) (fun H locs hF10 => ?_)
    refine lv_aload_n C0.1 C0.2.1 dX8_problem_80 rfl (lv_at hl 0 rfl) ?_
    refine fl_iconst C0 dX8_problem_81 ?_
    obtain ⟨I11, hq11, hf⟩ := bp_f hf
    refine fl_rv hF10 (fl_runV (As := [iv 0]) (rest := []) C0 hF10 hl.1 ck_9 ka0 rfl (c_X8_empties l D cy B L K P J hWT I10 a0 0 ka0 ((rgk 0 rfl)) hq11) aw_1011 aw_1013 aw_44 aw_73 aw_1014 rfl rfl pm_X8_empties rfl rfl ⟨Nat.le_of_ble_eq_true rfl, Nat.le_of_ble_eq_true rfl⟩ rfl (Nat.le_of_ble_eq_true rfl) dX8_problem_82 ⟨Nat.le_of_ble_eq_true rfl, Nat.le_of_ble_eq_true rfl⟩) (fun H locs hF11 => ?_)
    refine lv_aload_n C0.1 C0.2.1 dX8_problem_85 rfl (lv_at hl 0 rfl) ?_
    refine lv_dup C0.1 C0.2.1 dX8_problem_86 rfl ?_
    refine fl_geti (k := 6) ck_9 C0 hF11 ka0 rfl ⟨rfl, rfl⟩ aw_880 dX8_problem_87 ?_
    refine fl_iconst C0 dX8_problem_90 ?_
    refine fl_iadd C0 dX8_problem_91 ?_
    refine fl_puti (k := 6) ck_9 C0 hF11 ka0 rfl (rg_wr _) ⟨rfl, rfl, rfl⟩ aw_880 dX8_problem_92 (fun H locs hF12 => ?_)
    obtain ⟨I12, eI12, hf⟩ := bnd_f hf
    rw [eI12] at hF12
    refine lv_aload_n C0.1 C0.2.1 dX8_problem_95 rfl (lv_at hl 0 rfl) ?_
    refine fl_geti (k := 6) ck_9 C0 hF12 ka0 rfl ⟨rfl, rfl⟩ aw_880 dX8_problem_96 ?_
    refine fl_iconst C0 dX8_problem_99 ?_
    refine fl_isub C0 dX8_problem_100 ?_
    cases hf
    exact fl_iret C0 hF12 hr (rg_wr _) rfl dX8_problem_101
  · replace hf := (if_neg c7).symm.trans hf
    refine fl_iconst C0 dX8_problem_47 ?_
    cases hf
    exact fl_iret C0 hF6 hr (rgk 0 rfl) rfl dX8_problem_48
set_option maxRecDepth 100000 in
set_option maxHeartbeats 4000000 in
theorem b_X8_problem_19 {p : Program} {l : Launch} {e : Env} {s : State} {m : MethodId} {args : Array Value} {below : List Frame} {meth : Method} {c : Code} {D : va_G} {cy : Nat → ClassId} {B : Nat} {L : List Nat} {K : KT} {P : PT} {J : IT} {res : Int × IT} (C0 : FC D cy B p s m meth c "RejudgeHallModel" cX8_problem 3) (hr : meth.sig.returnType = (some .int)) (hWT : WT K P) : G_X8_problem_19 p l e s m args below meth c D cy B L K P J res (f_X8_problem_19 K P ) := by
  intro I a0 x1 x2 b0 H locs ls ka0 rx1 rx2 kb0 hF hl hf
  unfold f_X8_problem_19 at hf
  refine fl_iconst C0 dX8_problem_19 ?_
  refine fl_goto (tgt := 37) C0 dX8_problem_20 (by decide) ?_
  exact b_X8_problem_37 C0 hr hWT  I a0 x1 x2 1 b0 _ _ _ ka0 rx1 rx2 ((rgk 1 rfl)) kb0 hF (lv_sub hl [0, 1, 2] rfl) hf
theorem pm_X8_problem : plainM yX8_problem 2 := by decide +kernel
set_option maxRecDepth 100000 in
set_option maxHeartbeats 4000000 in
theorem c_X8_problem (l : Launch) (D : va_G) (cy : Nat → ClassId) (B : Nat) (L : List Nat) (K : KT) (P : PT) (J : IT) (hWT : WT K P) (I : IT) (a0 : Nat) (x1 : Int) (x2 : Int) (ka0 : K a0 = 9) (rx1 : rg x1) (rx2 : rg x2) {r : Int} {I' : IT} (hf : f_X8_problem K P I a0 x1 x2 = some (r, I')) : Met l yX8_problem [.code yX8_problem cX8_problem 3 (some .int)] rm_X8_problem (va_Pc [.ref a0, iv x1, iv x2] (FW D cy B L K P J I)) (QI D cy B L K P J (r, I')) 0 0 (fun q => B ≤ q) := by
  refine fl_body (own := "RejudgeHallModel") [.ref a0, iv x1, iv x2] (by decide) rfl (Nat.le_of_ble_eq_true rfl) ?_
  intro p e s m args below meth c ls C0 hr hF hl
  have hl : lv_has ls 3 [(0, .ref a0), (1, iv x1), (2, iv x2)] := hl
  unfold f_X8_problem at hf
  refine lv_aload_n C0.1 C0.2.1 dX8_problem_0 rfl (lv_at hl 0 rfl) ?_
  refine lv_iload_n C0.1 C0.2.1 dX8_problem_1 rfl (lv_at hl 1 rfl) ?_
  refine fl_iconst C0 dX8_problem_2 ?_
  refine fl_sipush C0 dX8_problem_3 (by decide) ?_
  obtain ⟨r1, hq1, hf⟩ := bp_f hf
  refine fl_ri hF (fl_runSG (As := [iv x1, iv 1, iv 500]) (rest := [.ref a0]) C0 hF hl.1 (c_X8_isIn l D cy B L K P J hWT I x1 1 500 rx1 ((rgk 1 rfl)) ((rgk 500 rfl)) hq1) aw_1000 aw_1001 aw_73 aw_1002 rfl pm_X8_isIn rfl rfl ⟨Nat.le_of_ble_eq_true rfl, Nat.le_of_ble_eq_true rfl⟩ rfl (Nat.le_of_ble_eq_true rfl) dX8_problem_6 ⟨Nat.le_of_ble_eq_true rfl, Nat.le_of_ble_eq_true rfl⟩) (fun H locs hF1 rr1 => ?_)
  refine fl_if_eq (tgt := 19) C0 rr1 dX8_problem_9 (by decide) (fun c2 => ?_) (fun c2 => ?_)
  · replace hf := (if_pos c2).symm.trans hf
    exact b_X8_problem_19 C0 hr hWT  I a0 x1 x2 a0 _ _ _ ka0 rx1 rx2 ka0 hF1 (lv_sub hl [0, 1, 2] rfl) hf
  · replace hf := (if_neg c2).symm.trans hf
    refine lv_iload_n C0.1 C0.2.1 dX8_problem_12 rfl (lv_at hl 2 rfl) ?_
    obtain ⟨r3, hq3, hf⟩ := bp_f hf
    refine fl_ri hF1 (fl_runSG (As := [iv x2]) (rest := [.ref a0]) C0 hF1 hl.1 (c_X8_isChecker l D cy B L K P J hWT I x2 rx2 hq3) aw_1042 aw_1043 aw_73 aw_1044 rfl pm_X8_isChecker rfl rfl ⟨Nat.le_of_ble_eq_true rfl, Nat.le_of_ble_eq_true rfl⟩ rfl (Nat.le_of_ble_eq_true rfl) dX8_problem_13 ⟨Nat.le_of_ble_eq_true rfl, Nat.le_of_ble_eq_true rfl⟩) (fun H locs hF3 rr3 => ?_)
    refine fl_if_ne (tgt := 23) C0 rr3 dX8_problem_16 (by decide) (fun c4 => ?_) (fun c4 => ?_)
    · replace hf := (if_neg c4).symm.trans hf
      refine lv_aload_n C0.1 C0.2.1 dX8_problem_23 rfl (lv_at hl 0 rfl) ?_
      refine fl_geti (k := 6) ck_9 C0 hF3 ka0 rfl ⟨rfl, rfl⟩ aw_880 dX8_problem_24 ?_
      refine fl_bipush C0 dX8_problem_27 (by decide) ?_
      refine fl_icmp_ne (tgt := 36) C0 (hF3.rI _ _) (rgk 6 rfl) dX8_problem_29 (by decide) (fun c5 => ?_) (fun c5 => ?_)
      · replace hf := (if_neg c5).symm.trans hf
        refine fl_iconst C0 dX8_problem_36 ?_
        exact b_X8_problem_37 C0 hr hWT  I a0 x1 x2 0 a0 _ _ _ ka0 rx1 rx2 ((rgk 0 rfl)) ka0 hF3 (lv_sub hl [0, 1, 2] rfl) hf
      · replace hf := (if_pos c5).symm.trans hf
        refine fl_iconst C0 dX8_problem_32 ?_
        refine fl_goto (tgt := 37) C0 dX8_problem_33 (by decide) ?_
        exact b_X8_problem_37 C0 hr hWT  I a0 x1 x2 2 a0 _ _ _ ka0 rx1 rx2 ((rgk 2 rfl)) ka0 hF3 (lv_sub hl [0, 1, 2] rfl) hf
    · replace hf := (if_pos c4).symm.trans hf
      exact b_X8_problem_19 C0 hr hWT  I a0 x1 x2 a0 _ _ _ ka0 rx1 rx2 ka0 hF3 (lv_sub hl [0, 1, 2] rfl) hf
-- RejudgeHallModel.becomes(II)V
abbrev rm_X8_becomes : Room := { frames := 0, cells := 0, slots := 0, locals := 0 }
def f_X8_becomes_55 (K : KT) (P : PT) (I : IT) (a0 : Nat) (x1 : Int) (x2 : Int) (x3 : Int) : Option (IT) := ck (0 ≤ x3 ∧ x3 < 73) <| bnd (up I ((P a0 4)) (x3 : Int).toNat (I ((P a0 4)) (72 : Int).toNat)) fun I3 => ck (0 ≤ x3 ∧ x3 < 72) <| bnd (up I3 ((P a0 11)) (x3 : Int).toNat x2) fun I4 => ck (0 ≤ x1 ∧ x1 < 6) <| ck (0 ≤ x1 ∧ x1 < 6) <| bnd (up I4 ((P a0 10)) (x1 : Int).toNat (wr ((I4 ((P a0 10)) (x1 : Int).toNat) + 1))) fun I5 => ck (0 ≤ x1 ∧ x1 < 6) <| ck (0 ≤ x1 ∧ x1 < 6) <| bnd (up I5 ((P a0 9)) (x1 : Int).toNat (wr ((I5 ((P a0 9)) (x1 : Int).toNat) + 1))) fun I6 => some I6
def f_X8_becomes_15 (K : KT) (P : PT) : Nat → IT → Nat → Int → Int → Int → Int → Option (IT)
  | 0, _, _, _, _, _, _ => none
  | n + 1, I, a0, x1, x2, x3, x4 => if (I ((P a0 4)) (72 : Int).toNat) ≤ x4 then (f_X8_becomes_55 K P  I a0 x1 x2 x3) else (ck (0 ≤ (wr (288 + x4)) ∧ (wr (288 + x4)) < 292) <| ck (0 ≤ (wr ((wr (4 * x3)) + x4)) ∧ (wr ((wr (4 * x3)) + x4)) < 292) <| bnd (up I ((P a0 5)) ((wr ((wr (4 * x3)) + x4)) : Int).toNat (I ((P a0 5)) ((wr (288 + x4)) : Int).toNat)) fun I2 => (f_X8_becomes_15 K P  n) I2 a0 x1 x2 x3 ((wr (x4 + 1))))
def f_X8_becomes (K : KT) (P : PT) (I : IT) (a0 : Nat) (x1 : Int) (x2 : Int) : Option (IT) := ck (0 ≤ x1 ∧ x1 < 6) <| f_X8_becomes_15 K P  FU I a0 x1 x2 ((wr ((wr (12 * x1)) + (I ((P a0 10)) (x1 : Int).toNat)))) 0
abbrev G_X8_becomes_55 (p : Program) (l : Launch) (e : Env) (s : State) (m : MethodId) (args : Array Value) (below : List Frame) (meth : Method) (c : Code) (D : va_G) (cy : Nat → ClassId) (B : Nat) (L : List Nat) (K : KT) (P : PT) (J : IT) (res : IT) (f : IT → Nat → Int → Int → Int → Option (IT)) : Prop := ∀ (I : IT) (a0 : Nat) (x1 : Int) (x2 : Int) (x3 : Int) (H : Heap) (locs : List Loc) (ls : Array Slot), K a0 = 9 → rg x1 → rg x2 → rg x3 → FS D cy B L K P J s.heap I H locs → lv_has ls 5 [(0, .ref a0), (1, iv x1), (2, iv x2), (3, iv x3)] → f I a0 x1 x2 x3 = some res → W p l e rm_X8_becomes s m args below meth c H locs 0 0 (MQ below (QV D cy B L K P J res) args s 0 0 (fun q => B ≤ q)) (F0 m 55 ls [])
abbrev G_X8_becomes_15 (p : Program) (l : Launch) (e : Env) (s : State) (m : MethodId) (args : Array Value) (below : List Frame) (meth : Method) (c : Code) (D : va_G) (cy : Nat → ClassId) (B : Nat) (L : List Nat) (K : KT) (P : PT) (J : IT) (res : IT) (f : IT → Nat → Int → Int → Int → Int → Option (IT)) : Prop := ∀ (I : IT) (a0 : Nat) (x1 : Int) (x2 : Int) (x3 : Int) (x4 : Int) (H : Heap) (locs : List Loc) (ls : Array Slot), K a0 = 9 → rg x1 → rg x2 → rg x3 → rg x4 → FS D cy B L K P J s.heap I H locs → lv_has ls 5 [(0, .ref a0), (1, iv x1), (2, iv x2), (3, iv x3), (4, iv x4)] → f I a0 x1 x2 x3 x4 = some res → W p l e rm_X8_becomes s m args below meth c H locs 0 0 (MQ below (QV D cy B L K P J res) args s 0 0 (fun q => B ≤ q)) (F0 m 15 ls [])
set_option maxRecDepth 100000 in
set_option maxHeartbeats 4000000 in
theorem b_X8_becomes_55 {p : Program} {l : Launch} {e : Env} {s : State} {m : MethodId} {args : Array Value} {below : List Frame} {meth : Method} {c : Code} {D : va_G} {cy : Nat → ClassId} {B : Nat} {L : List Nat} {K : KT} {P : PT} {J : IT} {res : IT} (C0 : FC D cy B p s m meth c "RejudgeHallModel" cX8_becomes 5) (hr : meth.sig.returnType = none) (hWT : WT K P) : G_X8_becomes_55 p l e s m args below meth c D cy B L K P J res (f_X8_becomes_55 K P ) := by
  intro I a0 x1 x2 x3 H locs ls ka0 rx1 rx2 rx3 hF hl hf
  unfold f_X8_becomes_55 at hf
  refine lv_aload_n C0.1 C0.2.1 dX8_becomes_55 rfl (lv_at hl 0 rfl) ?_
  refine fl_getr (k := 4) (t := 392) ck_9 C0 hF ka0 rfl (wt_at (k := 4) (t := 392) hWT ka0 rfl) rfl ⟨rfl, rfl⟩ aw_878 dX8_becomes_56 ?_
  refine lv_iload_n C0.1 C0.2.1 dX8_becomes_59 rfl (lv_at hl 3 rfl) ?_
  refine lv_aload_n C0.1 C0.2.1 dX8_becomes_60 rfl (lv_at hl 0 rfl) ?_
  refine fl_getr (k := 4) (t := 392) ck_9 C0 hF ka0 rfl (wt_at (k := 4) (t := 392) hWT ka0 rfl) rfl ⟨rfl, rfl⟩ aw_878 dX8_becomes_61 ?_
  refine fl_bipush C0 dX8_becomes_64 (by decide) ?_
  refine fl_iald (n := 73) C0 hF (wt_at (k := 4) (t := 392) hWT ka0 rfl) (rgk 72 rfl) ⟨by decide, by decide⟩ dX8_becomes_66 ?_
  obtain ⟨hc, hf⟩ := ck_f hf
  refine fl_iast (n := 73) C0 hF (wt_at (k := 4) (t := 392) hWT ka0 rfl) rx3 (hF.rI _ _) hc dX8_becomes_67 (fun H locs hF3 => ?_)
  obtain ⟨I3, eI3, hf⟩ := bnd_f hf
  rw [eI3] at hF3
  refine lv_aload_n C0.1 C0.2.1 dX8_becomes_68 rfl (lv_at hl 0 rfl) ?_
  refine fl_getr (k := 11) (t := 388) ck_9 C0 hF3 ka0 rfl (wt_at (k := 11) (t := 388) hWT ka0 rfl) rfl ⟨rfl, rfl⟩ aw_885 dX8_becomes_69 ?_
  refine lv_iload_n C0.1 C0.2.1 dX8_becomes_72 rfl (lv_at hl 3 rfl) ?_
  refine lv_iload_n C0.1 C0.2.1 dX8_becomes_73 rfl (lv_at hl 2 rfl) ?_
  obtain ⟨hc, hf⟩ := ck_f hf
  refine fl_iast (n := 72) C0 hF3 (wt_at (k := 11) (t := 388) hWT ka0 rfl) rx3 rx2 hc dX8_becomes_74 (fun H locs hF4 => ?_)
  obtain ⟨I4, eI4, hf⟩ := bnd_f hf
  rw [eI4] at hF4
  refine lv_aload_n C0.1 C0.2.1 dX8_becomes_75 rfl (lv_at hl 0 rfl) ?_
  refine fl_getr (k := 10) (t := 124) ck_9 C0 hF4 ka0 rfl (wt_at (k := 10) (t := 124) hWT ka0 rfl) rfl ⟨rfl, rfl⟩ aw_884 dX8_becomes_76 ?_
  refine lv_iload_n C0.1 C0.2.1 dX8_becomes_79 rfl (lv_at hl 1 rfl) ?_
  refine lv_dup2_11 C0.1 C0.2.1 dX8_becomes_80 rfl rfl ?_
  obtain ⟨hc, hf⟩ := ck_f hf
  refine fl_iald (n := 6) C0 hF4 (wt_at (k := 10) (t := 124) hWT ka0 rfl) rx1 hc dX8_becomes_81 ?_
  refine fl_iconst C0 dX8_becomes_82 ?_
  refine fl_iadd C0 dX8_becomes_83 ?_
  obtain ⟨hc, hf⟩ := ck_f hf
  refine fl_iast (n := 6) C0 hF4 (wt_at (k := 10) (t := 124) hWT ka0 rfl) rx1 (rg_wr _) hc dX8_becomes_84 (fun H locs hF5 => ?_)
  obtain ⟨I5, eI5, hf⟩ := bnd_f hf
  rw [eI5] at hF5
  refine lv_aload_n C0.1 C0.2.1 dX8_becomes_85 rfl (lv_at hl 0 rfl) ?_
  refine fl_getr (k := 9) (t := 124) ck_9 C0 hF5 ka0 rfl (wt_at (k := 9) (t := 124) hWT ka0 rfl) rfl ⟨rfl, rfl⟩ aw_883 dX8_becomes_86 ?_
  refine lv_iload_n C0.1 C0.2.1 dX8_becomes_89 rfl (lv_at hl 1 rfl) ?_
  refine lv_dup2_11 C0.1 C0.2.1 dX8_becomes_90 rfl rfl ?_
  obtain ⟨hc, hf⟩ := ck_f hf
  refine fl_iald (n := 6) C0 hF5 (wt_at (k := 9) (t := 124) hWT ka0 rfl) rx1 hc dX8_becomes_91 ?_
  refine fl_iconst C0 dX8_becomes_92 ?_
  refine fl_iadd C0 dX8_becomes_93 ?_
  obtain ⟨hc, hf⟩ := ck_f hf
  refine fl_iast (n := 6) C0 hF5 (wt_at (k := 9) (t := 124) hWT ka0 rfl) rx1 (rg_wr _) hc dX8_becomes_94 (fun H locs hF6 => ?_)
  obtain ⟨I6, eI6, hf⟩ := bnd_f hf
  rw [eI6] at hF6
  cases hf
  exact fl_vret C0 hF6 hr rfl dX8_becomes_95
set_option maxRecDepth 100000 in
set_option maxHeartbeats 4000000 in
theorem b_X8_becomes_15 {p : Program} {l : Launch} {e : Env} {s : State} {m : MethodId} {args : Array Value} {below : List Frame} {meth : Method} {c : Code} {D : va_G} {cy : Nat → ClassId} {B : Nat} {L : List Nat} {K : KT} {P : PT} {J : IT} {res : IT} (C0 : FC D cy B p s m meth c "RejudgeHallModel" cX8_becomes 5) (hr : meth.sig.returnType = none) (hWT : WT K P) : ∀ n : Nat, G_X8_becomes_15 p l e s m args below meth c D cy B L K P J res (f_X8_becomes_15 K P  n)
  | 0 => by
    intro I a0 x1 x2 x3 x4 H locs ls ka0 rx1 rx2 rx3 rx4 hF hl hf
    cases hf
  | n + 1 => by
    have ih : G_X8_becomes_15 p l e s m args below meth c D cy B L K P J res (f_X8_becomes_15 K P  n)  := b_X8_becomes_15 C0 hr hWT  n
    intro I a0 x1 x2 x3 x4 H locs ls ka0 rx1 rx2 rx3 rx4 hF hl hf
    rw [f_X8_becomes_15] at hf
    refine lv_iload C0.1 C0.2.1 dX8_becomes_15 (lv_at hl 4 rfl) ?_
    refine lv_aload_n C0.1 C0.2.1 dX8_becomes_17 rfl (lv_at hl 0 rfl) ?_
    refine fl_getr (k := 4) (t := 392) ck_9 C0 hF ka0 rfl (wt_at (k := 4) (t := 392) hWT ka0 rfl) rfl ⟨rfl, rfl⟩ aw_878 dX8_becomes_18 ?_
    refine fl_bipush C0 dX8_becomes_21 (by decide) ?_
    refine fl_iald (n := 73) C0 hF (wt_at (k := 4) (t := 392) hWT ka0 rfl) (rgk 72 rfl) ⟨by decide, by decide⟩ dX8_becomes_23 ?_
    refine fl_icmp_ge (tgt := 55) C0 rx4 (hF.rI _ _) dX8_becomes_24 (by decide) (fun c1 => ?_) (fun c1 => ?_)
    · replace hf := (if_pos c1).symm.trans hf
      exact b_X8_becomes_55 C0 hr hWT  I a0 x1 x2 x3 _ _ _ ka0 rx1 rx2 rx3 hF (lv_sub hl [0, 1, 2, 3] rfl) hf
    · replace hf := (if_neg c1).symm.trans hf
      refine lv_aload_n C0.1 C0.2.1 dX8_becomes_27 rfl (lv_at hl 0 rfl) ?_
      refine fl_getr (k := 5) (t := 1268) ck_9 C0 hF ka0 rfl (wt_at (k := 5) (t := 1268) hWT ka0 rfl) rfl ⟨rfl, rfl⟩ aw_879 dX8_becomes_28 ?_
      refine fl_iconst C0 dX8_becomes_31 ?_
      refine lv_iload_n C0.1 C0.2.1 dX8_becomes_32 rfl (lv_at hl 3 rfl) ?_
      refine fl_imul C0 dX8_becomes_33 ?_
      refine lv_iload C0.1 C0.2.1 dX8_becomes_34 (lv_at hl 4 rfl) ?_
      refine fl_iadd C0 dX8_becomes_36 ?_
      refine lv_aload_n C0.1 C0.2.1 dX8_becomes_37 rfl (lv_at hl 0 rfl) ?_
      refine fl_getr (k := 5) (t := 1268) ck_9 C0 hF ka0 rfl (wt_at (k := 5) (t := 1268) hWT ka0 rfl) rfl ⟨rfl, rfl⟩ aw_879 dX8_becomes_38 ?_
      refine fl_sipush C0 dX8_becomes_41 (by decide) ?_
      refine lv_iload C0.1 C0.2.1 dX8_becomes_44 (lv_at hl 4 rfl) ?_
      refine fl_iadd C0 dX8_becomes_46 ?_
      obtain ⟨hc, hf⟩ := ck_f hf
      refine fl_iald (n := 292) C0 hF (wt_at (k := 5) (t := 1268) hWT ka0 rfl) (rg_wr _) hc dX8_becomes_47 ?_
      obtain ⟨hc, hf⟩ := ck_f hf
      refine fl_iast (n := 292) C0 hF (wt_at (k := 5) (t := 1268) hWT ka0 rfl) (rg_wr _) (hF.rI _ _) hc dX8_becomes_48 (fun H locs hF2 => ?_)
      obtain ⟨I2, eI2, hf⟩ := bnd_f hf
      rw [eI2] at hF2
      refine fl_iinc (lv' := [(4, iv (wr (x4 + 1))), (0, .ref a0), (1, iv x1), (2, iv x2), (3, iv x3)]) C0 dX8_becomes_49 hl (k := 4) rfl (by decide) rfl (fun ls hl => ?_)
      refine fl_goto (tgt := 15) C0 dX8_becomes_52 (by decide) ?_
      exact ih I2 a0 x1 x2 x3 ((wr (x4 + 1))) _ _ _ ka0 rx1 rx2 rx3 ((rg_wr _)) hF2 (lv_sub hl [1, 2, 3, 4, 0] rfl) hf
theorem pm_X8_becomes : plainM yX8_becomes 2 := by decide +kernel
set_option maxRecDepth 100000 in
set_option maxHeartbeats 4000000 in
theorem c_X8_becomes (l : Launch) (D : va_G) (cy : Nat → ClassId) (B : Nat) (L : List Nat) (K : KT) (P : PT) (J : IT) (hWT : WT K P) (I : IT) (a0 : Nat) (x1 : Int) (x2 : Int) (ka0 : K a0 = 9) (rx1 : rg x1) (rx2 : rg x2) {I' : IT} (hf : f_X8_becomes K P I a0 x1 x2 = some I') : Met l yX8_becomes [.code yX8_becomes cX8_becomes 5 none] rm_X8_becomes (va_Pc [.ref a0, iv x1, iv x2] (FW D cy B L K P J I)) (QV D cy B L K P J I') 0 0 (fun q => B ≤ q) := by
  refine fl_body (own := "RejudgeHallModel") [.ref a0, iv x1, iv x2] (by decide) rfl (Nat.le_of_ble_eq_true rfl) ?_
  intro p e s m args below meth c ls C0 hr hF hl
  have hl : lv_has ls 5 [(0, .ref a0), (1, iv x1), (2, iv x2)] := hl
  unfold f_X8_becomes at hf
  refine fl_bipush C0 dX8_becomes_0 (by decide) ?_
  refine lv_iload_n C0.1 C0.2.1 dX8_becomes_2 rfl (lv_at hl 1 rfl) ?_
  refine fl_imul C0 dX8_becomes_3 ?_
  refine lv_aload_n C0.1 C0.2.1 dX8_becomes_4 rfl (lv_at hl 0 rfl) ?_
  refine fl_getr (k := 10) (t := 124) ck_9 C0 hF ka0 rfl (wt_at (k := 10) (t := 124) hWT ka0 rfl) rfl ⟨rfl, rfl⟩ aw_884 dX8_becomes_5 ?_
  refine lv_iload_n C0.1 C0.2.1 dX8_becomes_8 rfl (lv_at hl 1 rfl) ?_
  obtain ⟨hc, hf⟩ := ck_f hf
  refine fl_iald (n := 6) C0 hF (wt_at (k := 10) (t := 124) hWT ka0 rfl) rx1 hc dX8_becomes_9 ?_
  refine fl_iadd C0 dX8_becomes_10 ?_
  refine lv_istore_n (lv' := [(3, iv (wr ((wr (12 * x1)) + (I ((P a0 10)) (x1 : Int).toNat)))), (0, .ref a0), (1, iv x1), (2, iv x2)]) C0.1 C0.2.1 dX8_becomes_11 rfl hl (by decide) rfl (fun ls hl => ?_)
  refine fl_iconst C0 dX8_becomes_12 ?_
  refine lv_istore (lv' := [(4, iv 0), (3, iv (wr ((wr (12 * x1)) + (I ((P a0 10)) (x1 : Int).toNat)))), (0, .ref a0), (1, iv x1), (2, iv x2)]) C0.1 C0.2.1 dX8_becomes_13 hl (by decide) rfl (fun ls hl => ?_)
  exact b_X8_becomes_15 C0 hr hWT  FU I a0 x1 x2 ((wr ((wr (12 * x1)) + (I ((P a0 10)) (x1 : Int).toNat)))) 0 _ _ _ ka0 rx1 rx2 ((rg_wr _)) ((rgk 0 rfl)) hF (lv_sub hl [2, 3, 4, 1, 0] rfl) hf
-- RejudgeHallModel.test(II)I
abbrev rm_X8_test : Room := { frames := 5, cells := 0, slots := 0, locals := 117 }
def f_X8_test_62 (K : KT) (P : PT) (I : IT) (a0 : Nat) (x1 : Int) (x2 : Int) (t0 : Int) (b1 : Nat) : Option (Int × IT) := bnd (up I b1 38 t0) fun I10 => if (I10 a0 38) ≤ 0 then (bp (f_X8_becomes K P I10 a0 x1 x2) fun I12 => bnd (up I12 ((P a0 4)) (72 : Int).toNat 0) fun I13 => ck (0 ≤ x1 ∧ x1 < 6) <| some ((wr ((I13 ((P a0 10)) (x1 : Int).toNat) - 1)), I13)) else (some (0, I10))
def f_X8_test_57 (K : KT) (P : PT) (I : IT) (a0 : Nat) (x1 : Int) (x2 : Int) (b0 : Nat) : Option (Int × IT) := f_X8_test_62 K P  I a0 x1 x2 2 b0
def f_X8_test_21 (K : KT) (P : PT) (I : IT) (a0 : Nat) (x1 : Int) (x2 : Int) (t0 : Int) (b1 : Nat) : Option (Int × IT) := bnd (up I b1 38 t0) fun I5 => if (I5 a0 38) ≤ 0 then (ck (0 ≤ x1 ∧ x1 < 6) <| if (I5 ((P a0 10)) (x1 : Int).toNat) = 12 then (f_X8_test_57 K P  I5 a0 x1 x2 a0) else (bi (f_X8_answers K P I5 a0 ((wr (1 + x1))) 72) fun r8 I8 => if r8 = 0 then (f_X8_test_57 K P  I8 a0 x1 x2 a0) else (f_X8_test_62 K P  I8 a0 x1 x2 0 a0))) else (some (0, I5))
def f_X8_test_16 (K : KT) (P : PT) (I : IT) (a0 : Nat) (x1 : Int) (x2 : Int) (b0 : Nat) : Option (Int × IT) := f_X8_test_21 K P  I a0 x1 x2 1 b0
def f_X8_test (K : KT) (P : PT) (I : IT) (a0 : Nat) (x1 : Int) (x2 : Int) : Option (Int × IT) := bp (f_X8_isProblem K P I a0 x1) fun r1 => if r1 = 0 then (f_X8_test_16 K P  I a0 x1 x2 a0) else (bp (f_X8_isGroup K P I x2) fun r3 => if r3 = 0 then (f_X8_test_16 K P  I a0 x1 x2 a0) else (f_X8_test_21 K P  I a0 x1 x2 0 a0))
abbrev G_X8_test_62 (p : Program) (l : Launch) (e : Env) (s : State) (m : MethodId) (args : Array Value) (below : List Frame) (meth : Method) (c : Code) (D : va_G) (cy : Nat → ClassId) (B : Nat) (L : List Nat) (K : KT) (P : PT) (J : IT) (res : Int × IT) (f : IT → Nat → Int → Int → Int → Nat → Option (Int × IT)) : Prop := ∀ (I : IT) (a0 : Nat) (x1 : Int) (x2 : Int) (t0 : Int) (b1 : Nat) (H : Heap) (locs : List Loc) (ls : Array Slot), K a0 = 9 → rg x1 → rg x2 → rg t0 → K b1 = 9 → FS D cy B L K P J s.heap I H locs → lv_has ls 3 [(0, .ref a0), (1, iv x1), (2, iv x2)] → f I a0 x1 x2 t0 b1 = some res → W p l e rm_X8_test s m args below meth c H locs 0 0 (MQ below (QI D cy B L K P J res) args s 0 0 (fun q => B ≤ q)) (F0 m 62 ls [iv t0, .ref b1])
abbrev G_X8_test_57 (p : Program) (l : Launch) (e : Env) (s : State) (m : MethodId) (args : Array Value) (below : List Frame) (meth : Method) (c : Code) (D : va_G) (cy : Nat → ClassId) (B : Nat) (L : List Nat) (K : KT) (P : PT) (J : IT) (res : Int × IT) (f : IT → Nat → Int → Int → Nat → Option (Int × IT)) : Prop := ∀ (I : IT) (a0 : Nat) (x1 : Int) (x2 : Int) (b0 : Nat) (H : Heap) (locs : List Loc) (ls : Array Slot), K a0 = 9 → rg x1 → rg x2 → K b0 = 9 → FS D cy B L K P J s.heap I H locs → lv_has ls 3 [(0, .ref a0), (1, iv x1), (2, iv x2)] → f I a0 x1 x2 b0 = some res → W p l e rm_X8_test s m args below meth c H locs 0 0 (MQ below (QI D cy B L K P J res) args s 0 0 (fun q => B ≤ q)) (F0 m 57 ls [.ref b0])
abbrev G_X8_test_21 (p : Program) (l : Launch) (e : Env) (s : State) (m : MethodId) (args : Array Value) (below : List Frame) (meth : Method) (c : Code) (D : va_G) (cy : Nat → ClassId) (B : Nat) (L : List Nat) (K : KT) (P : PT) (J : IT) (res : Int × IT) (f : IT → Nat → Int → Int → Int → Nat → Option (Int × IT)) : Prop := ∀ (I : IT) (a0 : Nat) (x1 : Int) (x2 : Int) (t0 : Int) (b1 : Nat) (H : Heap) (locs : List Loc) (ls : Array Slot), K a0 = 9 → rg x1 → rg x2 → rg t0 → K b1 = 9 → FS D cy B L K P J s.heap I H locs → lv_has ls 3 [(0, .ref a0), (1, iv x1), (2, iv x2)] → f I a0 x1 x2 t0 b1 = some res → W p l e rm_X8_test s m args below meth c H locs 0 0 (MQ below (QI D cy B L K P J res) args s 0 0 (fun q => B ≤ q)) (F0 m 21 ls [iv t0, .ref b1])
abbrev G_X8_test_16 (p : Program) (l : Launch) (e : Env) (s : State) (m : MethodId) (args : Array Value) (below : List Frame) (meth : Method) (c : Code) (D : va_G) (cy : Nat → ClassId) (B : Nat) (L : List Nat) (K : KT) (P : PT) (J : IT) (res : Int × IT) (f : IT → Nat → Int → Int → Nat → Option (Int × IT)) : Prop := ∀ (I : IT) (a0 : Nat) (x1 : Int) (x2 : Int) (b0 : Nat) (H : Heap) (locs : List Loc) (ls : Array Slot), K a0 = 9 → rg x1 → rg x2 → K b0 = 9 → FS D cy B L K P J s.heap I H locs → lv_has ls 3 [(0, .ref a0), (1, iv x1), (2, iv x2)] → f I a0 x1 x2 b0 = some res → W p l e rm_X8_test s m args below meth c H locs 0 0 (MQ below (QI D cy B L K P J res) args s 0 0 (fun q => B ≤ q)) (F0 m 16 ls [.ref b0])
set_option maxRecDepth 100000 in
set_option maxHeartbeats 4000000 in
theorem b_X8_test_62 {p : Program} {l : Launch} {e : Env} {s : State} {m : MethodId} {args : Array Value} {below : List Frame} {meth : Method} {c : Code} {D : va_G} {cy : Nat → ClassId} {B : Nat} {L : List Nat} {K : KT} {P : PT} {J : IT} {res : Int × IT} (C0 : FC D cy B p s m meth c "RejudgeHallModel" cX8_test 3) (hr : meth.sig.returnType = (some .int)) (hWT : WT K P) : G_X8_test_62 p l e s m args below meth c D cy B L K P J res (f_X8_test_62 K P ) := by
  intro I a0 x1 x2 t0 b1 H locs ls ka0 rx1 rx2 rt0 kb1 hF hl hf
  unfold f_X8_test_62 at hf
  refine fl_puti (k := 38) ck_9 C0 hF kb1 rfl rt0 ⟨rfl, rfl, rfl⟩ aw_912 dX8_test_62 (fun H locs hF10 => ?_)
  obtain ⟨I10, eI10, hf⟩ := bnd_f hf
  rw [eI10] at hF10
  refine lv_aload_n C0.1 C0.2.1 dX8_test_65 rfl (lv_at hl 0 rfl) ?_
  refine fl_geti (k := 38) ck_9 C0 hF10 ka0 rfl ⟨rfl, rfl⟩ aw_912 dX8_test_66 ?_
  refine fl_if_le (tgt := 74) C0 (hF10.rI _ _) dX8_test_69 (by decide) (fun c11 => ?_) (fun c11 => ?_)
  · replace hf := (if_pos c11).symm.trans hf
    refine lv_aload_n C0.1 C0.2.1 dX8_test_74 rfl (lv_at hl 0 rfl) ?_
    refine lv_iload_n C0.1 C0.2.1 dX8_test_75 rfl (lv_at hl 1 rfl) ?_
    refine lv_iload_n C0.1 C0.2.1 dX8_test_76 rfl (lv_at hl 2 rfl) ?_
    obtain ⟨I12, hq12, hf⟩ := bp_f hf
    refine fl_rv hF10 (fl_runV (As := [iv x1, iv x2]) (rest := []) C0 hF10 hl.1 ck_9 ka0 rfl (c_X8_becomes l D cy B L K P J hWT I10 a0 x1 x2 ka0 rx1 rx2 hq12) aw_1064 aw_1066 aw_51 aw_73 aw_1067 rfl rfl pm_X8_becomes rfl rfl ⟨Nat.le_of_ble_eq_true rfl, Nat.le_of_ble_eq_true rfl⟩ rfl (Nat.le_of_ble_eq_true rfl) dX8_test_77 ⟨Nat.le_of_ble_eq_true rfl, Nat.le_of_ble_eq_true rfl⟩) (fun H locs hF12 => ?_)
    refine lv_aload_n C0.1 C0.2.1 dX8_test_80 rfl (lv_at hl 0 rfl) ?_
    refine fl_getr (k := 4) (t := 392) ck_9 C0 hF12 ka0 rfl (wt_at (k := 4) (t := 392) hWT ka0 rfl) rfl ⟨rfl, rfl⟩ aw_878 dX8_test_81 ?_
    refine fl_bipush C0 dX8_test_84 (by decide) ?_
    refine fl_iconst C0 dX8_test_86 ?_
    refine fl_iast (n := 73) C0 hF12 (wt_at (k := 4) (t := 392) hWT ka0 rfl) (rgk 72 rfl) (rgk 0 rfl) ⟨by decide, by decide⟩ dX8_test_87 (fun H locs hF13 => ?_)
    obtain ⟨I13, eI13, hf⟩ := bnd_f hf
    rw [eI13] at hF13
    refine lv_aload_n C0.1 C0.2.1 dX8_test_88 rfl (lv_at hl 0 rfl) ?_
    refine fl_getr (k := 10) (t := 124) ck_9 C0 hF13 ka0 rfl (wt_at (k := 10) (t := 124) hWT ka0 rfl) rfl ⟨rfl, rfl⟩ aw_884 dX8_test_89 ?_
    refine lv_iload_n C0.1 C0.2.1 dX8_test_92 rfl (lv_at hl 1 rfl) ?_
    obtain ⟨hc, hf⟩ := ck_f hf
    refine fl_iald (n := 6) C0 hF13 (wt_at (k := 10) (t := 124) hWT ka0 rfl) rx1 hc dX8_test_93 ?_
    refine fl_iconst C0 dX8_test_94 ?_
    refine fl_isub C0 dX8_test_95 ?_
    cases hf
    exact fl_iret C0 hF13 hr (rg_wr _) rfl dX8_test_96
  · replace hf := (if_neg c11).symm.trans hf
    refine fl_iconst C0 dX8_test_72 ?_
    cases hf
    exact fl_iret C0 hF10 hr (rgk 0 rfl) rfl dX8_test_73
set_option maxRecDepth 100000 in
set_option maxHeartbeats 4000000 in
theorem b_X8_test_57 {p : Program} {l : Launch} {e : Env} {s : State} {m : MethodId} {args : Array Value} {below : List Frame} {meth : Method} {c : Code} {D : va_G} {cy : Nat → ClassId} {B : Nat} {L : List Nat} {K : KT} {P : PT} {J : IT} {res : Int × IT} (C0 : FC D cy B p s m meth c "RejudgeHallModel" cX8_test 3) (hr : meth.sig.returnType = (some .int)) (hWT : WT K P) : G_X8_test_57 p l e s m args below meth c D cy B L K P J res (f_X8_test_57 K P ) := by
  intro I a0 x1 x2 b0 H locs ls ka0 rx1 rx2 kb0 hF hl hf
  unfold f_X8_test_57 at hf
  refine fl_iconst C0 dX8_test_57 ?_
  refine fl_goto (tgt := 62) C0 dX8_test_58 (by decide) ?_
  exact b_X8_test_62 C0 hr hWT  I a0 x1 x2 2 b0 _ _ _ ka0 rx1 rx2 ((rgk 2 rfl)) kb0 hF (lv_sub hl [0, 1, 2] rfl) hf
set_option maxRecDepth 100000 in
set_option maxHeartbeats 4000000 in
theorem b_X8_test_21 {p : Program} {l : Launch} {e : Env} {s : State} {m : MethodId} {args : Array Value} {below : List Frame} {meth : Method} {c : Code} {D : va_G} {cy : Nat → ClassId} {B : Nat} {L : List Nat} {K : KT} {P : PT} {J : IT} {res : Int × IT} (C0 : FC D cy B p s m meth c "RejudgeHallModel" cX8_test 3) (hr : meth.sig.returnType = (some .int)) (hWT : WT K P) : G_X8_test_21 p l e s m args below meth c D cy B L K P J res (f_X8_test_21 K P ) := by
  intro I a0 x1 x2 t0 b1 H locs ls ka0 rx1 rx2 rt0 kb1 hF hl hf
  unfold f_X8_test_21 at hf
  refine fl_puti (k := 38) ck_9 C0 hF kb1 rfl rt0 ⟨rfl, rfl, rfl⟩ aw_912 dX8_test_21 (fun H locs hF5 => ?_)
  obtain ⟨I5, eI5, hf⟩ := bnd_f hf
  rw [eI5] at hF5
  refine lv_aload_n C0.1 C0.2.1 dX8_test_24 rfl (lv_at hl 0 rfl) ?_
  refine fl_geti (k := 38) ck_9 C0 hF5 ka0 rfl ⟨rfl, rfl⟩ aw_912 dX8_test_25 ?_
  refine fl_if_le (tgt := 33) C0 (hF5.rI _ _) dX8_test_28 (by decide) (fun c6 => ?_) (fun c6 => ?_)
  · replace hf := (if_pos c6).symm.trans hf
    refine lv_aload_n C0.1 C0.2.1 dX8_test_33 rfl (lv_at hl 0 rfl) ?_
    refine lv_aload_n C0.1 C0.2.1 dX8_test_34 rfl (lv_at hl 0 rfl) ?_
    refine fl_getr (k := 10) (t := 124) ck_9 C0 hF5 ka0 rfl (wt_at (k := 10) (t := 124) hWT ka0 rfl) rfl ⟨rfl, rfl⟩ aw_884 dX8_test_35 ?_
    refine lv_iload_n C0.1 C0.2.1 dX8_test_38 rfl (lv_at hl 1 rfl) ?_
    obtain ⟨hc, hf⟩ := ck_f hf
    refine fl_iald (n := 6) C0 hF5 (wt_at (k := 10) (t := 124) hWT ka0 rfl) rx1 hc dX8_test_39 ?_
    refine fl_bipush C0 dX8_test_40 (by decide) ?_
    refine fl_icmp_eq (tgt := 57) C0 (hF5.rI _ _) (rgk 12 rfl) dX8_test_42 (by decide) (fun c7 => ?_) (fun c7 => ?_)
    · replace hf := (if_pos c7).symm.trans hf
      exact b_X8_test_57 C0 hr hWT  I5 a0 x1 x2 a0 _ _ _ ka0 rx1 rx2 ka0 hF5 (lv_sub hl [0, 1, 2] rfl) hf
    · replace hf := (if_neg c7).symm.trans hf
      refine lv_aload_n C0.1 C0.2.1 dX8_test_45 rfl (lv_at hl 0 rfl) ?_
      refine fl_iconst C0 dX8_test_46 ?_
      refine lv_iload_n C0.1 C0.2.1 dX8_test_47 rfl (lv_at hl 1 rfl) ?_
      refine fl_iadd C0 dX8_test_48 ?_
      refine fl_bipush C0 dX8_test_49 (by decide) ?_
      obtain ⟨r8, I8, hq8, hf⟩ := bi_f hf
      refine fl_ri hF5 (fl_runV (As := [iv (wr (1 + x1)), iv 72]) (rest := [.ref a0]) C0 hF5 hl.1 ck_9 ka0 rfl (c_X8_answers l D cy B L K P J hWT I5 a0 ((wr (1 + x1))) 72 ka0 ((rg_wr _)) ((rgk 72 rfl)) hq8) aw_1060 aw_1062 aw_50 aw_73 aw_1063 rfl rfl pm_X8_answers rfl rfl ⟨Nat.le_of_ble_eq_true rfl, Nat.le_of_ble_eq_true rfl⟩ rfl (Nat.le_of_ble_eq_true rfl) dX8_test_51 ⟨Nat.le_of_ble_eq_true rfl, Nat.le_of_ble_eq_true rfl⟩) (fun H locs hF8 rr8 => ?_)
      refine fl_if_ne (tgt := 61) C0 rr8 dX8_test_54 (by decide) (fun c9 => ?_) (fun c9 => ?_)
      · replace hf := (if_neg c9).symm.trans hf
        refine fl_iconst C0 dX8_test_61 ?_
        exact b_X8_test_62 C0 hr hWT  I8 a0 x1 x2 0 a0 _ _ _ ka0 rx1 rx2 ((rgk 0 rfl)) ka0 hF8 (lv_sub hl [0, 1, 2] rfl) hf
      · replace hf := (if_pos c9).symm.trans hf
        exact b_X8_test_57 C0 hr hWT  I8 a0 x1 x2 a0 _ _ _ ka0 rx1 rx2 ka0 hF8 (lv_sub hl [0, 1, 2] rfl) hf
  · replace hf := (if_neg c6).symm.trans hf
    refine fl_iconst C0 dX8_test_31 ?_
    cases hf
    exact fl_iret C0 hF5 hr (rgk 0 rfl) rfl dX8_test_32
set_option maxRecDepth 100000 in
set_option maxHeartbeats 4000000 in
theorem b_X8_test_16 {p : Program} {l : Launch} {e : Env} {s : State} {m : MethodId} {args : Array Value} {below : List Frame} {meth : Method} {c : Code} {D : va_G} {cy : Nat → ClassId} {B : Nat} {L : List Nat} {K : KT} {P : PT} {J : IT} {res : Int × IT} (C0 : FC D cy B p s m meth c "RejudgeHallModel" cX8_test 3) (hr : meth.sig.returnType = (some .int)) (hWT : WT K P) : G_X8_test_16 p l e s m args below meth c D cy B L K P J res (f_X8_test_16 K P ) := by
  intro I a0 x1 x2 b0 H locs ls ka0 rx1 rx2 kb0 hF hl hf
  unfold f_X8_test_16 at hf
  refine fl_iconst C0 dX8_test_16 ?_
  refine fl_goto (tgt := 21) C0 dX8_test_17 (by decide) ?_
  exact b_X8_test_21 C0 hr hWT  I a0 x1 x2 1 b0 _ _ _ ka0 rx1 rx2 ((rgk 1 rfl)) kb0 hF (lv_sub hl [0, 1, 2] rfl) hf
theorem pm_X8_test : plainM yX8_test 2 := by decide +kernel
set_option maxRecDepth 100000 in
set_option maxHeartbeats 4000000 in
theorem c_X8_test (l : Launch) (D : va_G) (cy : Nat → ClassId) (B : Nat) (L : List Nat) (K : KT) (P : PT) (J : IT) (hWT : WT K P) (I : IT) (a0 : Nat) (x1 : Int) (x2 : Int) (ka0 : K a0 = 9) (rx1 : rg x1) (rx2 : rg x2) {r : Int} {I' : IT} (hf : f_X8_test K P I a0 x1 x2 = some (r, I')) : Met l yX8_test [.code yX8_test cX8_test 3 (some .int)] rm_X8_test (va_Pc [.ref a0, iv x1, iv x2] (FW D cy B L K P J I)) (QI D cy B L K P J (r, I')) 0 0 (fun q => B ≤ q) := by
  refine fl_body (own := "RejudgeHallModel") [.ref a0, iv x1, iv x2] (by decide) rfl (Nat.le_of_ble_eq_true rfl) ?_
  intro p e s m args below meth c ls C0 hr hF hl
  have hl : lv_has ls 3 [(0, .ref a0), (1, iv x1), (2, iv x2)] := hl
  unfold f_X8_test at hf
  refine lv_aload_n C0.1 C0.2.1 dX8_test_0 rfl (lv_at hl 0 rfl) ?_
  refine lv_aload_n C0.1 C0.2.1 dX8_test_1 rfl (lv_at hl 0 rfl) ?_
  refine lv_iload_n C0.1 C0.2.1 dX8_test_2 rfl (lv_at hl 1 rfl) ?_
  obtain ⟨r1, hq1, hf⟩ := bp_f hf
  refine fl_ri hF (fl_runV (As := [iv x1]) (rest := [.ref a0]) C0 hF hl.1 ck_9 ka0 rfl (c_X8_isProblem l D cy B L K P J hWT I a0 x1 ka0 rx1 hq1) aw_1053 aw_1055 aw_49 aw_73 aw_1056 rfl rfl pm_X8_isProblem rfl rfl ⟨Nat.le_of_ble_eq_true rfl, Nat.le_of_ble_eq_true rfl⟩ rfl (Nat.le_of_ble_eq_true rfl) dX8_test_3 ⟨Nat.le_of_ble_eq_true rfl, Nat.le_of_ble_eq_true rfl⟩) (fun H locs hF1 rr1 => ?_)
  refine fl_if_eq (tgt := 16) C0 rr1 dX8_test_6 (by decide) (fun c2 => ?_) (fun c2 => ?_)
  · replace hf := (if_pos c2).symm.trans hf
    exact b_X8_test_16 C0 hr hWT  I a0 x1 x2 a0 _ _ _ ka0 rx1 rx2 ka0 hF1 (lv_sub hl [0, 1, 2] rfl) hf
  · replace hf := (if_neg c2).symm.trans hf
    refine lv_iload_n C0.1 C0.2.1 dX8_test_9 rfl (lv_at hl 2 rfl) ?_
    obtain ⟨r3, hq3, hf⟩ := bp_f hf
    refine fl_ri hF1 (fl_runSG (As := [iv x2]) (rest := [.ref a0]) C0 hF1 hl.1 (c_X8_isGroup l D cy B L K P J hWT I x2 rx2 hq3) aw_1057 aw_1058 aw_73 aw_1059 rfl pm_X8_isGroup rfl rfl ⟨Nat.le_of_ble_eq_true rfl, Nat.le_of_ble_eq_true rfl⟩ rfl (Nat.le_of_ble_eq_true rfl) dX8_test_10 ⟨Nat.le_of_ble_eq_true rfl, Nat.le_of_ble_eq_true rfl⟩) (fun H locs hF3 rr3 => ?_)
    refine fl_if_ne (tgt := 20) C0 rr3 dX8_test_13 (by decide) (fun c4 => ?_) (fun c4 => ?_)
    · replace hf := (if_neg c4).symm.trans hf
      refine fl_iconst C0 dX8_test_20 ?_
      exact b_X8_test_21 C0 hr hWT  I a0 x1 x2 0 a0 _ _ _ ka0 rx1 rx2 ((rgk 0 rfl)) ka0 hF3 (lv_sub hl [0, 1, 2] rfl) hf
    · replace hf := (if_pos c4).symm.trans hf
      exact b_X8_test_16 C0 hr hWT  I a0 x1 x2 a0 _ _ _ ka0 rx1 rx2 ka0 hF3 (lv_sub hl [0, 1, 2] rfl) hf
-- RejudgeHallModel.points(III)I
abbrev rm_X8_points : Room := { frames := 2, cells := 0, slots := 0, locals := 43 }
def f_X8_points_35 (K : KT) (P : PT) (I : IT) (a0 : Nat) (x1 : Int) (x2 : Int) (x3 : Int) (t0 : Int) (b1 : Nat) : Option (Int × IT) := bnd (up I b1 38 t0) fun I7 => if (I7 a0 38) ≤ 0 then (ck (0 ≤ (wr ((wr (4 * x1)) + x2)) ∧ (wr ((wr (4 * x1)) + x2)) < 24) <| ck (0 ≤ (wr ((wr (4 * x1)) + x2)) ∧ (wr ((wr (4 * x1)) + x2)) < 24) <| bnd (up I7 ((P a0 12)) ((wr ((wr (4 * x1)) + x2)) : Int).toNat x3) fun I9 => some ((I7 ((P a0 12)) ((wr ((wr (4 * x1)) + x2)) : Int).toNat), I9)) else (some (0, I7))
def f_X8_points_16 (K : KT) (P : PT) (I : IT) (a0 : Nat) (x1 : Int) (x2 : Int) (x3 : Int) (b0 : Nat) : Option (Int × IT) := f_X8_points_35 K P  I a0 x1 x2 x3 1 b0
def f_X8_points (K : KT) (P : PT) (I : IT) (a0 : Nat) (x1 : Int) (x2 : Int) (x3 : Int) : Option (Int × IT) := bp (f_X8_isProblem K P I a0 x1) fun r1 => if r1 = 0 then (f_X8_points_16 K P  I a0 x1 x2 x3 a0) else (bp (f_X8_isGroup K P I x2) fun r3 => if r3 = 0 then (f_X8_points_16 K P  I a0 x1 x2 x3 a0) else (bp (f_X8_isIn K P I x3 0 100) fun r5 => if r5 = 0 then (f_X8_points_35 K P  I a0 x1 x2 x3 2 a0) else (f_X8_points_35 K P  I a0 x1 x2 x3 0 a0)))
abbrev G_X8_points_35 (p : Program) (l : Launch) (e : Env) (s : State) (m : MethodId) (args : Array Value) (below : List Frame) (meth : Method) (c : Code) (D : va_G) (cy : Nat → ClassId) (B : Nat) (L : List Nat) (K : KT) (P : PT) (J : IT) (res : Int × IT) (f : IT → Nat → Int → Int → Int → Int → Nat → Option (Int × IT)) : Prop := ∀ (I : IT) (a0 : Nat) (x1 : Int) (x2 : Int) (x3 : Int) (t0 : Int) (b1 : Nat) (H : Heap) (locs : List Loc) (ls : Array Slot), K a0 = 9 → rg x1 → rg x2 → rg x3 → rg t0 → K b1 = 9 → FS D cy B L K P J s.heap I H locs → lv_has ls 5 [(0, .ref a0), (1, iv x1), (2, iv x2), (3, iv x3)] → f I a0 x1 x2 x3 t0 b1 = some res → W p l e rm_X8_points s m args below meth c H locs 0 0 (MQ below (QI D cy B L K P J res) args s 0 0 (fun q => B ≤ q)) (F0 m 35 ls [iv t0, .ref b1])
abbrev G_X8_points_16 (p : Program) (l : Launch) (e : Env) (s : State) (m : MethodId) (args : Array Value) (below : List Frame) (meth : Method) (c : Code) (D : va_G) (cy : Nat → ClassId) (B : Nat) (L : List Nat) (K : KT) (P : PT) (J : IT) (res : Int × IT) (f : IT → Nat → Int → Int → Int → Nat → Option (Int × IT)) : Prop := ∀ (I : IT) (a0 : Nat) (x1 : Int) (x2 : Int) (x3 : Int) (b0 : Nat) (H : Heap) (locs : List Loc) (ls : Array Slot), K a0 = 9 → rg x1 → rg x2 → rg x3 → K b0 = 9 → FS D cy B L K P J s.heap I H locs → lv_has ls 5 [(0, .ref a0), (1, iv x1), (2, iv x2), (3, iv x3)] → f I a0 x1 x2 x3 b0 = some res → W p l e rm_X8_points s m args below meth c H locs 0 0 (MQ below (QI D cy B L K P J res) args s 0 0 (fun q => B ≤ q)) (F0 m 16 ls [.ref b0])
set_option maxRecDepth 100000 in
set_option maxHeartbeats 4000000 in
theorem b_X8_points_35 {p : Program} {l : Launch} {e : Env} {s : State} {m : MethodId} {args : Array Value} {below : List Frame} {meth : Method} {c : Code} {D : va_G} {cy : Nat → ClassId} {B : Nat} {L : List Nat} {K : KT} {P : PT} {J : IT} {res : Int × IT} (C0 : FC D cy B p s m meth c "RejudgeHallModel" cX8_points 5) (hr : meth.sig.returnType = (some .int)) (hWT : WT K P) : G_X8_points_35 p l e s m args below meth c D cy B L K P J res (f_X8_points_35 K P ) := by
  intro I a0 x1 x2 x3 t0 b1 H locs ls ka0 rx1 rx2 rx3 rt0 kb1 hF hl hf
  unfold f_X8_points_35 at hf
  refine fl_puti (k := 38) ck_9 C0 hF kb1 rfl rt0 ⟨rfl, rfl, rfl⟩ aw_912 dX8_points_35 (fun H locs hF7 => ?_)
  obtain ⟨I7, eI7, hf⟩ := bnd_f hf
  rw [eI7] at hF7
  refine lv_aload_n C0.1 C0.2.1 dX8_points_38 rfl (lv_at hl 0 rfl) ?_
  refine fl_geti (k := 38) ck_9 C0 hF7 ka0 rfl ⟨rfl, rfl⟩ aw_912 dX8_points_39 ?_
  refine fl_if_le (tgt := 47) C0 (hF7.rI _ _) dX8_points_42 (by decide) (fun c8 => ?_) (fun c8 => ?_)
  · replace hf := (if_pos c8).symm.trans hf
    refine lv_aload_n C0.1 C0.2.1 dX8_points_47 rfl (lv_at hl 0 rfl) ?_
    refine fl_getr (k := 12) (t := 196) ck_9 C0 hF7 ka0 rfl (wt_at (k := 12) (t := 196) hWT ka0 rfl) rfl ⟨rfl, rfl⟩ aw_886 dX8_points_48 ?_
    refine fl_iconst C0 dX8_points_51 ?_
    refine lv_iload_n C0.1 C0.2.1 dX8_points_52 rfl (lv_at hl 1 rfl) ?_
    refine fl_imul C0 dX8_points_53 ?_
    refine lv_iload_n C0.1 C0.2.1 dX8_points_54 rfl (lv_at hl 2 rfl) ?_
    refine fl_iadd C0 dX8_points_55 ?_
    obtain ⟨hc, hf⟩ := ck_f hf
    refine fl_iald (n := 24) C0 hF7 (wt_at (k := 12) (t := 196) hWT ka0 rfl) (rg_wr _) hc dX8_points_56 ?_
    refine lv_istore (lv' := [(4, iv (I7 ((P a0 12)) ((wr ((wr (4 * x1)) + x2)) : Int).toNat)), (0, .ref a0), (1, iv x1), (2, iv x2), (3, iv x3)]) C0.1 C0.2.1 dX8_points_57 hl (by decide) rfl (fun ls hl => ?_)
    refine lv_aload_n C0.1 C0.2.1 dX8_points_59 rfl (lv_at hl 1 rfl) ?_
    refine fl_getr (k := 12) (t := 196) ck_9 C0 hF7 ka0 rfl (wt_at (k := 12) (t := 196) hWT ka0 rfl) rfl ⟨rfl, rfl⟩ aw_886 dX8_points_60 ?_
    refine fl_iconst C0 dX8_points_63 ?_
    refine lv_iload_n C0.1 C0.2.1 dX8_points_64 rfl (lv_at hl 2 rfl) ?_
    refine fl_imul C0 dX8_points_65 ?_
    refine lv_iload_n C0.1 C0.2.1 dX8_points_66 rfl (lv_at hl 3 rfl) ?_
    refine fl_iadd C0 dX8_points_67 ?_
    refine lv_iload_n C0.1 C0.2.1 dX8_points_68 rfl (lv_at hl 4 rfl) ?_
    obtain ⟨hc, hf⟩ := ck_f hf
    refine fl_iast (n := 24) C0 hF7 (wt_at (k := 12) (t := 196) hWT ka0 rfl) (rg_wr _) rx3 hc dX8_points_69 (fun H locs hF9 => ?_)
    obtain ⟨I9, eI9, hf⟩ := bnd_f hf
    rw [eI9] at hF9
    refine lv_iload C0.1 C0.2.1 dX8_points_70 (lv_at hl 0 rfl) ?_
    cases hf
    exact fl_iret C0 hF9 hr (hF7.rI _ _) rfl dX8_points_72
  · replace hf := (if_neg c8).symm.trans hf
    refine fl_iconst C0 dX8_points_45 ?_
    cases hf
    exact fl_iret C0 hF7 hr (rgk 0 rfl) rfl dX8_points_46
set_option maxRecDepth 100000 in
set_option maxHeartbeats 4000000 in
theorem b_X8_points_16 {p : Program} {l : Launch} {e : Env} {s : State} {m : MethodId} {args : Array Value} {below : List Frame} {meth : Method} {c : Code} {D : va_G} {cy : Nat → ClassId} {B : Nat} {L : List Nat} {K : KT} {P : PT} {J : IT} {res : Int × IT} (C0 : FC D cy B p s m meth c "RejudgeHallModel" cX8_points 5) (hr : meth.sig.returnType = (some .int)) (hWT : WT K P) : G_X8_points_16 p l e s m args below meth c D cy B L K P J res (f_X8_points_16 K P ) := by
  intro I a0 x1 x2 x3 b0 H locs ls ka0 rx1 rx2 rx3 kb0 hF hl hf
  unfold f_X8_points_16 at hf
  refine fl_iconst C0 dX8_points_16 ?_
  refine fl_goto (tgt := 35) C0 dX8_points_17 (by decide) ?_
  exact b_X8_points_35 C0 hr hWT  I a0 x1 x2 x3 1 b0 _ _ _ ka0 rx1 rx2 rx3 ((rgk 1 rfl)) kb0 hF (lv_sub hl [0, 1, 2, 3] rfl) hf
theorem pm_X8_points : plainM yX8_points 3 := by decide +kernel
set_option maxRecDepth 100000 in
set_option maxHeartbeats 4000000 in
theorem c_X8_points (l : Launch) (D : va_G) (cy : Nat → ClassId) (B : Nat) (L : List Nat) (K : KT) (P : PT) (J : IT) (hWT : WT K P) (I : IT) (a0 : Nat) (x1 : Int) (x2 : Int) (x3 : Int) (ka0 : K a0 = 9) (rx1 : rg x1) (rx2 : rg x2) (rx3 : rg x3) {r : Int} {I' : IT} (hf : f_X8_points K P I a0 x1 x2 x3 = some (r, I')) : Met l yX8_points [.code yX8_points cX8_points 5 (some .int)] rm_X8_points (va_Pc [.ref a0, iv x1, iv x2, iv x3] (FW D cy B L K P J I)) (QI D cy B L K P J (r, I')) 0 0 (fun q => B ≤ q) := by
  refine fl_body (own := "RejudgeHallModel") [.ref a0, iv x1, iv x2, iv x3] (by decide) rfl (Nat.le_of_ble_eq_true rfl) ?_
  intro p e s m args below meth c ls C0 hr hF hl
  have hl : lv_has ls 5 [(0, .ref a0), (1, iv x1), (2, iv x2), (3, iv x3)] := hl
  unfold f_X8_points at hf
  refine lv_aload_n C0.1 C0.2.1 dX8_points_0 rfl (lv_at hl 0 rfl) ?_
  refine lv_aload_n C0.1 C0.2.1 dX8_points_1 rfl (lv_at hl 0 rfl) ?_
  refine lv_iload_n C0.1 C0.2.1 dX8_points_2 rfl (lv_at hl 1 rfl) ?_
  obtain ⟨r1, hq1, hf⟩ := bp_f hf
  refine fl_ri hF (fl_runV (As := [iv x1]) (rest := [.ref a0]) C0 hF hl.1 ck_9 ka0 rfl (c_X8_isProblem l D cy B L K P J hWT I a0 x1 ka0 rx1 hq1) aw_1053 aw_1055 aw_49 aw_73 aw_1056 rfl rfl pm_X8_isProblem rfl rfl ⟨Nat.le_of_ble_eq_true rfl, Nat.le_of_ble_eq_true rfl⟩ rfl (Nat.le_of_ble_eq_true rfl) dX8_points_3 ⟨Nat.le_of_ble_eq_true rfl, Nat.le_of_ble_eq_true rfl⟩) (fun H locs hF1 rr1 => ?_)
  refine fl_if_eq (tgt := 16) C0 rr1 dX8_points_6 (by decide) (fun c2 => ?_) (fun c2 => ?_)
  · replace hf := (if_pos c2).symm.trans hf
    exact b_X8_points_16 C0 hr hWT  I a0 x1 x2 x3 a0 _ _ _ ka0 rx1 rx2 rx3 ka0 hF1 (lv_sub hl [0, 1, 2, 3] rfl) hf
  · replace hf := (if_neg c2).symm.trans hf
    refine lv_iload_n C0.1 C0.2.1 dX8_points_9 rfl (lv_at hl 2 rfl) ?_
    obtain ⟨r3, hq3, hf⟩ := bp_f hf
    refine fl_ri hF1 (fl_runSG (As := [iv x2]) (rest := [.ref a0]) C0 hF1 hl.1 (c_X8_isGroup l D cy B L K P J hWT I x2 rx2 hq3) aw_1057 aw_1058 aw_73 aw_1059 rfl pm_X8_isGroup rfl rfl ⟨Nat.le_of_ble_eq_true rfl, Nat.le_of_ble_eq_true rfl⟩ rfl (Nat.le_of_ble_eq_true rfl) dX8_points_10 ⟨Nat.le_of_ble_eq_true rfl, Nat.le_of_ble_eq_true rfl⟩) (fun H locs hF3 rr3 => ?_)
    refine fl_if_ne (tgt := 20) C0 rr3 dX8_points_13 (by decide) (fun c4 => ?_) (fun c4 => ?_)
    · replace hf := (if_neg c4).symm.trans hf
      refine lv_iload_n C0.1 C0.2.1 dX8_points_20 rfl (lv_at hl 3 rfl) ?_
      refine fl_iconst C0 dX8_points_21 ?_
      refine fl_bipush C0 dX8_points_22 (by decide) ?_
      obtain ⟨r5, hq5, hf⟩ := bp_f hf
      refine fl_ri hF3 (fl_runSG (As := [iv x3, iv 0, iv 100]) (rest := [.ref a0]) C0 hF3 hl.1 (c_X8_isIn l D cy B L K P J hWT I x3 0 100 rx3 ((rgk 0 rfl)) ((rgk 100 rfl)) hq5) aw_1000 aw_1001 aw_73 aw_1002 rfl pm_X8_isIn rfl rfl ⟨Nat.le_of_ble_eq_true rfl, Nat.le_of_ble_eq_true rfl⟩ rfl (Nat.le_of_ble_eq_true rfl) dX8_points_24 ⟨Nat.le_of_ble_eq_true rfl, Nat.le_of_ble_eq_true rfl⟩) (fun H locs hF5 rr5 => ?_)
      refine fl_if_ne (tgt := 34) C0 rr5 dX8_points_27 (by decide) (fun c6 => ?_) (fun c6 => ?_)
      · replace hf := (if_neg c6).symm.trans hf
        refine fl_iconst C0 dX8_points_34 ?_
        exact b_X8_points_35 C0 hr hWT  I a0 x1 x2 x3 0 a0 _ _ _ ka0 rx1 rx2 rx3 ((rgk 0 rfl)) ka0 hF5 (lv_sub hl [0, 1, 2, 3] rfl) hf
      · replace hf := (if_pos c6).symm.trans hf
        refine fl_iconst C0 dX8_points_30 ?_
        refine fl_goto (tgt := 35) C0 dX8_points_31 (by decide) ?_
        exact b_X8_points_35 C0 hr hWT  I a0 x1 x2 x3 2 a0 _ _ _ ka0 rx1 rx2 rx3 ((rgk 2 rfl)) ka0 hF5 (lv_sub hl [0, 1, 2, 3] rfl) hf
    · replace hf := (if_pos c4).symm.trans hf
      exact b_X8_points_16 C0 hr hWT  I a0 x1 x2 x3 a0 _ _ _ ka0 rx1 rx2 rx3 ka0 hF3 (lv_sub hl [0, 1, 2, 3] rfl) hf
-- RejudgeHallModel.mend(II)I
abbrev rm_X8_mend : Room := { frames := 5, cells := 0, slots := 0, locals := 117 }
def f_X8_mend_127 (K : KT) (P : PT) (I : IT) (a0 : Nat) (x1 : Int) (x2 : Int) : Option (Int × IT) := ck (0 ≤ x1 ∧ x1 < 6) <| bnd (up I ((P a0 8)) (x1 : Int).toNat x2) fun I16 => ck (0 ≤ x1 ∧ x1 < 6) <| ck (0 ≤ x1 ∧ x1 < 6) <| bnd (up I16 ((P a0 9)) (x1 : Int).toNat (wr ((I16 ((P a0 9)) (x1 : Int).toNat) + 1))) fun I17 => ck (0 ≤ x1 ∧ x1 < 6) <| some ((I17 ((P a0 9)) (x1 : Int).toNat), I17)
def f_X8_mend_93 (K : KT) (P : PT) (I : IT) (a0 : Nat) (x1 : Int) (x2 : Int) (t0 : Int) (b1 : Nat) : Option (Int × IT) := bnd (up I b1 38 t0) fun I11 => if (I11 a0 38) ≤ 0 then (if (I11 ((P a0 1)) (0 : Int).toNat) ≤ 0 then (f_X8_mend_127 K P  I11 a0 x1 x2) else (bp (f_X8_copies K P I11 a0 0 ((wr (1 + x1)))) fun I14 => bp (f_X8_empties K P I14 a0 0) fun I15 => f_X8_mend_127 K P  I15 a0 x1 x2)) else (some (0, I11))
def f_X8_mend_83 (K : KT) (P : PT) (I : IT) (a0 : Nat) (x1 : Int) (x2 : Int) (x3 : Int) : Option (Int × IT) := if x3 = 0 then (f_X8_mend_93 K P  I a0 x1 x2 3 a0) else (f_X8_mend_93 K P  I a0 x1 x2 0 a0)
def f_X8_mend_42 (K : KT) (P : PT) : Nat → IT → Nat → Int → Int → Int → Int → Option (Int × IT)
  | 0, _, _, _, _, _, _ => none
  | n + 1, I, a0, x1, x2, x3, x4 => ck (0 ≤ x1 ∧ x1 < 6) <| if (I ((P a0 10)) (x1 : Int).toNat) ≤ x4 then (f_X8_mend_83 K P  I a0 x1 x2 x3) else (if (I ((P a0 1)) (0 : Int).toNat) ≤ 0 then (f_X8_mend_83 K P  I a0 x1 x2 x3) else (bi (f_X8_answers K P I a0 0 ((wr ((wr (12 * x1)) + x4)))) fun r9 I9 => (f_X8_mend_42 K P  n) I9 a0 x1 x2 ((ban x3 r9)) ((wr (x4 + 1)))))
def f_X8_mend_25 (K : KT) (P : PT) (I : IT) (a0 : Nat) (x1 : Int) (x2 : Int) (t0 : Int) (b1 : Nat) : Option (Int × IT) := bnd (up I b1 38 t0) fun I5 => if (I5 a0 38) ≤ 0 then (f_X8_mend_42 K P  FU I5 a0 x1 x2 1 0) else (some (0, I5))
def f_X8_mend (K : KT) (P : PT) (I : IT) (a0 : Nat) (x1 : Int) (x2 : Int) : Option (Int × IT) := bp (f_X8_isProblem K P I a0 x1) fun r1 => if r1 = 0 then (f_X8_mend_25 K P  I a0 x1 x2 1 a0) else (bp (f_X8_isChecker K P I x2) fun r3 => if r3 = 0 then (f_X8_mend_25 K P  I a0 x1 x2 2 a0) else (f_X8_mend_25 K P  I a0 x1 x2 0 a0))
abbrev G_X8_mend_127 (p : Program) (l : Launch) (e : Env) (s : State) (m : MethodId) (args : Array Value) (below : List Frame) (meth : Method) (c : Code) (D : va_G) (cy : Nat → ClassId) (B : Nat) (L : List Nat) (K : KT) (P : PT) (J : IT) (res : Int × IT) (f : IT → Nat → Int → Int → Option (Int × IT)) : Prop := ∀ (I : IT) (a0 : Nat) (x1 : Int) (x2 : Int) (H : Heap) (locs : List Loc) (ls : Array Slot), K a0 = 9 → rg x1 → rg x2 → FS D cy B L K P J s.heap I H locs → lv_has ls 5 [(0, .ref a0), (1, iv x1), (2, iv x2)] → f I a0 x1 x2 = some res → W p l e rm_X8_mend s m args below meth c H locs 0 0 (MQ below (QI D cy B L K P J res) args s 0 0 (fun q => B ≤ q)) (F0 m 127 ls [])
abbrev G_X8_mend_93 (p : Program) (l : Launch) (e : Env) (s : State) (m : MethodId) (args : Array Value) (below : List Frame) (meth : Method) (c : Code) (D : va_G) (cy : Nat → ClassId) (B : Nat) (L : List Nat) (K : KT) (P : PT) (J : IT) (res : Int × IT) (f : IT → Nat → Int → Int → Int → Nat → Option (Int × IT)) : Prop := ∀ (I : IT) (a0 : Nat) (x1 : Int) (x2 : Int) (t0 : Int) (b1 : Nat) (H : Heap) (locs : List Loc) (ls : Array Slot), K a0 = 9 → rg x1 → rg x2 → rg t0 → K b1 = 9 → FS D cy B L K P J s.heap I H locs → lv_has ls 5 [(0, .ref a0), (1, iv x1), (2, iv x2)] → f I a0 x1 x2 t0 b1 = some res → W p l e rm_X8_mend s m args below meth c H locs 0 0 (MQ below (QI D cy B L K P J res) args s 0 0 (fun q => B ≤ q)) (F0 m 93 ls [iv t0, .ref b1])
abbrev G_X8_mend_83 (p : Program) (l : Launch) (e : Env) (s : State) (m : MethodId) (args : Array Value) (below : List Frame) (meth : Method) (c : Code) (D : va_G) (cy : Nat → ClassId) (B : Nat) (L : List Nat) (K : KT) (P : PT) (J : IT) (res : Int × IT) (f : IT → Nat → Int → Int → Int → Option (Int × IT)) : Prop := ∀ (I : IT) (a0 : Nat) (x1 : Int) (x2 : Int) (x3 : Int) (H : Heap) (locs : List Loc) (ls : Array Slot), K a0 = 9 → rg x1 → rg x2 → rg x3 → FS D cy B L K P J s.heap I H locs → lv_has ls 5 [(0, .ref a0), (1, iv x1), (2, iv x2), (3, iv x3)] → f I a0 x1 x2 x3 = some res → W p l e rm_X8_mend s m args below meth c H locs 0 0 (MQ below (QI D cy B L K P J res) args s 0 0 (fun q => B ≤ q)) (F0 m 83 ls [])
abbrev G_X8_mend_42 (p : Program) (l : Launch) (e : Env) (s : State) (m : MethodId) (args : Array Value) (below : List Frame) (meth : Method) (c : Code) (D : va_G) (cy : Nat → ClassId) (B : Nat) (L : List Nat) (K : KT) (P : PT) (J : IT) (res : Int × IT) (f : IT → Nat → Int → Int → Int → Int → Option (Int × IT)) : Prop := ∀ (I : IT) (a0 : Nat) (x1 : Int) (x2 : Int) (x3 : Int) (x4 : Int) (H : Heap) (locs : List Loc) (ls : Array Slot), K a0 = 9 → rg x1 → rg x2 → rg x3 → rg x4 → FS D cy B L K P J s.heap I H locs → lv_has ls 5 [(0, .ref a0), (1, iv x1), (2, iv x2), (3, iv x3), (4, iv x4)] → f I a0 x1 x2 x3 x4 = some res → W p l e rm_X8_mend s m args below meth c H locs 0 0 (MQ below (QI D cy B L K P J res) args s 0 0 (fun q => B ≤ q)) (F0 m 42 ls [])
abbrev G_X8_mend_25 (p : Program) (l : Launch) (e : Env) (s : State) (m : MethodId) (args : Array Value) (below : List Frame) (meth : Method) (c : Code) (D : va_G) (cy : Nat → ClassId) (B : Nat) (L : List Nat) (K : KT) (P : PT) (J : IT) (res : Int × IT) (f : IT → Nat → Int → Int → Int → Nat → Option (Int × IT)) : Prop := ∀ (I : IT) (a0 : Nat) (x1 : Int) (x2 : Int) (t0 : Int) (b1 : Nat) (H : Heap) (locs : List Loc) (ls : Array Slot), K a0 = 9 → rg x1 → rg x2 → rg t0 → K b1 = 9 → FS D cy B L K P J s.heap I H locs → lv_has ls 5 [(0, .ref a0), (1, iv x1), (2, iv x2)] → f I a0 x1 x2 t0 b1 = some res → W p l e rm_X8_mend s m args below meth c H locs 0 0 (MQ below (QI D cy B L K P J res) args s 0 0 (fun q => B ≤ q)) (F0 m 25 ls [iv t0, .ref b1])
set_option maxRecDepth 100000 in
set_option maxHeartbeats 4000000 in
theorem b_X8_mend_127 {p : Program} {l : Launch} {e : Env} {s : State} {m : MethodId} {args : Array Value} {below : List Frame} {meth : Method} {c : Code} {D : va_G} {cy : Nat → ClassId} {B : Nat} {L : List Nat} {K : KT} {P : PT} {J : IT} {res : Int × IT} (C0 : FC D cy B p s m meth c "RejudgeHallModel" cX8_mend 5) (hr : meth.sig.returnType = (some .int)) (hWT : WT K P) : G_X8_mend_127 p l e s m args below meth c D cy B L K P J res (f_X8_mend_127 K P ) := by
  intro I a0 x1 x2 H locs ls ka0 rx1 rx2 hF hl hf
  unfold f_X8_mend_127 at hf
  refine lv_aload_n C0.1 C0.2.1 dX8_mend_127 rfl (lv_at hl 0 rfl) ?_
  refine fl_getr (k := 8) (t := 124) ck_9 C0 hF ka0 rfl (wt_at (k := 8) (t := 124) hWT ka0 rfl) rfl ⟨rfl, rfl⟩ aw_882 dX8_mend_128 ?_
  refine lv_iload_n C0.1 C0.2.1 dX8_mend_131 rfl (lv_at hl 1 rfl) ?_
  refine lv_iload_n C0.1 C0.2.1 dX8_mend_132 rfl (lv_at hl 2 rfl) ?_
  obtain ⟨hc, hf⟩ := ck_f hf
  refine fl_iast (n := 6) C0 hF (wt_at (k := 8) (t := 124) hWT ka0 rfl) rx1 rx2 hc dX8_mend_133 (fun H locs hF16 => ?_)
  obtain ⟨I16, eI16, hf⟩ := bnd_f hf
  rw [eI16] at hF16
  refine lv_aload_n C0.1 C0.2.1 dX8_mend_134 rfl (lv_at hl 0 rfl) ?_
  refine fl_getr (k := 9) (t := 124) ck_9 C0 hF16 ka0 rfl (wt_at (k := 9) (t := 124) hWT ka0 rfl) rfl ⟨rfl, rfl⟩ aw_883 dX8_mend_135 ?_
  refine lv_iload_n C0.1 C0.2.1 dX8_mend_138 rfl (lv_at hl 1 rfl) ?_
  refine lv_dup2_11 C0.1 C0.2.1 dX8_mend_139 rfl rfl ?_
  obtain ⟨hc, hf⟩ := ck_f hf
  refine fl_iald (n := 6) C0 hF16 (wt_at (k := 9) (t := 124) hWT ka0 rfl) rx1 hc dX8_mend_140 ?_
  refine fl_iconst C0 dX8_mend_141 ?_
  refine fl_iadd C0 dX8_mend_142 ?_
  obtain ⟨hc, hf⟩ := ck_f hf
  refine fl_iast (n := 6) C0 hF16 (wt_at (k := 9) (t := 124) hWT ka0 rfl) rx1 (rg_wr _) hc dX8_mend_143 (fun H locs hF17 => ?_)
  obtain ⟨I17, eI17, hf⟩ := bnd_f hf
  rw [eI17] at hF17
  refine lv_aload_n C0.1 C0.2.1 dX8_mend_144 rfl (lv_at hl 0 rfl) ?_
  refine fl_getr (k := 9) (t := 124) ck_9 C0 hF17 ka0 rfl (wt_at (k := 9) (t := 124) hWT ka0 rfl) rfl ⟨rfl, rfl⟩ aw_883 dX8_mend_145 ?_
  refine lv_iload_n C0.1 C0.2.1 dX8_mend_148 rfl (lv_at hl 1 rfl) ?_
  obtain ⟨hc, hf⟩ := ck_f hf
  refine fl_iald (n := 6) C0 hF17 (wt_at (k := 9) (t := 124) hWT ka0 rfl) rx1 hc dX8_mend_149 ?_
  cases hf
  exact fl_iret C0 hF17 hr (hF17.rI _ _) rfl dX8_mend_150
set_option maxRecDepth 100000 in
set_option maxHeartbeats 4000000 in
theorem b_X8_mend_93 {p : Program} {l : Launch} {e : Env} {s : State} {m : MethodId} {args : Array Value} {below : List Frame} {meth : Method} {c : Code} {D : va_G} {cy : Nat → ClassId} {B : Nat} {L : List Nat} {K : KT} {P : PT} {J : IT} {res : Int × IT} (C0 : FC D cy B p s m meth c "RejudgeHallModel" cX8_mend 5) (hr : meth.sig.returnType = (some .int)) (hWT : WT K P) : G_X8_mend_93 p l e s m args below meth c D cy B L K P J res (f_X8_mend_93 K P ) := by
  intro I a0 x1 x2 t0 b1 H locs ls ka0 rx1 rx2 rt0 kb1 hF hl hf
  unfold f_X8_mend_93 at hf
  refine fl_puti (k := 38) ck_9 C0 hF kb1 rfl rt0 ⟨rfl, rfl, rfl⟩ aw_912 dX8_mend_93 (fun H locs hF11 => ?_)
  obtain ⟨I11, eI11, hf⟩ := bnd_f hf
  rw [eI11] at hF11
  refine lv_aload_n C0.1 C0.2.1 dX8_mend_96 rfl (lv_at hl 0 rfl) ?_
  refine fl_geti (k := 38) ck_9 C0 hF11 ka0 rfl ⟨rfl, rfl⟩ aw_912 dX8_mend_97 ?_
  refine fl_if_le (tgt := 105) C0 (hF11.rI _ _) dX8_mend_100 (by decide) (fun c12 => ?_) (fun c12 => ?_)
  · replace hf := (if_pos c12).symm.trans hf
    refine lv_aload_n C0.1 C0.2.1 dX8_mend_105 rfl (lv_at hl 0 rfl) ?_
    refine fl_getr (k := 1) (t := 368) ck_9 C0 hF11 ka0 rfl (wt_at (k := 1) (t := 368) hWT ka0 rfl) rfl ⟨rfl, rfl⟩ aw_875 dX8_mend_106 ?_
    refine fl_iconst C0 dX8_mend_109 ?_
    refine fl_iald (n := 67) C0 hF11 (wt_at (k := 1) (t := 368) hWT ka0 rfl) (rgk 0 rfl) ⟨by decide, by decide⟩ dX8_mend_110 ?_
    refine fl_if_le (tgt := 127) C0 (hF11.rI _ _) dX8_mend_111 (by decide) (fun c13 => ?_) (fun c13 => ?_)
    · replace hf := (if_pos c13).symm.trans hf
      exact b_X8_mend_127 C0 hr hWT  I11 a0 x1 x2 _ _ _ ka0 rx1 rx2 hF11 (lv_sub hl [0, 1, 2] rfl) hf
    · replace hf := (if_neg c13).symm.trans hf
      refine lv_aload_n C0.1 C0.2.1 dX8_mend_114 rfl (lv_at hl 0 rfl) ?_
      refine fl_iconst C0 dX8_mend_115 ?_
      refine fl_iconst C0 dX8_mend_116 ?_
      refine lv_iload_n C0.1 C0.2.1 dX8_mend_117 rfl (lv_at hl 1 rfl) ?_
      refine fl_iadd C0 dX8_mend_118 ?_
      obtain ⟨I14, hq14, hf⟩ := bp_f hf
      refine fl_rv hF11 (fl_runV (As := [iv 0, iv (wr (1 + x1))]) (rest := []) C0 hF11 hl.1 ck_9 ka0 rfl (c_X8_copies l D cy B L K P J hWT I11 a0 0 ((wr (1 + x1))) ka0 ((rgk 0 rfl)) ((rg_wr _)) hq14) aw_1045 aw_1047 aw_48 aw_73 aw_1048 rfl rfl pm_X8_copies rfl rfl ⟨Nat.le_of_ble_eq_true rfl, Nat.le_of_ble_eq_true rfl⟩ rfl (Nat.le_of_ble_eq_true rfl) dX8_mend_119 ⟨Nat.le_of_ble_eq_true rfl, Nat.le_of_ble_eq_true rfl⟩) (fun H locs hF14 => ?_)
      refine lv_aload_n C0.1 C0.2.1 dX8_mend_122 rfl (lv_at hl 0 rfl) ?_
      refine fl_iconst C0 dX8_mend_123 ?_
      obtain ⟨I15, hq15, hf⟩ := bp_f hf
      refine fl_rv hF14 (fl_runV (As := [iv 0]) (rest := []) C0 hF14 hl.1 ck_9 ka0 rfl (c_X8_empties l D cy B L K P J hWT I14 a0 0 ka0 ((rgk 0 rfl)) hq15) aw_1011 aw_1013 aw_44 aw_73 aw_1014 rfl rfl pm_X8_empties rfl rfl ⟨Nat.le_of_ble_eq_true rfl, Nat.le_of_ble_eq_true rfl⟩ rfl (Nat.le_of_ble_eq_true rfl) dX8_mend_124 ⟨Nat.le_of_ble_eq_true rfl, Nat.le_of_ble_eq_true rfl⟩) (fun H locs hF15 => ?_)
      exact b_X8_mend_127 C0 hr hWT  I15 a0 x1 x2 _ _ _ ka0 rx1 rx2 hF15 (lv_sub hl [0, 1, 2] rfl) hf
  · replace hf := (if_neg c12).symm.trans hf
    refine fl_iconst C0 dX8_mend_103 ?_
    cases hf
    exact fl_iret C0 hF11 hr (rgk 0 rfl) rfl dX8_mend_104
set_option maxRecDepth 100000 in
set_option maxHeartbeats 4000000 in
theorem b_X8_mend_83 {p : Program} {l : Launch} {e : Env} {s : State} {m : MethodId} {args : Array Value} {below : List Frame} {meth : Method} {c : Code} {D : va_G} {cy : Nat → ClassId} {B : Nat} {L : List Nat} {K : KT} {P : PT} {J : IT} {res : Int × IT} (C0 : FC D cy B p s m meth c "RejudgeHallModel" cX8_mend 5) (hr : meth.sig.returnType = (some .int)) (hWT : WT K P) : G_X8_mend_83 p l e s m args below meth c D cy B L K P J res (f_X8_mend_83 K P ) := by
  intro I a0 x1 x2 x3 H locs ls ka0 rx1 rx2 rx3 hF hl hf
  unfold f_X8_mend_83 at hf
  refine lv_aload_n C0.1 C0.2.1 dX8_mend_83 rfl (lv_at hl 0 rfl) ?_
  refine lv_iload_n C0.1 C0.2.1 dX8_mend_84 rfl (lv_at hl 3 rfl) ?_
  refine fl_if_eq (tgt := 92) C0 rx3 dX8_mend_85 (by decide) (fun c10 => ?_) (fun c10 => ?_)
  · replace hf := (if_pos c10).symm.trans hf
    refine fl_iconst C0 dX8_mend_92 ?_
    exact b_X8_mend_93 C0 hr hWT  I a0 x1 x2 3 a0 _ _ _ ka0 rx1 rx2 ((rgk 3 rfl)) ka0 hF (lv_sub hl [0, 1, 2] rfl) hf
  · replace hf := (if_neg c10).symm.trans hf
    refine fl_iconst C0 dX8_mend_88 ?_
    refine fl_goto (tgt := 93) C0 dX8_mend_89 (by decide) ?_
    exact b_X8_mend_93 C0 hr hWT  I a0 x1 x2 0 a0 _ _ _ ka0 rx1 rx2 ((rgk 0 rfl)) ka0 hF (lv_sub hl [0, 1, 2] rfl) hf
set_option maxRecDepth 100000 in
set_option maxHeartbeats 4000000 in
theorem b_X8_mend_42 {p : Program} {l : Launch} {e : Env} {s : State} {m : MethodId} {args : Array Value} {below : List Frame} {meth : Method} {c : Code} {D : va_G} {cy : Nat → ClassId} {B : Nat} {L : List Nat} {K : KT} {P : PT} {J : IT} {res : Int × IT} (C0 : FC D cy B p s m meth c "RejudgeHallModel" cX8_mend 5) (hr : meth.sig.returnType = (some .int)) (hWT : WT K P) : ∀ n : Nat, G_X8_mend_42 p l e s m args below meth c D cy B L K P J res (f_X8_mend_42 K P  n)
  | 0 => by
    intro I a0 x1 x2 x3 x4 H locs ls ka0 rx1 rx2 rx3 rx4 hF hl hf
    cases hf
  | n + 1 => by
    have ih : G_X8_mend_42 p l e s m args below meth c D cy B L K P J res (f_X8_mend_42 K P  n)  := b_X8_mend_42 C0 hr hWT  n
    intro I a0 x1 x2 x3 x4 H locs ls ka0 rx1 rx2 rx3 rx4 hF hl hf
    rw [f_X8_mend_42] at hf
    refine lv_iload C0.1 C0.2.1 dX8_mend_42 (lv_at hl 4 rfl) ?_
    refine lv_aload_n C0.1 C0.2.1 dX8_mend_44 rfl (lv_at hl 0 rfl) ?_
    refine fl_getr (k := 10) (t := 124) ck_9 C0 hF ka0 rfl (wt_at (k := 10) (t := 124) hWT ka0 rfl) rfl ⟨rfl, rfl⟩ aw_884 dX8_mend_45 ?_
    refine lv_iload_n C0.1 C0.2.1 dX8_mend_48 rfl (lv_at hl 1 rfl) ?_
    obtain ⟨hc, hf⟩ := ck_f hf
    refine fl_iald (n := 6) C0 hF (wt_at (k := 10) (t := 124) hWT ka0 rfl) rx1 hc dX8_mend_49 ?_
    refine fl_icmp_ge (tgt := 83) C0 rx4 (hF.rI _ _) dX8_mend_50 (by decide) (fun c7 => ?_) (fun c7 => ?_)
    · replace hf := (if_pos c7).symm.trans hf
      exact b_X8_mend_83 C0 hr hWT  I a0 x1 x2 x3 _ _ _ ka0 rx1 rx2 rx3 hF (lv_sub hl [0, 1, 2, 3] rfl) hf
    · replace hf := (if_neg c7).symm.trans hf
      refine lv_aload_n C0.1 C0.2.1 dX8_mend_53 rfl (lv_at hl 0 rfl) ?_
      refine fl_getr (k := 1) (t := 368) ck_9 C0 hF ka0 rfl (wt_at (k := 1) (t := 368) hWT ka0 rfl) rfl ⟨rfl, rfl⟩ aw_875 dX8_mend_54 ?_
      refine fl_iconst C0 dX8_mend_57 ?_
      refine fl_iald (n := 67) C0 hF (wt_at (k := 1) (t := 368) hWT ka0 rfl) (rgk 0 rfl) ⟨by decide, by decide⟩ dX8_mend_58 ?_
      refine fl_if_le (tgt := 83) C0 (hF.rI _ _) dX8_mend_59 (by decide) (fun c8 => ?_) (fun c8 => ?_)
      · replace hf := (if_pos c8).symm.trans hf
        exact b_X8_mend_83 C0 hr hWT  I a0 x1 x2 x3 _ _ _ ka0 rx1 rx2 rx3 hF (lv_sub hl [0, 1, 2, 3] rfl) hf
      · replace hf := (if_neg c8).symm.trans hf
        refine lv_iload_n C0.1 C0.2.1 dX8_mend_62 rfl (lv_at hl 3 rfl) ?_
        refine lv_aload_n C0.1 C0.2.1 dX8_mend_63 rfl (lv_at hl 0 rfl) ?_
        refine fl_iconst C0 dX8_mend_64 ?_
        refine fl_bipush C0 dX8_mend_65 (by decide) ?_
        refine lv_iload_n C0.1 C0.2.1 dX8_mend_67 rfl (lv_at hl 1 rfl) ?_
        refine fl_imul C0 dX8_mend_68 ?_
        refine lv_iload C0.1 C0.2.1 dX8_mend_69 (lv_at hl 4 rfl) ?_
        refine fl_iadd C0 dX8_mend_71 ?_
        obtain ⟨r9, I9, hq9, hf⟩ := bi_f hf
        refine fl_ri hF (fl_runV (As := [iv 0, iv (wr ((wr (12 * x1)) + x4))]) (rest := [iv x3]) C0 hF hl.1 ck_9 ka0 rfl (c_X8_answers l D cy B L K P J hWT I a0 0 ((wr ((wr (12 * x1)) + x4))) ka0 ((rgk 0 rfl)) ((rg_wr _)) hq9) aw_1060 aw_1062 aw_50 aw_73 aw_1063 rfl rfl pm_X8_answers rfl rfl ⟨Nat.le_of_ble_eq_true rfl, Nat.le_of_ble_eq_true rfl⟩ rfl (Nat.le_of_ble_eq_true rfl) dX8_mend_72 ⟨Nat.le_of_ble_eq_true rfl, Nat.le_of_ble_eq_true rfl⟩) (fun H locs hF9 rr9 => ?_)
        refine fl_iand C0 dX8_mend_75 ?_
        refine lv_istore_n (lv' := [(3, iv (ban x3 r9)), (0, .ref a0), (1, iv x1), (2, iv x2), (4, iv x4)]) C0.1 C0.2.1 dX8_mend_76 rfl hl (by decide) rfl (fun ls hl => ?_)
        refine fl_iinc (lv' := [(4, iv (wr (x4 + 1))), (3, iv (ban x3 r9)), (0, .ref a0), (1, iv x1), (2, iv x2)]) C0 dX8_mend_77 hl (k := 4) rfl (by decide) rfl (fun ls hl => ?_)
        refine fl_goto (tgt := 42) C0 dX8_mend_80 (by decide) ?_
        exact ih I9 a0 x1 x2 ((ban x3 r9)) ((wr (x4 + 1))) _ _ _ ka0 rx1 rx2 ((rg_ban _ _)) ((rg_wr _)) hF9 (lv_sub hl [2, 3, 4, 1, 0] rfl) hf
set_option maxRecDepth 100000 in
set_option maxHeartbeats 4000000 in
theorem b_X8_mend_25 {p : Program} {l : Launch} {e : Env} {s : State} {m : MethodId} {args : Array Value} {below : List Frame} {meth : Method} {c : Code} {D : va_G} {cy : Nat → ClassId} {B : Nat} {L : List Nat} {K : KT} {P : PT} {J : IT} {res : Int × IT} (C0 : FC D cy B p s m meth c "RejudgeHallModel" cX8_mend 5) (hr : meth.sig.returnType = (some .int)) (hWT : WT K P) : G_X8_mend_25 p l e s m args below meth c D cy B L K P J res (f_X8_mend_25 K P ) := by
  intro I a0 x1 x2 t0 b1 H locs ls ka0 rx1 rx2 rt0 kb1 hF hl hf
  unfold f_X8_mend_25 at hf
  refine fl_puti (k := 38) ck_9 C0 hF kb1 rfl rt0 ⟨rfl, rfl, rfl⟩ aw_912 dX8_mend_25 (fun H locs hF5 => ?_)
  obtain ⟨I5, eI5, hf⟩ := bnd_f hf
  rw [eI5] at hF5
  refine lv_aload_n C0.1 C0.2.1 dX8_mend_28 rfl (lv_at hl 0 rfl) ?_
  refine fl_geti (k := 38) ck_9 C0 hF5 ka0 rfl ⟨rfl, rfl⟩ aw_912 dX8_mend_29 ?_
  refine fl_if_le (tgt := 37) C0 (hF5.rI _ _) dX8_mend_32 (by decide) (fun c6 => ?_) (fun c6 => ?_)
  · replace hf := (if_pos c6).symm.trans hf
    refine fl_iconst C0 dX8_mend_37 ?_
    refine lv_istore_n (lv' := [(3, iv 1), (0, .ref a0), (1, iv x1), (2, iv x2)]) C0.1 C0.2.1 dX8_mend_38 rfl hl (by decide) rfl (fun ls hl => ?_)
    refine fl_iconst C0 dX8_mend_39 ?_
    refine lv_istore (lv' := [(4, iv 0), (3, iv 1), (0, .ref a0), (1, iv x1), (2, iv x2)]) C0.1 C0.2.1 dX8_mend_40 hl (by decide) rfl (fun ls hl => ?_)
    exact b_X8_mend_42 C0 hr hWT  FU I5 a0 x1 x2 1 0 _ _ _ ka0 rx1 rx2 ((rgk 1 rfl)) ((rgk 0 rfl)) hF5 (lv_sub hl [2, 3, 4, 1, 0] rfl) hf
  · replace hf := (if_neg c6).symm.trans hf
    refine fl_iconst C0 dX8_mend_35 ?_
    cases hf
    exact fl_iret C0 hF5 hr (rgk 0 rfl) rfl dX8_mend_36
theorem pm_X8_mend : plainM yX8_mend 2 := by decide +kernel
set_option maxRecDepth 100000 in
set_option maxHeartbeats 4000000 in
theorem c_X8_mend (l : Launch) (D : va_G) (cy : Nat → ClassId) (B : Nat) (L : List Nat) (K : KT) (P : PT) (J : IT) (hWT : WT K P) (I : IT) (a0 : Nat) (x1 : Int) (x2 : Int) (ka0 : K a0 = 9) (rx1 : rg x1) (rx2 : rg x2) {r : Int} {I' : IT} (hf : f_X8_mend K P I a0 x1 x2 = some (r, I')) : Met l yX8_mend [.code yX8_mend cX8_mend 5 (some .int)] rm_X8_mend (va_Pc [.ref a0, iv x1, iv x2] (FW D cy B L K P J I)) (QI D cy B L K P J (r, I')) 0 0 (fun q => B ≤ q) := by
  refine fl_body (own := "RejudgeHallModel") [.ref a0, iv x1, iv x2] (by decide) rfl (Nat.le_of_ble_eq_true rfl) ?_
  intro p e s m args below meth c ls C0 hr hF hl
  have hl : lv_has ls 5 [(0, .ref a0), (1, iv x1), (2, iv x2)] := hl
  unfold f_X8_mend at hf
  refine lv_aload_n C0.1 C0.2.1 dX8_mend_0 rfl (lv_at hl 0 rfl) ?_
  refine lv_aload_n C0.1 C0.2.1 dX8_mend_1 rfl (lv_at hl 0 rfl) ?_
  refine lv_iload_n C0.1 C0.2.1 dX8_mend_2 rfl (lv_at hl 1 rfl) ?_
  obtain ⟨r1, hq1, hf⟩ := bp_f hf
  refine fl_ri hF (fl_runV (As := [iv x1]) (rest := [.ref a0]) C0 hF hl.1 ck_9 ka0 rfl (c_X8_isProblem l D cy B L K P J hWT I a0 x1 ka0 rx1 hq1) aw_1053 aw_1055 aw_49 aw_73 aw_1056 rfl rfl pm_X8_isProblem rfl rfl ⟨Nat.le_of_ble_eq_true rfl, Nat.le_of_ble_eq_true rfl⟩ rfl (Nat.le_of_ble_eq_true rfl) dX8_mend_3 ⟨Nat.le_of_ble_eq_true rfl, Nat.le_of_ble_eq_true rfl⟩) (fun H locs hF1 rr1 => ?_)
  refine fl_if_ne (tgt := 13) C0 rr1 dX8_mend_6 (by decide) (fun c2 => ?_) (fun c2 => ?_)
  · replace hf := (if_neg c2).symm.trans hf
    refine lv_iload_n C0.1 C0.2.1 dX8_mend_13 rfl (lv_at hl 2 rfl) ?_
    obtain ⟨r3, hq3, hf⟩ := bp_f hf
    refine fl_ri hF1 (fl_runSG (As := [iv x2]) (rest := [.ref a0]) C0 hF1 hl.1 (c_X8_isChecker l D cy B L K P J hWT I x2 rx2 hq3) aw_1042 aw_1043 aw_73 aw_1044 rfl pm_X8_isChecker rfl rfl ⟨Nat.le_of_ble_eq_true rfl, Nat.le_of_ble_eq_true rfl⟩ rfl (Nat.le_of_ble_eq_true rfl) dX8_mend_14 ⟨Nat.le_of_ble_eq_true rfl, Nat.le_of_ble_eq_true rfl⟩) (fun H locs hF3 rr3 => ?_)
    refine fl_if_ne (tgt := 24) C0 rr3 dX8_mend_17 (by decide) (fun c4 => ?_) (fun c4 => ?_)
    · replace hf := (if_neg c4).symm.trans hf
      refine fl_iconst C0 dX8_mend_24 ?_
      exact b_X8_mend_25 C0 hr hWT  I a0 x1 x2 0 a0 _ _ _ ka0 rx1 rx2 ((rgk 0 rfl)) ka0 hF3 (lv_sub hl [0, 1, 2] rfl) hf
    · replace hf := (if_pos c4).symm.trans hf
      refine fl_iconst C0 dX8_mend_20 ?_
      refine fl_goto (tgt := 25) C0 dX8_mend_21 (by decide) ?_
      exact b_X8_mend_25 C0 hr hWT  I a0 x1 x2 2 a0 _ _ _ ka0 rx1 rx2 ((rgk 2 rfl)) ka0 hF3 (lv_sub hl [0, 1, 2] rfl) hf
  · replace hf := (if_pos c2).symm.trans hf
    refine fl_iconst C0 dX8_mend_9 ?_
    refine fl_goto (tgt := 25) C0 dX8_mend_10 (by decide) ?_
    exact b_X8_mend_25 C0 hr hWT  I a0 x1 x2 1 a0 _ _ _ ka0 rx1 rx2 ((rgk 1 rfl)) ka0 hF1 (lv_sub hl [0, 1, 2] rfl) hf
-- RejudgeHallModel.answer(III)I
abbrev rm_X8_answer : Room := { frames := 5, cells := 0, slots := 0, locals := 117 }
def f_X8_answer_34 (K : KT) (P : PT) (I : IT) (a0 : Nat) (x1 : Int) (x2 : Int) (x3 : Int) (t0 : Int) (b1 : Nat) : Option (Int × IT) := bnd (up I b1 38 t0) fun I6 => if (I6 a0 38) ≤ 0 then (bi (f_X8_answers K P I6 a0 ((wr (1 + x1))) ((wr ((wr (12 * x1)) + x2)))) fun r8 I8 => if r8 = 0 then (some (0, I8)) else (if (I8 a0 31) ≤ x3 then (some (0, I8)) else (ck (0 ≤ x3 ∧ x3 < 8) <| some ((I8 ((P a0 32)) (x3 : Int).toNat), I8)))) else (some (0, I6))
def f_X8_answer_29 (K : KT) (P : PT) (I : IT) (a0 : Nat) (x1 : Int) (x2 : Int) (x3 : Int) (b0 : Nat) : Option (Int × IT) := f_X8_answer_34 K P  I a0 x1 x2 x3 1 b0
def f_X8_answer (K : KT) (P : PT) (I : IT) (a0 : Nat) (x1 : Int) (x2 : Int) (x3 : Int) : Option (Int × IT) := bp (f_X8_isProblem K P I a0 x1) fun r1 => if r1 = 0 then (f_X8_answer_29 K P  I a0 x1 x2 x3 a0) else (ck (0 ≤ x1 ∧ x1 < 6) <| bp (f_X8_isIn K P I x2 0 ((wr ((I ((P a0 10)) (x1 : Int).toNat) - 1)))) fun r3 => if r3 = 0 then (f_X8_answer_29 K P  I a0 x1 x2 x3 a0) else (if 0 ≤ x3 then (f_X8_answer_34 K P  I a0 x1 x2 x3 0 a0) else (f_X8_answer_29 K P  I a0 x1 x2 x3 a0)))
abbrev G_X8_answer_34 (p : Program) (l : Launch) (e : Env) (s : State) (m : MethodId) (args : Array Value) (below : List Frame) (meth : Method) (c : Code) (D : va_G) (cy : Nat → ClassId) (B : Nat) (L : List Nat) (K : KT) (P : PT) (J : IT) (res : Int × IT) (f : IT → Nat → Int → Int → Int → Int → Nat → Option (Int × IT)) : Prop := ∀ (I : IT) (a0 : Nat) (x1 : Int) (x2 : Int) (x3 : Int) (t0 : Int) (b1 : Nat) (H : Heap) (locs : List Loc) (ls : Array Slot), K a0 = 9 → rg x1 → rg x2 → rg x3 → rg t0 → K b1 = 9 → FS D cy B L K P J s.heap I H locs → lv_has ls 5 [(0, .ref a0), (1, iv x1), (2, iv x2), (3, iv x3)] → f I a0 x1 x2 x3 t0 b1 = some res → W p l e rm_X8_answer s m args below meth c H locs 0 0 (MQ below (QI D cy B L K P J res) args s 0 0 (fun q => B ≤ q)) (F0 m 34 ls [iv t0, .ref b1])
abbrev G_X8_answer_29 (p : Program) (l : Launch) (e : Env) (s : State) (m : MethodId) (args : Array Value) (below : List Frame) (meth : Method) (c : Code) (D : va_G) (cy : Nat → ClassId) (B : Nat) (L : List Nat) (K : KT) (P : PT) (J : IT) (res : Int × IT) (f : IT → Nat → Int → Int → Int → Nat → Option (Int × IT)) : Prop := ∀ (I : IT) (a0 : Nat) (x1 : Int) (x2 : Int) (x3 : Int) (b0 : Nat) (H : Heap) (locs : List Loc) (ls : Array Slot), K a0 = 9 → rg x1 → rg x2 → rg x3 → K b0 = 9 → FS D cy B L K P J s.heap I H locs → lv_has ls 5 [(0, .ref a0), (1, iv x1), (2, iv x2), (3, iv x3)] → f I a0 x1 x2 x3 b0 = some res → W p l e rm_X8_answer s m args below meth c H locs 0 0 (MQ below (QI D cy B L K P J res) args s 0 0 (fun q => B ≤ q)) (F0 m 29 ls [.ref b0])
set_option maxRecDepth 100000 in
set_option maxHeartbeats 4000000 in
theorem b_X8_answer_34 {p : Program} {l : Launch} {e : Env} {s : State} {m : MethodId} {args : Array Value} {below : List Frame} {meth : Method} {c : Code} {D : va_G} {cy : Nat → ClassId} {B : Nat} {L : List Nat} {K : KT} {P : PT} {J : IT} {res : Int × IT} (C0 : FC D cy B p s m meth c "RejudgeHallModel" cX8_answer 5) (hr : meth.sig.returnType = (some .int)) (hWT : WT K P) : G_X8_answer_34 p l e s m args below meth c D cy B L K P J res (f_X8_answer_34 K P ) := by
  intro I a0 x1 x2 x3 t0 b1 H locs ls ka0 rx1 rx2 rx3 rt0 kb1 hF hl hf
  unfold f_X8_answer_34 at hf
  refine fl_puti (k := 38) ck_9 C0 hF kb1 rfl rt0 ⟨rfl, rfl, rfl⟩ aw_912 dX8_answer_34 (fun H locs hF6 => ?_)
  obtain ⟨I6, eI6, hf⟩ := bnd_f hf
  rw [eI6] at hF6
  refine lv_aload_n C0.1 C0.2.1 dX8_answer_37 rfl (lv_at hl 0 rfl) ?_
  refine fl_geti (k := 38) ck_9 C0 hF6 ka0 rfl ⟨rfl, rfl⟩ aw_912 dX8_answer_38 ?_
  refine fl_if_le (tgt := 46) C0 (hF6.rI _ _) dX8_answer_41 (by decide) (fun c7 => ?_) (fun c7 => ?_)
  · replace hf := (if_pos c7).symm.trans hf
    refine lv_aload_n C0.1 C0.2.1 dX8_answer_46 rfl (lv_at hl 0 rfl) ?_
    refine fl_iconst C0 dX8_answer_47 ?_
    refine lv_iload_n C0.1 C0.2.1 dX8_answer_48 rfl (lv_at hl 1 rfl) ?_
    refine fl_iadd C0 dX8_answer_49 ?_
    refine fl_bipush C0 dX8_answer_50 (by decide) ?_
    refine lv_iload_n C0.1 C0.2.1 dX8_answer_52 rfl (lv_at hl 1 rfl) ?_
    refine fl_imul C0 dX8_answer_53 ?_
    refine lv_iload_n C0.1 C0.2.1 dX8_answer_54 rfl (lv_at hl 2 rfl) ?_
    refine fl_iadd C0 dX8_answer_55 ?_
    obtain ⟨r8, I8, hq8, hf⟩ := bi_f hf
    refine fl_ri hF6 (fl_runV (As := [iv (wr (1 + x1)), iv (wr ((wr (12 * x1)) + x2))]) (rest := []) C0 hF6 hl.1 ck_9 ka0 rfl (c_X8_answers l D cy B L K P J hWT I6 a0 ((wr (1 + x1))) ((wr ((wr (12 * x1)) + x2))) ka0 ((rg_wr _)) ((rg_wr _)) hq8) aw_1060 aw_1062 aw_50 aw_73 aw_1063 rfl rfl pm_X8_answers rfl rfl ⟨Nat.le_of_ble_eq_true rfl, Nat.le_of_ble_eq_true rfl⟩ rfl (Nat.le_of_ble_eq_true rfl) dX8_answer_56 ⟨Nat.le_of_ble_eq_true rfl, Nat.le_of_ble_eq_true rfl⟩) (fun H locs hF8 rr8 => ?_)
    refine lv_istore (lv' := [(4, iv r8), (0, .ref a0), (1, iv x1), (2, iv x2), (3, iv x3)]) C0.1 C0.2.1 dX8_answer_59 hl (by decide) rfl (fun ls hl => ?_)
    refine lv_iload C0.1 C0.2.1 dX8_answer_61 (lv_at hl 0 rfl) ?_
    refine fl_if_eq (tgt := 83) C0 rr8 dX8_answer_63 (by decide) (fun c9 => ?_) (fun c9 => ?_)
    · replace hf := (if_pos c9).symm.trans hf
      refine fl_iconst C0 dX8_answer_83 ?_
      cases hf
      exact fl_iret C0 hF8 hr (rgk 0 rfl) rfl dX8_answer_84
    · replace hf := (if_neg c9).symm.trans hf
      refine lv_iload_n C0.1 C0.2.1 dX8_answer_66 rfl (lv_at hl 4 rfl) ?_
      refine lv_aload_n C0.1 C0.2.1 dX8_answer_67 rfl (lv_at hl 1 rfl) ?_
      refine fl_geti (k := 31) ck_9 C0 hF8 ka0 rfl ⟨rfl, rfl⟩ aw_905 dX8_answer_68 ?_
      refine fl_icmp_ge (tgt := 83) C0 rx3 (hF8.rI _ _) dX8_answer_71 (by decide) (fun c10 => ?_) (fun c10 => ?_)
      · replace hf := (if_pos c10).symm.trans hf
        refine fl_iconst C0 dX8_answer_83 ?_
        cases hf
        exact fl_iret C0 hF8 hr (rgk 0 rfl) rfl dX8_answer_84
      · replace hf := (if_neg c10).symm.trans hf
        refine lv_aload_n C0.1 C0.2.1 dX8_answer_74 rfl (lv_at hl 1 rfl) ?_
        refine fl_getr (k := 32) (t := 132) ck_9 C0 hF8 ka0 rfl (wt_at (k := 32) (t := 132) hWT ka0 rfl) rfl ⟨rfl, rfl⟩ aw_906 dX8_answer_75 ?_
        refine lv_iload_n C0.1 C0.2.1 dX8_answer_78 rfl (lv_at hl 4 rfl) ?_
        obtain ⟨hc, hf⟩ := ck_f hf
        refine fl_iald (n := 8) C0 hF8 (wt_at (k := 32) (t := 132) hWT ka0 rfl) rx3 hc dX8_answer_79 ?_
        refine fl_goto (tgt := 84) C0 dX8_answer_80 (by decide) ?_
        cases hf
        exact fl_iret C0 hF8 hr (hF8.rI _ _) rfl dX8_answer_84
  · replace hf := (if_neg c7).symm.trans hf
    refine fl_iconst C0 dX8_answer_44 ?_
    cases hf
    exact fl_iret C0 hF6 hr (rgk 0 rfl) rfl dX8_answer_45
set_option maxRecDepth 100000 in
set_option maxHeartbeats 4000000 in
theorem b_X8_answer_29 {p : Program} {l : Launch} {e : Env} {s : State} {m : MethodId} {args : Array Value} {below : List Frame} {meth : Method} {c : Code} {D : va_G} {cy : Nat → ClassId} {B : Nat} {L : List Nat} {K : KT} {P : PT} {J : IT} {res : Int × IT} (C0 : FC D cy B p s m meth c "RejudgeHallModel" cX8_answer 5) (hr : meth.sig.returnType = (some .int)) (hWT : WT K P) : G_X8_answer_29 p l e s m args below meth c D cy B L K P J res (f_X8_answer_29 K P ) := by
  intro I a0 x1 x2 x3 b0 H locs ls ka0 rx1 rx2 rx3 kb0 hF hl hf
  unfold f_X8_answer_29 at hf
  refine fl_iconst C0 dX8_answer_29 ?_
  refine fl_goto (tgt := 34) C0 dX8_answer_30 (by decide) ?_
  exact b_X8_answer_34 C0 hr hWT  I a0 x1 x2 x3 1 b0 _ _ _ ka0 rx1 rx2 rx3 ((rgk 1 rfl)) kb0 hF (lv_sub hl [0, 1, 2, 3] rfl) hf
theorem pm_X8_answer : plainM yX8_answer 3 := by decide +kernel
set_option maxRecDepth 100000 in
set_option maxHeartbeats 4000000 in
theorem c_X8_answer (l : Launch) (D : va_G) (cy : Nat → ClassId) (B : Nat) (L : List Nat) (K : KT) (P : PT) (J : IT) (hWT : WT K P) (I : IT) (a0 : Nat) (x1 : Int) (x2 : Int) (x3 : Int) (ka0 : K a0 = 9) (rx1 : rg x1) (rx2 : rg x2) (rx3 : rg x3) {r : Int} {I' : IT} (hf : f_X8_answer K P I a0 x1 x2 x3 = some (r, I')) : Met l yX8_answer [.code yX8_answer cX8_answer 5 (some .int)] rm_X8_answer (va_Pc [.ref a0, iv x1, iv x2, iv x3] (FW D cy B L K P J I)) (QI D cy B L K P J (r, I')) 0 0 (fun q => B ≤ q) := by
  refine fl_body (own := "RejudgeHallModel") [.ref a0, iv x1, iv x2, iv x3] (by decide) rfl (Nat.le_of_ble_eq_true rfl) ?_
  intro p e s m args below meth c ls C0 hr hF hl
  have hl : lv_has ls 5 [(0, .ref a0), (1, iv x1), (2, iv x2), (3, iv x3)] := hl
  unfold f_X8_answer at hf
  refine lv_aload_n C0.1 C0.2.1 dX8_answer_0 rfl (lv_at hl 0 rfl) ?_
  refine lv_aload_n C0.1 C0.2.1 dX8_answer_1 rfl (lv_at hl 0 rfl) ?_
  refine lv_iload_n C0.1 C0.2.1 dX8_answer_2 rfl (lv_at hl 1 rfl) ?_
  obtain ⟨r1, hq1, hf⟩ := bp_f hf
  refine fl_ri hF (fl_runV (As := [iv x1]) (rest := [.ref a0]) C0 hF hl.1 ck_9 ka0 rfl (c_X8_isProblem l D cy B L K P J hWT I a0 x1 ka0 rx1 hq1) aw_1053 aw_1055 aw_49 aw_73 aw_1056 rfl rfl pm_X8_isProblem rfl rfl ⟨Nat.le_of_ble_eq_true rfl, Nat.le_of_ble_eq_true rfl⟩ rfl (Nat.le_of_ble_eq_true rfl) dX8_answer_3 ⟨Nat.le_of_ble_eq_true rfl, Nat.le_of_ble_eq_true rfl⟩) (fun H locs hF1 rr1 => ?_)
  refine fl_if_eq (tgt := 29) C0 rr1 dX8_answer_6 (by decide) (fun c2 => ?_) (fun c2 => ?_)
  · replace hf := (if_pos c2).symm.trans hf
    exact b_X8_answer_29 C0 hr hWT  I a0 x1 x2 x3 a0 _ _ _ ka0 rx1 rx2 rx3 ka0 hF1 (lv_sub hl [0, 1, 2, 3] rfl) hf
  · replace hf := (if_neg c2).symm.trans hf
    refine lv_iload_n C0.1 C0.2.1 dX8_answer_9 rfl (lv_at hl 2 rfl) ?_
    refine fl_iconst C0 dX8_answer_10 ?_
    refine lv_aload_n C0.1 C0.2.1 dX8_answer_11 rfl (lv_at hl 0 rfl) ?_
    refine fl_getr (k := 10) (t := 124) ck_9 C0 hF1 ka0 rfl (wt_at (k := 10) (t := 124) hWT ka0 rfl) rfl ⟨rfl, rfl⟩ aw_884 dX8_answer_12 ?_
    refine lv_iload_n C0.1 C0.2.1 dX8_answer_15 rfl (lv_at hl 1 rfl) ?_
    obtain ⟨hc, hf⟩ := ck_f hf
    refine fl_iald (n := 6) C0 hF1 (wt_at (k := 10) (t := 124) hWT ka0 rfl) rx1 hc dX8_answer_16 ?_
    refine fl_iconst C0 dX8_answer_17 ?_
    refine fl_isub C0 dX8_answer_18 ?_
    obtain ⟨r3, hq3, hf⟩ := bp_f hf
    refine fl_ri hF1 (fl_runSG (As := [iv x2, iv 0, iv (wr ((I ((P a0 10)) (x1 : Int).toNat) - 1))]) (rest := [.ref a0]) C0 hF1 hl.1 (c_X8_isIn l D cy B L K P J hWT I x2 0 ((wr ((I ((P a0 10)) (x1 : Int).toNat) - 1))) rx2 ((rgk 0 rfl)) ((rg_wr _)) hq3) aw_1000 aw_1001 aw_73 aw_1002 rfl pm_X8_isIn rfl rfl ⟨Nat.le_of_ble_eq_true rfl, Nat.le_of_ble_eq_true rfl⟩ rfl (Nat.le_of_ble_eq_true rfl) dX8_answer_19 ⟨Nat.le_of_ble_eq_true rfl, Nat.le_of_ble_eq_true rfl⟩) (fun H locs hF3 rr3 => ?_)
    refine fl_if_eq (tgt := 29) C0 rr3 dX8_answer_22 (by decide) (fun c4 => ?_) (fun c4 => ?_)
    · replace hf := (if_pos c4).symm.trans hf
      exact b_X8_answer_29 C0 hr hWT  I a0 x1 x2 x3 a0 _ _ _ ka0 rx1 rx2 rx3 ka0 hF3 (lv_sub hl [0, 1, 2, 3] rfl) hf
    · replace hf := (if_neg c4).symm.trans hf
      refine lv_iload_n C0.1 C0.2.1 dX8_answer_25 rfl (lv_at hl 3 rfl) ?_
      refine fl_if_ge (tgt := 33) C0 rx3 dX8_answer_26 (by decide) (fun c5 => ?_) (fun c5 => ?_)
      · replace hf := (if_pos c5).symm.trans hf
        refine fl_iconst C0 dX8_answer_33 ?_
        exact b_X8_answer_34 C0 hr hWT  I a0 x1 x2 x3 0 a0 _ _ _ ka0 rx1 rx2 rx3 ((rgk 0 rfl)) ka0 hF3 (lv_sub hl [0, 1, 2, 3] rfl) hf
      · replace hf := (if_neg c5).symm.trans hf
        exact b_X8_answer_29 C0 hr hWT  I a0 x1 x2 x3 a0 _ _ _ ka0 rx1 rx2 rx3 ka0 hF3 (lv_sub hl [0, 1, 2, 3] rfl) hf
-- RejudgeHallModel.does(III)I
abbrev rm_X8_does : Room := { frames := 5, cells := 0, slots := 0, locals := 117 }
def f_X8_does_117 (K : KT) (P : PT) (I : IT) (a0 : Nat) (x5 : Int) : Option (Int × IT) := if x5 = 0 then (if (I a0 27) = 0 then (some (5, I)) else (some (1, I))) else (some (0, I))
def f_X8_does_72 (K : KT) (P : PT) : Nat → IT → Nat → Int → Int → Int → Option (Int × IT)
  | 0, _, _, _, _, _ => none
  | n + 1, I, a0, x5, x6, x7 => if (I a0 27) ≤ x7 then (f_X8_does_117 K P  I a0 x5) else (if x5 = 0 then (f_X8_does_117 K P  I a0 x5) else (ck (0 ≤ x7 ∧ x7 < 8) <| ck (0 ≤ x7 ∧ x7 < 8) <| bp (f_X8_isIn K P I ((wr ((I ((P a0 28)) (x7 : Int).toNat) - (I ((P a0 32)) (x7 : Int).toNat)))) ((wr (-x6))) x6) fun r8 => (f_X8_does_72 K P  n) I a0 r8 x6 ((wr (x7 + 1)))))
def f_X8_does_67 (K : KT) (P : PT) (I : IT) (a0 : Nat) (x5 : Int) (t0 : Int) : Option (Int × IT) := f_X8_does_72 K P  FU I a0 x5 t0 0
def f_X8_does_50 (K : KT) (P : PT) (I : IT) (a0 : Nat) (x1 : Int) (t0 : Int) : Option (Int × IT) := ck (0 ≤ x1 ∧ x1 < 6) <| if (I ((P a0 8)) (x1 : Int).toNat) = 1 then (f_X8_does_67 K P  I a0 t0 1) else (f_X8_does_67 K P  I a0 t0 0)
def f_X8_does (K : KT) (P : PT) (I : IT) (a0 : Nat) (x1 : Int) (x2 : Int) (x3 : Int) : Option (Int × IT) := bi (f_X8_answers K P I a0 ((wr (1 + x1))) x3) fun r1 I1 => ck (0 ≤ x1 ∧ x1 < 6) <| bp (f_X8_runs K P I1 a0 x2 x3 ((I1 ((P a0 7)) (x1 : Int).toNat))) fun I2 => if (I2 a0 25) = 0 then (if (I2 a0 27) = (I2 a0 31) then (f_X8_does_50 K P  I2 a0 x1 1) else (f_X8_does_50 K P  I2 a0 x1 0)) else (some ((I2 a0 25), I2))
abbrev G_X8_does_117 (p : Program) (l : Launch) (e : Env) (s : State) (m : MethodId) (args : Array Value) (below : List Frame) (meth : Method) (c : Code) (D : va_G) (cy : Nat → ClassId) (B : Nat) (L : List Nat) (K : KT) (P : PT) (J : IT) (res : Int × IT) (f : IT → Nat → Int → Option (Int × IT)) : Prop := ∀ (I : IT) (a0 : Nat) (x5 : Int) (H : Heap) (locs : List Loc) (ls : Array Slot), K a0 = 9 → rg x5 → FS D cy B L K P J s.heap I H locs → lv_has ls 8 [(0, .ref a0), (5, iv x5)] → f I a0 x5 = some res → W p l e rm_X8_does s m args below meth c H locs 0 0 (MQ below (QI D cy B L K P J res) args s 0 0 (fun q => B ≤ q)) (F0 m 117 ls [])
abbrev G_X8_does_72 (p : Program) (l : Launch) (e : Env) (s : State) (m : MethodId) (args : Array Value) (below : List Frame) (meth : Method) (c : Code) (D : va_G) (cy : Nat → ClassId) (B : Nat) (L : List Nat) (K : KT) (P : PT) (J : IT) (res : Int × IT) (f : IT → Nat → Int → Int → Int → Option (Int × IT)) : Prop := ∀ (I : IT) (a0 : Nat) (x5 : Int) (x6 : Int) (x7 : Int) (H : Heap) (locs : List Loc) (ls : Array Slot), K a0 = 9 → rg x5 → rg x6 → rg x7 → FS D cy B L K P J s.heap I H locs → lv_has ls 8 [(0, .ref a0), (5, iv x5), (6, iv x6), (7, iv x7)] → f I a0 x5 x6 x7 = some res → W p l e rm_X8_does s m args below meth c H locs 0 0 (MQ below (QI D cy B L K P J res) args s 0 0 (fun q => B ≤ q)) (F0 m 72 ls [])
abbrev G_X8_does_67 (p : Program) (l : Launch) (e : Env) (s : State) (m : MethodId) (args : Array Value) (below : List Frame) (meth : Method) (c : Code) (D : va_G) (cy : Nat → ClassId) (B : Nat) (L : List Nat) (K : KT) (P : PT) (J : IT) (res : Int × IT) (f : IT → Nat → Int → Int → Option (Int × IT)) : Prop := ∀ (I : IT) (a0 : Nat) (x5 : Int) (t0 : Int) (H : Heap) (locs : List Loc) (ls : Array Slot), K a0 = 9 → rg x5 → rg t0 → FS D cy B L K P J s.heap I H locs → lv_has ls 8 [(0, .ref a0), (5, iv x5)] → f I a0 x5 t0 = some res → W p l e rm_X8_does s m args below meth c H locs 0 0 (MQ below (QI D cy B L K P J res) args s 0 0 (fun q => B ≤ q)) (F0 m 67 ls [iv t0])
abbrev G_X8_does_50 (p : Program) (l : Launch) (e : Env) (s : State) (m : MethodId) (args : Array Value) (below : List Frame) (meth : Method) (c : Code) (D : va_G) (cy : Nat → ClassId) (B : Nat) (L : List Nat) (K : KT) (P : PT) (J : IT) (res : Int × IT) (f : IT → Nat → Int → Int → Option (Int × IT)) : Prop := ∀ (I : IT) (a0 : Nat) (x1 : Int) (t0 : Int) (H : Heap) (locs : List Loc) (ls : Array Slot), K a0 = 9 → rg x1 → rg t0 → FS D cy B L K P J s.heap I H locs → lv_has ls 8 [(0, .ref a0), (1, iv x1)] → f I a0 x1 t0 = some res → W p l e rm_X8_does s m args below meth c H locs 0 0 (MQ below (QI D cy B L K P J res) args s 0 0 (fun q => B ≤ q)) (F0 m 50 ls [iv t0])
set_option maxRecDepth 100000 in
set_option maxHeartbeats 4000000 in
theorem b_X8_does_117 {p : Program} {l : Launch} {e : Env} {s : State} {m : MethodId} {args : Array Value} {below : List Frame} {meth : Method} {c : Code} {D : va_G} {cy : Nat → ClassId} {B : Nat} {L : List Nat} {K : KT} {P : PT} {J : IT} {res : Int × IT} (C0 : FC D cy B p s m meth c "RejudgeHallModel" cX8_does 8) (hr : meth.sig.returnType = (some .int)) (hWT : WT K P) : G_X8_does_117 p l e s m args below meth c D cy B L K P J res (f_X8_does_117 K P ) := by
  intro I a0 x5 H locs ls ka0 rx5 hF hl hf
  unfold f_X8_does_117 at hf
  refine lv_iload C0.1 C0.2.1 dX8_does_117 (lv_at hl 1 rfl) ?_
  refine fl_if_eq (tgt := 126) C0 rx5 dX8_does_119 (by decide) (fun c9 => ?_) (fun c9 => ?_)
  · replace hf := (if_pos c9).symm.trans hf
    refine lv_aload_n C0.1 C0.2.1 dX8_does_126 rfl (lv_at hl 0 rfl) ?_
    refine fl_geti (k := 27) ck_9 C0 hF ka0 rfl ⟨rfl, rfl⟩ aw_901 dX8_does_127 ?_
    refine fl_if_ne (tgt := 137) C0 (hF.rI _ _) dX8_does_130 (by decide) (fun c10 => ?_) (fun c10 => ?_)
    · replace hf := (if_neg c10).symm.trans hf
      refine fl_iconst C0 dX8_does_137 ?_
      cases hf
      exact fl_iret C0 hF hr (rgk 1 rfl) rfl dX8_does_138
    · replace hf := (if_pos c10).symm.trans hf
      refine fl_iconst C0 dX8_does_133 ?_
      refine fl_goto (tgt := 138) C0 dX8_does_134 (by decide) ?_
      cases hf
      exact fl_iret C0 hF hr (rgk 5 rfl) rfl dX8_does_138
  · replace hf := (if_neg c9).symm.trans hf
    refine fl_iconst C0 dX8_does_122 ?_
    refine fl_goto (tgt := 138) C0 dX8_does_123 (by decide) ?_
    cases hf
    exact fl_iret C0 hF hr (rgk 0 rfl) rfl dX8_does_138
set_option maxRecDepth 100000 in
set_option maxHeartbeats 4000000 in
theorem b_X8_does_72 {p : Program} {l : Launch} {e : Env} {s : State} {m : MethodId} {args : Array Value} {below : List Frame} {meth : Method} {c : Code} {D : va_G} {cy : Nat → ClassId} {B : Nat} {L : List Nat} {K : KT} {P : PT} {J : IT} {res : Int × IT} (C0 : FC D cy B p s m meth c "RejudgeHallModel" cX8_does 8) (hr : meth.sig.returnType = (some .int)) (hWT : WT K P) : ∀ n : Nat, G_X8_does_72 p l e s m args below meth c D cy B L K P J res (f_X8_does_72 K P  n)
  | 0 => by
    intro I a0 x5 x6 x7 H locs ls ka0 rx5 rx6 rx7 hF hl hf
    cases hf
  | n + 1 => by
    have ih : G_X8_does_72 p l e s m args below meth c D cy B L K P J res (f_X8_does_72 K P  n)  := b_X8_does_72 C0 hr hWT  n
    intro I a0 x5 x6 x7 H locs ls ka0 rx5 rx6 rx7 hF hl hf
    rw [f_X8_does_72] at hf
    refine lv_iload C0.1 C0.2.1 dX8_does_72 (lv_at hl 3 rfl) ?_
    refine lv_aload_n C0.1 C0.2.1 dX8_does_74 rfl (lv_at hl 0 rfl) ?_
    refine fl_geti (k := 27) ck_9 C0 hF ka0 rfl ⟨rfl, rfl⟩ aw_901 dX8_does_75 ?_
    refine fl_icmp_ge (tgt := 117) C0 rx7 (hF.rI _ _) dX8_does_78 (by decide) (fun c6 => ?_) (fun c6 => ?_)
    · replace hf := (if_pos c6).symm.trans hf
      exact b_X8_does_117 C0 hr hWT  I a0 x5 _ _ _ ka0 rx5 hF (lv_sub hl [0, 1] rfl) hf
    · replace hf := (if_neg c6).symm.trans hf
      refine lv_iload C0.1 C0.2.1 dX8_does_81 (lv_at hl 1 rfl) ?_
      refine fl_if_eq (tgt := 117) C0 rx5 dX8_does_83 (by decide) (fun c7 => ?_) (fun c7 => ?_)
      · replace hf := (if_pos c7).symm.trans hf
        exact b_X8_does_117 C0 hr hWT  I a0 x5 _ _ _ ka0 rx5 hF (lv_sub hl [0, 1] rfl) hf
      · replace hf := (if_neg c7).symm.trans hf
        refine lv_aload_n C0.1 C0.2.1 dX8_does_86 rfl (lv_at hl 0 rfl) ?_
        refine fl_getr (k := 28) (t := 132) ck_9 C0 hF ka0 rfl (wt_at (k := 28) (t := 132) hWT ka0 rfl) rfl ⟨rfl, rfl⟩ aw_902 dX8_does_87 ?_
        refine lv_iload C0.1 C0.2.1 dX8_does_90 (lv_at hl 3 rfl) ?_
        obtain ⟨hc, hf⟩ := ck_f hf
        refine fl_iald (n := 8) C0 hF (wt_at (k := 28) (t := 132) hWT ka0 rfl) rx7 hc dX8_does_92 ?_
        refine lv_aload_n C0.1 C0.2.1 dX8_does_93 rfl (lv_at hl 0 rfl) ?_
        refine fl_getr (k := 32) (t := 132) ck_9 C0 hF ka0 rfl (wt_at (k := 32) (t := 132) hWT ka0 rfl) rfl ⟨rfl, rfl⟩ aw_906 dX8_does_94 ?_
        refine lv_iload C0.1 C0.2.1 dX8_does_97 (lv_at hl 3 rfl) ?_
        obtain ⟨hc, hf⟩ := ck_f hf
        refine fl_iald (n := 8) C0 hF (wt_at (k := 32) (t := 132) hWT ka0 rfl) rx7 hc dX8_does_99 ?_
        refine fl_isub C0 dX8_does_100 ?_
        refine lv_iload C0.1 C0.2.1 dX8_does_101 (lv_at hl 2 rfl) ?_
        refine fl_ineg C0 dX8_does_103 ?_
        refine lv_iload C0.1 C0.2.1 dX8_does_104 (lv_at hl 2 rfl) ?_
        obtain ⟨r8, hq8, hf⟩ := bp_f hf
        refine fl_ri hF (fl_runSG (As := [iv (wr ((I ((P a0 28)) (x7 : Int).toNat) - (I ((P a0 32)) (x7 : Int).toNat))), iv (wr (-x6)), iv x6]) (rest := []) C0 hF hl.1 (c_X8_isIn l D cy B L K P J hWT I ((wr ((I ((P a0 28)) (x7 : Int).toNat) - (I ((P a0 32)) (x7 : Int).toNat)))) ((wr (-x6))) x6 ((rg_wr _)) ((rg_wr _)) rx6 hq8) aw_1000 aw_1001 aw_73 aw_1002 rfl pm_X8_isIn rfl rfl ⟨Nat.le_of_ble_eq_true rfl, Nat.le_of_ble_eq_true rfl⟩ rfl (Nat.le_of_ble_eq_true rfl) dX8_does_106 ⟨Nat.le_of_ble_eq_true rfl, Nat.le_of_ble_eq_true rfl⟩) (fun H locs hF8 rr8 => ?_)
        refine lv_istore (lv' := [(5, iv r8), (0, .ref a0), (6, iv x6), (7, iv x7)]) C0.1 C0.2.1 dX8_does_109 hl (by decide) rfl (fun ls hl => ?_)
        refine fl_iinc (lv' := [(7, iv (wr (x7 + 1))), (5, iv r8), (0, .ref a0), (6, iv x6)]) C0 dX8_does_111 hl (k := 3) rfl (by decide) rfl (fun ls hl => ?_)
        refine fl_goto (tgt := 72) C0 dX8_does_114 (by decide) ?_
        exact ih I a0 r8 x6 ((wr (x7 + 1))) _ _ _ ka0 rr8 rx6 ((rg_wr _)) hF8 (lv_sub hl [2, 1, 3, 0] rfl) hf
set_option maxRecDepth 100000 in
set_option maxHeartbeats 4000000 in
theorem b_X8_does_67 {p : Program} {l : Launch} {e : Env} {s : State} {m : MethodId} {args : Array Value} {below : List Frame} {meth : Method} {c : Code} {D : va_G} {cy : Nat → ClassId} {B : Nat} {L : List Nat} {K : KT} {P : PT} {J : IT} {res : Int × IT} (C0 : FC D cy B p s m meth c "RejudgeHallModel" cX8_does 8) (hr : meth.sig.returnType = (some .int)) (hWT : WT K P) : G_X8_does_67 p l e s m args below meth c D cy B L K P J res (f_X8_does_67 K P ) := by
  intro I a0 x5 t0 H locs ls ka0 rx5 rt0 hF hl hf
  unfold f_X8_does_67 at hf
  refine lv_istore (lv' := [(6, iv t0), (0, .ref a0), (5, iv x5)]) C0.1 C0.2.1 dX8_does_67 hl (by decide) rfl (fun ls hl => ?_)
  refine fl_iconst C0 dX8_does_69 ?_
  refine lv_istore (lv' := [(7, iv 0), (6, iv t0), (0, .ref a0), (5, iv x5)]) C0.1 C0.2.1 dX8_does_70 hl (by decide) rfl (fun ls hl => ?_)
  exact b_X8_does_72 C0 hr hWT  FU I a0 x5 t0 0 _ _ _ ka0 rx5 rt0 ((rgk 0 rfl)) hF (lv_sub hl [2, 3, 1, 0] rfl) hf
set_option maxRecDepth 100000 in
set_option maxHeartbeats 4000000 in
theorem b_X8_does_50 {p : Program} {l : Launch} {e : Env} {s : State} {m : MethodId} {args : Array Value} {below : List Frame} {meth : Method} {c : Code} {D : va_G} {cy : Nat → ClassId} {B : Nat} {L : List Nat} {K : KT} {P : PT} {J : IT} {res : Int × IT} (C0 : FC D cy B p s m meth c "RejudgeHallModel" cX8_does 8) (hr : meth.sig.returnType = (some .int)) (hWT : WT K P) : G_X8_does_50 p l e s m args below meth c D cy B L K P J res (f_X8_does_50 K P ) := by
  intro I a0 x1 t0 H locs ls ka0 rx1 rt0 hF hl hf
  unfold f_X8_does_50 at hf
  refine lv_istore (lv' := [(5, iv t0), (0, .ref a0), (1, iv x1)]) C0.1 C0.2.1 dX8_does_50 hl (by decide) rfl (fun ls hl => ?_)
  refine lv_aload_n C0.1 C0.2.1 dX8_does_52 rfl (lv_at hl 1 rfl) ?_
  refine fl_getr (k := 8) (t := 124) ck_9 C0 hF ka0 rfl (wt_at (k := 8) (t := 124) hWT ka0 rfl) rfl ⟨rfl, rfl⟩ aw_882 dX8_does_53 ?_
  refine lv_iload_n C0.1 C0.2.1 dX8_does_56 rfl (lv_at hl 2 rfl) ?_
  obtain ⟨hc, hf⟩ := ck_f hf
  refine fl_iald (n := 6) C0 hF (wt_at (k := 8) (t := 124) hWT ka0 rfl) rx1 hc dX8_does_57 ?_
  refine fl_iconst C0 dX8_does_58 ?_
  refine fl_icmp_ne (tgt := 66) C0 (hF.rI _ _) (rgk 1 rfl) dX8_does_59 (by decide) (fun c5 => ?_) (fun c5 => ?_)
  · replace hf := (if_neg c5).symm.trans hf
    refine fl_iconst C0 dX8_does_66 ?_
    exact b_X8_does_67 C0 hr hWT  I a0 t0 0 _ _ _ ka0 rt0 ((rgk 0 rfl)) hF (lv_sub hl [1, 0] rfl) hf
  · replace hf := (if_pos c5).symm.trans hf
    refine fl_iconst C0 dX8_does_62 ?_
    refine fl_goto (tgt := 67) C0 dX8_does_63 (by decide) ?_
    exact b_X8_does_67 C0 hr hWT  I a0 t0 1 _ _ _ ka0 rt0 ((rgk 1 rfl)) hF (lv_sub hl [1, 0] rfl) hf
theorem pm_X8_does : plainM yX8_does 3 := by decide +kernel
set_option maxRecDepth 100000 in
set_option maxHeartbeats 4000000 in
theorem c_X8_does (l : Launch) (D : va_G) (cy : Nat → ClassId) (B : Nat) (L : List Nat) (K : KT) (P : PT) (J : IT) (hWT : WT K P) (I : IT) (a0 : Nat) (x1 : Int) (x2 : Int) (x3 : Int) (ka0 : K a0 = 9) (rx1 : rg x1) (rx2 : rg x2) (rx3 : rg x3) {r : Int} {I' : IT} (hf : f_X8_does K P I a0 x1 x2 x3 = some (r, I')) : Met l yX8_does [.code yX8_does cX8_does 8 (some .int)] rm_X8_does (va_Pc [.ref a0, iv x1, iv x2, iv x3] (FW D cy B L K P J I)) (QI D cy B L K P J (r, I')) 0 0 (fun q => B ≤ q) := by
  refine fl_body (own := "RejudgeHallModel") [.ref a0, iv x1, iv x2, iv x3] (by decide) rfl (Nat.le_of_ble_eq_true rfl) ?_
  intro p e s m args below meth c ls C0 hr hF hl
  have hl : lv_has ls 8 [(0, .ref a0), (1, iv x1), (2, iv x2), (3, iv x3)] := hl
  unfold f_X8_does at hf
  refine lv_aload_n C0.1 C0.2.1 dX8_does_0 rfl (lv_at hl 0 rfl) ?_
  refine fl_iconst C0 dX8_does_1 ?_
  refine lv_iload_n C0.1 C0.2.1 dX8_does_2 rfl (lv_at hl 1 rfl) ?_
  refine fl_iadd C0 dX8_does_3 ?_
  refine lv_iload_n C0.1 C0.2.1 dX8_does_4 rfl (lv_at hl 3 rfl) ?_
  obtain ⟨r1, I1, hq1, hf⟩ := bi_f hf
  refine fl_ri hF (fl_runV (As := [iv (wr (1 + x1)), iv x3]) (rest := []) C0 hF hl.1 ck_9 ka0 rfl (c_X8_answers l D cy B L K P J hWT I a0 ((wr (1 + x1))) x3 ka0 ((rg_wr _)) rx3 hq1) aw_1060 aw_1062 aw_50 aw_73 aw_1063 rfl rfl pm_X8_answers rfl rfl ⟨Nat.le_of_ble_eq_true rfl, Nat.le_of_ble_eq_true rfl⟩ rfl (Nat.le_of_ble_eq_true rfl) dX8_does_5 ⟨Nat.le_of_ble_eq_true rfl, Nat.le_of_ble_eq_true rfl⟩) (fun H locs hF1 rr1 => ?_)
  refine lv_istore (lv' := [(4, iv r1), (0, .ref a0), (1, iv x1), (2, iv x2), (3, iv x3)]) C0.1 C0.2.1 dX8_does_8 hl (by decide) rfl (fun ls hl => ?_)
  refine lv_aload_n C0.1 C0.2.1 dX8_does_10 rfl (lv_at hl 1 rfl) ?_
  refine lv_iload_n C0.1 C0.2.1 dX8_does_11 rfl (lv_at hl 3 rfl) ?_
  refine lv_iload_n C0.1 C0.2.1 dX8_does_12 rfl (lv_at hl 4 rfl) ?_
  refine lv_aload_n C0.1 C0.2.1 dX8_does_13 rfl (lv_at hl 1 rfl) ?_
  refine fl_getr (k := 7) (t := 124) ck_9 C0 hF1 ka0 rfl (wt_at (k := 7) (t := 124) hWT ka0 rfl) rfl ⟨rfl, rfl⟩ aw_881 dX8_does_14 ?_
  refine lv_iload_n C0.1 C0.2.1 dX8_does_17 rfl (lv_at hl 2 rfl) ?_
  obtain ⟨hc, hf⟩ := ck_f hf
  refine fl_iald (n := 6) C0 hF1 (wt_at (k := 7) (t := 124) hWT ka0 rfl) rx1 hc dX8_does_18 ?_
  obtain ⟨I2, hq2, hf⟩ := bp_f hf
  refine fl_rv hF1 (fl_runV (As := [iv x2, iv x3, iv (I1 ((P a0 7)) (x1 : Int).toNat)]) (rest := []) C0 hF1 hl.1 ck_9 ka0 rfl (c_X8_runs l D cy B L K P J hWT I1 a0 x2 x3 ((I1 ((P a0 7)) (x1 : Int).toNat)) ka0 rx2 rx3 ((hF1.rI _ _)) hq2) aw_1019 aw_1021 aw_45 aw_73 aw_1022 rfl rfl pm_X8_runs rfl rfl ⟨Nat.le_of_ble_eq_true rfl, Nat.le_of_ble_eq_true rfl⟩ rfl (Nat.le_of_ble_eq_true rfl) dX8_does_19 ⟨Nat.le_of_ble_eq_true rfl, Nat.le_of_ble_eq_true rfl⟩) (fun H locs hF2 => ?_)
  refine lv_aload_n C0.1 C0.2.1 dX8_does_22 rfl (lv_at hl 1 rfl) ?_
  refine fl_geti (k := 25) ck_9 C0 hF2 ka0 rfl ⟨rfl, rfl⟩ aw_899 dX8_does_23 ?_
  refine fl_if_eq (tgt := 34) C0 (hF2.rI _ _) dX8_does_26 (by decide) (fun c3 => ?_) (fun c3 => ?_)
  · replace hf := (if_pos c3).symm.trans hf
    refine lv_aload_n C0.1 C0.2.1 dX8_does_34 rfl (lv_at hl 1 rfl) ?_
    refine fl_geti (k := 27) ck_9 C0 hF2 ka0 rfl ⟨rfl, rfl⟩ aw_901 dX8_does_35 ?_
    refine lv_aload_n C0.1 C0.2.1 dX8_does_38 rfl (lv_at hl 1 rfl) ?_
    refine fl_geti (k := 31) ck_9 C0 hF2 ka0 rfl ⟨rfl, rfl⟩ aw_905 dX8_does_39 ?_
    refine fl_icmp_ne (tgt := 49) C0 (hF2.rI _ _) (hF2.rI _ _) dX8_does_42 (by decide) (fun c4 => ?_) (fun c4 => ?_)
    · replace hf := (if_neg c4).symm.trans hf
      refine fl_iconst C0 dX8_does_49 ?_
      exact b_X8_does_50 C0 hr hWT  I2 a0 x1 0 _ _ _ ka0 rx1 ((rgk 0 rfl)) hF2 (lv_sub hl [1, 2] rfl) hf
    · replace hf := (if_pos c4).symm.trans hf
      refine fl_iconst C0 dX8_does_45 ?_
      refine fl_goto (tgt := 50) C0 dX8_does_46 (by decide) ?_
      exact b_X8_does_50 C0 hr hWT  I2 a0 x1 1 _ _ _ ka0 rx1 ((rgk 1 rfl)) hF2 (lv_sub hl [1, 2] rfl) hf
  · replace hf := (if_neg c3).symm.trans hf
    refine lv_aload_n C0.1 C0.2.1 dX8_does_29 rfl (lv_at hl 1 rfl) ?_
    refine fl_geti (k := 25) ck_9 C0 hF2 ka0 rfl ⟨rfl, rfl⟩ aw_899 dX8_does_30 ?_
    cases hf
    exact fl_iret C0 hF2 hr (hF2.rI _ _) rfl dX8_does_33
-- RejudgeHallModel.firstFailed(I)I
abbrev rm_X8_firstFailed : Room := { frames := 6, cells := 0, slots := 0, locals := 144 }
def f_X8_firstFailed_9 (K : KT) (P : PT) : Nat → IT → Nat → Int → Int → Int → Option (Int × IT)
  | 0, _, _, _, _, _ => none
  | n + 1, I, a0, x1, x2, x3 => ck (0 ≤ x2 ∧ x2 < 6) <| if (I ((P a0 10)) (x2 : Int).toNat) ≤ x3 then (some ((-1), I)) else (bi (f_X8_does K P I a0 x2 ((wr (7 + x1))) ((wr ((wr (12 * x2)) + x3)))) fun r2 I2 => if r2 = 0 then ((f_X8_firstFailed_9 K P  n) I2 a0 x1 x2 ((wr (x3 + 1)))) else (some (x3, I2)))
def f_X8_firstFailed (K : KT) (P : PT) (I : IT) (a0 : Nat) (x1 : Int) : Option (Int × IT) := ck (0 ≤ x1 ∧ x1 < 60) <| f_X8_firstFailed_9 K P  FU I a0 x1 ((I ((P a0 15)) (x1 : Int).toNat)) 0
abbrev G_X8_firstFailed_9 (p : Program) (l : Launch) (e : Env) (s : State) (m : MethodId) (args : Array Value) (below : List Frame) (meth : Method) (c : Code) (D : va_G) (cy : Nat → ClassId) (B : Nat) (L : List Nat) (K : KT) (P : PT) (J : IT) (res : Int × IT) (f : IT → Nat → Int → Int → Int → Option (Int × IT)) : Prop := ∀ (I : IT) (a0 : Nat) (x1 : Int) (x2 : Int) (x3 : Int) (H : Heap) (locs : List Loc) (ls : Array Slot), K a0 = 9 → rg x1 → rg x2 → rg x3 → FS D cy B L K P J s.heap I H locs → lv_has ls 4 [(0, .ref a0), (1, iv x1), (2, iv x2), (3, iv x3)] → f I a0 x1 x2 x3 = some res → W p l e rm_X8_firstFailed s m args below meth c H locs 0 0 (MQ below (QI D cy B L K P J res) args s 0 0 (fun q => B ≤ q)) (F0 m 9 ls [])
set_option maxRecDepth 100000 in
set_option maxHeartbeats 4000000 in
theorem b_X8_firstFailed_9 {p : Program} {l : Launch} {e : Env} {s : State} {m : MethodId} {args : Array Value} {below : List Frame} {meth : Method} {c : Code} {D : va_G} {cy : Nat → ClassId} {B : Nat} {L : List Nat} {K : KT} {P : PT} {J : IT} {res : Int × IT} (C0 : FC D cy B p s m meth c "RejudgeHallModel" cX8_firstFailed 4) (hr : meth.sig.returnType = (some .int)) (hWT : WT K P) : ∀ n : Nat, G_X8_firstFailed_9 p l e s m args below meth c D cy B L K P J res (f_X8_firstFailed_9 K P  n)
  | 0 => by
    intro I a0 x1 x2 x3 H locs ls ka0 rx1 rx2 rx3 hF hl hf
    cases hf
  | n + 1 => by
    have ih : G_X8_firstFailed_9 p l e s m args below meth c D cy B L K P J res (f_X8_firstFailed_9 K P  n)  := b_X8_firstFailed_9 C0 hr hWT  n
    intro I a0 x1 x2 x3 H locs ls ka0 rx1 rx2 rx3 hF hl hf
    rw [f_X8_firstFailed_9] at hf
    refine lv_iload_n C0.1 C0.2.1 dX8_firstFailed_9 rfl (lv_at hl 3 rfl) ?_
    refine lv_aload_n C0.1 C0.2.1 dX8_firstFailed_10 rfl (lv_at hl 0 rfl) ?_
    refine fl_getr (k := 10) (t := 124) ck_9 C0 hF ka0 rfl (wt_at (k := 10) (t := 124) hWT ka0 rfl) rfl ⟨rfl, rfl⟩ aw_884 dX8_firstFailed_11 ?_
    refine lv_iload_n C0.1 C0.2.1 dX8_firstFailed_14 rfl (lv_at hl 2 rfl) ?_
    obtain ⟨hc, hf⟩ := ck_f hf
    refine fl_iald (n := 6) C0 hF (wt_at (k := 10) (t := 124) hWT ka0 rfl) rx2 hc dX8_firstFailed_15 ?_
    refine fl_icmp_ge (tgt := 45) C0 rx3 (hF.rI _ _) dX8_firstFailed_16 (by decide) (fun c1 => ?_) (fun c1 => ?_)
    · replace hf := (if_pos c1).symm.trans hf
      refine fl_iconst C0 dX8_firstFailed_45 ?_
      cases hf
      exact fl_iret C0 hF hr (rgk (-1) rfl) rfl dX8_firstFailed_46
    · replace hf := (if_neg c1).symm.trans hf
      refine lv_aload_n C0.1 C0.2.1 dX8_firstFailed_19 rfl (lv_at hl 0 rfl) ?_
      refine lv_iload_n C0.1 C0.2.1 dX8_firstFailed_20 rfl (lv_at hl 2 rfl) ?_
      refine fl_bipush C0 dX8_firstFailed_21 (by decide) ?_
      refine lv_iload_n C0.1 C0.2.1 dX8_firstFailed_23 rfl (lv_at hl 1 rfl) ?_
      refine fl_iadd C0 dX8_firstFailed_24 ?_
      refine fl_bipush C0 dX8_firstFailed_25 (by decide) ?_
      refine lv_iload_n C0.1 C0.2.1 dX8_firstFailed_27 rfl (lv_at hl 2 rfl) ?_
      refine fl_imul C0 dX8_firstFailed_28 ?_
      refine lv_iload_n C0.1 C0.2.1 dX8_firstFailed_29 rfl (lv_at hl 3 rfl) ?_
      refine fl_iadd C0 dX8_firstFailed_30 ?_
      obtain ⟨r2, I2, hq2, hf⟩ := bi_f hf
      refine fl_ri hF (fl_runV (As := [iv x2, iv (wr (7 + x1)), iv (wr ((wr (12 * x2)) + x3))]) (rest := []) C0 hF hl.1 ck_9 ka0 rfl (c_X8_does l D cy B L K P J hWT I a0 x2 ((wr (7 + x1))) ((wr ((wr (12 * x2)) + x3))) ka0 rx2 ((rg_wr _)) ((rg_wr _)) hq2) aw_1099 aw_1101 aw_53 aw_73 aw_1102 rfl rfl pm_X8_does rfl rfl ⟨Nat.le_of_ble_eq_true rfl, Nat.le_of_ble_eq_true rfl⟩ rfl (Nat.le_of_ble_eq_true rfl) dX8_firstFailed_31 ⟨Nat.le_of_ble_eq_true rfl, Nat.le_of_ble_eq_true rfl⟩) (fun H locs hF2 rr2 => ?_)
      refine fl_if_eq (tgt := 39) C0 rr2 dX8_firstFailed_34 (by decide) (fun c3 => ?_) (fun c3 => ?_)
      · replace hf := (if_pos c3).symm.trans hf
        refine fl_iinc (lv' := [(3, iv (wr (x3 + 1))), (0, .ref a0), (1, iv x1), (2, iv x2)]) C0 dX8_firstFailed_39 hl (k := 3) rfl (by decide) rfl (fun ls hl => ?_)
        refine fl_goto (tgt := 9) C0 dX8_firstFailed_42 (by decide) ?_
        exact ih I2 a0 x1 x2 ((wr (x3 + 1))) _ _ _ ka0 rx1 rx2 ((rg_wr _)) hF2 (lv_sub hl [1, 2, 3, 0] rfl) hf
      · replace hf := (if_neg c3).symm.trans hf
        refine lv_iload_n C0.1 C0.2.1 dX8_firstFailed_37 rfl (lv_at hl 3 rfl) ?_
        cases hf
        exact fl_iret C0 hF2 hr rx3 rfl dX8_firstFailed_38
theorem pm_X8_firstFailed : plainM yX8_firstFailed 1 := by decide +kernel
set_option maxRecDepth 100000 in
set_option maxHeartbeats 4000000 in
theorem c_X8_firstFailed (l : Launch) (D : va_G) (cy : Nat → ClassId) (B : Nat) (L : List Nat) (K : KT) (P : PT) (J : IT) (hWT : WT K P) (I : IT) (a0 : Nat) (x1 : Int) (ka0 : K a0 = 9) (rx1 : rg x1) {r : Int} {I' : IT} (hf : f_X8_firstFailed K P I a0 x1 = some (r, I')) : Met l yX8_firstFailed [.code yX8_firstFailed cX8_firstFailed 4 (some .int)] rm_X8_firstFailed (va_Pc [.ref a0, iv x1] (FW D cy B L K P J I)) (QI D cy B L K P J (r, I')) 0 0 (fun q => B ≤ q) := by
  refine fl_body (own := "RejudgeHallModel") [.ref a0, iv x1] (by decide) rfl (Nat.le_of_ble_eq_true rfl) ?_
  intro p e s m args below meth c ls C0 hr hF hl
  have hl : lv_has ls 4 [(0, .ref a0), (1, iv x1)] := hl
  unfold f_X8_firstFailed at hf
  refine lv_aload_n C0.1 C0.2.1 dX8_firstFailed_0 rfl (lv_at hl 0 rfl) ?_
  refine fl_getr (k := 15) (t := 340) ck_9 C0 hF ka0 rfl (wt_at (k := 15) (t := 340) hWT ka0 rfl) rfl ⟨rfl, rfl⟩ aw_889 dX8_firstFailed_1 ?_
  refine lv_iload_n C0.1 C0.2.1 dX8_firstFailed_4 rfl (lv_at hl 1 rfl) ?_
  obtain ⟨hc, hf⟩ := ck_f hf
  refine fl_iald (n := 60) C0 hF (wt_at (k := 15) (t := 340) hWT ka0 rfl) rx1 hc dX8_firstFailed_5 ?_
  refine lv_istore_n (lv' := [(2, iv (I ((P a0 15)) (x1 : Int).toNat)), (0, .ref a0), (1, iv x1)]) C0.1 C0.2.1 dX8_firstFailed_6 rfl hl (by decide) rfl (fun ls hl => ?_)
  refine fl_iconst C0 dX8_firstFailed_7 ?_
  refine lv_istore_n (lv' := [(3, iv 0), (2, iv (I ((P a0 15)) (x1 : Int).toNat)), (0, .ref a0), (1, iv x1)]) C0.1 C0.2.1 dX8_firstFailed_8 rfl hl (by decide) rfl (fun ls hl => ?_)
  exact b_X8_firstFailed_9 C0 hr hWT  FU I a0 x1 ((I ((P a0 15)) (x1 : Int).toNat)) 0 _ _ _ ka0 rx1 ((hF.rI _ _)) ((rgk 0 rfl)) hF (lv_sub hl [2, 3, 1, 0] rfl) hf
-- RejudgeHallModel.judges(I)V
abbrev rm_X8_judges : Room := { frames := 7, cells := 0, slots := 0, locals := 167 }
def f_X8_judges_75 (K : KT) (P : PT) (k15 : IT → Nat → Int → Int → Int → Int → Int → Option (IT)) (I : IT) (a0 : Nat) (x1 : Int) (x2 : Int) (x4 : Int) (x5 : Int) (t0 : Int) (t1 : Int) : Option (IT) := k15 I a0 x1 x2 ((bor t1 t0)) x4 ((wr (x5 + 1)))
def f_X8_judges_136 (K : KT) (P : PT) (k93 : IT → Nat → Int → Int → Int → Int → Int → Option (IT)) (I : IT) (a0 : Nat) (x1 : Int) (x2 : Int) (x3 : Int) (x4 : Int) (x5 : Int) (t0 : Int) (t1 : Int) (t2 : Int) (b3 : Nat) : Option (IT) := ck (0 ≤ t2 ∧ t2 < 60) <| bnd (up I b3 (t2 : Int).toNat (wr (t1 + t0))) fun I11 => k93 I11 a0 x1 x2 x3 x4 ((wr (x5 + 1)))
def f_X8_judges_194 (K : KT) (P : PT) (I : IT) (a0 : Nat) (x1 : Int) (x2 : Int) (t0 : Int) (t1 : Int) (b2 : Nat) : Option (IT) := ck (0 ≤ t1 ∧ t1 < 60) <| bnd (up I b2 (t1 : Int).toNat t0) fun I12 => ck (0 ≤ x2 ∧ x2 < 6) <| ck (0 ≤ x1 ∧ x1 < 60) <| bnd (up I12 ((P a0 20)) (x1 : Int).toNat (I12 ((P a0 9)) (x2 : Int).toNat)) fun I13 => ck (0 ≤ x1 ∧ x1 < 60) <| ck (0 ≤ (I13 ((P a0 14)) (x1 : Int).toNat) ∧ (I13 ((P a0 14)) (x1 : Int).toNat) < 8) <| ck (0 ≤ (I13 ((P a0 14)) (x1 : Int).toNat) ∧ (I13 ((P a0 14)) (x1 : Int).toNat) < 8) <| bnd (up I13 ((P a0 21)) ((I13 ((P a0 14)) (x1 : Int).toNat) : Int).toNat (wr ((I13 ((P a0 21)) ((I13 ((P a0 14)) (x1 : Int).toNat) : Int).toNat) + 1))) fun I14 => some I14
def f_X8_judges_144 (K : KT) (P : PT) (I : IT) (a0 : Nat) (x1 : Int) (x2 : Int) : Option (IT) := bi (f_X8_firstFailed K P I a0 x1) fun r7 I7 => ck (0 ≤ x1 ∧ x1 < 60) <| bnd (up I7 ((P a0 18)) (x1 : Int).toNat r7) fun I8 => ck (0 ≤ x1 ∧ x1 < 60) <| if (I8 ((P a0 18)) (x1 : Int).toNat) = (-1) then (f_X8_judges_194 K P  I8 a0 x1 x2 0 x1 ((P a0 17))) else (ck (0 ≤ x1 ∧ x1 < 60) <| bi (f_X8_does K P I8 a0 x2 ((wr (7 + x1))) ((wr ((wr (12 * x2)) + (I8 ((P a0 18)) (x1 : Int).toNat))))) fun r10 I10 => f_X8_judges_194 K P  I10 a0 x1 x2 r10 x1 ((P a0 17)))
def f_X8_judges_93 (K : KT) (P : PT) : Nat → IT → Nat → Int → Int → Int → Int → Int → Option (IT)
  | 0, _, _, _, _, _, _, _ => none
  | n + 1, I, a0, x1, x2, x3, x4, x5 => if 4 ≤ x5 then (f_X8_judges_144 K P  I a0 x1 x2) else (ck (0 ≤ x1 ∧ x1 < 60) <| if (ban (bsr (ban x4 (bxo x3 (-1))) x5) 1) = 1 then (ck (0 ≤ (wr ((wr (4 * x2)) + x5)) ∧ (wr ((wr (4 * x2)) + x5)) < 24) <| f_X8_judges_136 K P ((f_X8_judges_93 K P  n)) I a0 x1 x2 x3 x4 x5 ((I ((P a0 12)) ((wr ((wr (4 * x2)) + x5)) : Int).toNat)) ((I ((P a0 19)) (x1 : Int).toNat)) x1 ((P a0 19))) else (f_X8_judges_136 K P ((f_X8_judges_93 K P  n)) I a0 x1 x2 x3 x4 x5 0 ((I ((P a0 19)) (x1 : Int).toNat)) x1 ((P a0 19))))
def f_X8_judges_83 (K : KT) (P : PT) (I : IT) (a0 : Nat) (x1 : Int) (x2 : Int) (x3 : Int) (x4 : Int) : Option (IT) := ck (0 ≤ x1 ∧ x1 < 60) <| bnd (up I ((P a0 19)) (x1 : Int).toNat 0) fun I4 => f_X8_judges_93 K P  FU I4 a0 x1 x2 x3 x4 0
def f_X8_judges_15 (K : KT) (P : PT) : Nat → IT → Nat → Int → Int → Int → Int → Int → Option (IT)
  | 0, _, _, _, _, _, _, _ => none
  | n + 1, I, a0, x1, x2, x3, x4, x5 => ck (0 ≤ x2 ∧ x2 < 6) <| if (I ((P a0 10)) (x2 : Int).toNat) ≤ x5 then (f_X8_judges_83 K P  I a0 x1 x2 x3 x4) else (ck (0 ≤ (wr ((wr (12 * x2)) + x5)) ∧ (wr ((wr (12 * x2)) + x5)) < 72) <| bi (f_X8_does K P I a0 x2 ((wr (7 + x1))) ((wr ((wr (12 * x2)) + x5)))) fun r2 I2 => if r2 = 0 then (f_X8_judges_75 K P ((f_X8_judges_15 K P  n)) I2 a0 x1 x2 ((bor x4 (bsl 1 (I ((P a0 11)) ((wr ((wr (12 * x2)) + x5)) : Int).toNat)))) x5 0 x3) else (f_X8_judges_75 K P ((f_X8_judges_15 K P  n)) I2 a0 x1 x2 ((bor x4 (bsl 1 (I ((P a0 11)) ((wr ((wr (12 * x2)) + x5)) : Int).toNat)))) x5 ((bsl 1 (I ((P a0 11)) ((wr ((wr (12 * x2)) + x5)) : Int).toNat))) x3))
def f_X8_judges (K : KT) (P : PT) (I : IT) (a0 : Nat) (x1 : Int) : Option (IT) := ck (0 ≤ x1 ∧ x1 < 60) <| f_X8_judges_15 K P  FU I a0 x1 ((I ((P a0 15)) (x1 : Int).toNat)) 0 0 0
abbrev G_X8_judges_75 (p : Program) (l : Launch) (e : Env) (s : State) (m : MethodId) (args : Array Value) (below : List Frame) (meth : Method) (c : Code) (D : va_G) (cy : Nat → ClassId) (B : Nat) (L : List Nat) (K : KT) (P : PT) (J : IT) (res : IT) (f : IT → Nat → Int → Int → Int → Int → Int → Int → Option (IT)) : Prop := ∀ (I : IT) (a0 : Nat) (x1 : Int) (x2 : Int) (x4 : Int) (x5 : Int) (t0 : Int) (t1 : Int) (H : Heap) (locs : List Loc) (ls : Array Slot), K a0 = 9 → rg x1 → rg x2 → rg x4 → rg x5 → rg t0 → rg t1 → FS D cy B L K P J s.heap I H locs → lv_has ls 7 [(0, .ref a0), (1, iv x1), (2, iv x2), (4, iv x4), (5, iv x5)] → f I a0 x1 x2 x4 x5 t0 t1 = some res → W p l e rm_X8_judges s m args below meth c H locs 0 0 (MQ below (QV D cy B L K P J res) args s 0 0 (fun q => B ≤ q)) (F0 m 75 ls [iv t0, iv t1])
abbrev G_X8_judges_136 (p : Program) (l : Launch) (e : Env) (s : State) (m : MethodId) (args : Array Value) (below : List Frame) (meth : Method) (c : Code) (D : va_G) (cy : Nat → ClassId) (B : Nat) (L : List Nat) (K : KT) (P : PT) (J : IT) (res : IT) (f : IT → Nat → Int → Int → Int → Int → Int → Int → Int → Int → Nat → Option (IT)) : Prop := ∀ (I : IT) (a0 : Nat) (x1 : Int) (x2 : Int) (x3 : Int) (x4 : Int) (x5 : Int) (t0 : Int) (t1 : Int) (t2 : Int) (b3 : Nat) (H : Heap) (locs : List Loc) (ls : Array Slot), K a0 = 9 → rg x1 → rg x2 → rg x3 → rg x4 → rg x5 → rg t0 → rg t1 → rg t2 → K b3 = 340 → FS D cy B L K P J s.heap I H locs → lv_has ls 7 [(0, .ref a0), (1, iv x1), (2, iv x2), (3, iv x3), (4, iv x4), (5, iv x5)] → f I a0 x1 x2 x3 x4 x5 t0 t1 t2 b3 = some res → W p l e rm_X8_judges s m args below meth c H locs 0 0 (MQ below (QV D cy B L K P J res) args s 0 0 (fun q => B ≤ q)) (F0 m 136 ls [iv t0, iv t1, iv t2, .ref b3])
abbrev G_X8_judges_194 (p : Program) (l : Launch) (e : Env) (s : State) (m : MethodId) (args : Array Value) (below : List Frame) (meth : Method) (c : Code) (D : va_G) (cy : Nat → ClassId) (B : Nat) (L : List Nat) (K : KT) (P : PT) (J : IT) (res : IT) (f : IT → Nat → Int → Int → Int → Int → Nat → Option (IT)) : Prop := ∀ (I : IT) (a0 : Nat) (x1 : Int) (x2 : Int) (t0 : Int) (t1 : Int) (b2 : Nat) (H : Heap) (locs : List Loc) (ls : Array Slot), K a0 = 9 → rg x1 → rg x2 → rg t0 → rg t1 → K b2 = 340 → FS D cy B L K P J s.heap I H locs → lv_has ls 7 [(0, .ref a0), (1, iv x1), (2, iv x2)] → f I a0 x1 x2 t0 t1 b2 = some res → W p l e rm_X8_judges s m args below meth c H locs 0 0 (MQ below (QV D cy B L K P J res) args s 0 0 (fun q => B ≤ q)) (F0 m 194 ls [iv t0, iv t1, .ref b2])
abbrev G_X8_judges_144 (p : Program) (l : Launch) (e : Env) (s : State) (m : MethodId) (args : Array Value) (below : List Frame) (meth : Method) (c : Code) (D : va_G) (cy : Nat → ClassId) (B : Nat) (L : List Nat) (K : KT) (P : PT) (J : IT) (res : IT) (f : IT → Nat → Int → Int → Option (IT)) : Prop := ∀ (I : IT) (a0 : Nat) (x1 : Int) (x2 : Int) (H : Heap) (locs : List Loc) (ls : Array Slot), K a0 = 9 → rg x1 → rg x2 → FS D cy B L K P J s.heap I H locs → lv_has ls 7 [(0, .ref a0), (1, iv x1), (2, iv x2)] → f I a0 x1 x2 = some res → W p l e rm_X8_judges s m args below meth c H locs 0 0 (MQ below (QV D cy B L K P J res) args s 0 0 (fun q => B ≤ q)) (F0 m 144 ls [])
abbrev G_X8_judges_93 (p : Program) (l : Launch) (e : Env) (s : State) (m : MethodId) (args : Array Value) (below : List Frame) (meth : Method) (c : Code) (D : va_G) (cy : Nat → ClassId) (B : Nat) (L : List Nat) (K : KT) (P : PT) (J : IT) (res : IT) (f : IT → Nat → Int → Int → Int → Int → Int → Option (IT)) : Prop := ∀ (I : IT) (a0 : Nat) (x1 : Int) (x2 : Int) (x3 : Int) (x4 : Int) (x5 : Int) (H : Heap) (locs : List Loc) (ls : Array Slot), K a0 = 9 → rg x1 → rg x2 → rg x3 → rg x4 → rg x5 → FS D cy B L K P J s.heap I H locs → lv_has ls 7 [(0, .ref a0), (1, iv x1), (2, iv x2), (3, iv x3), (4, iv x4), (5, iv x5)] → f I a0 x1 x2 x3 x4 x5 = some res → W p l e rm_X8_judges s m args below meth c H locs 0 0 (MQ below (QV D cy B L K P J res) args s 0 0 (fun q => B ≤ q)) (F0 m 93 ls [])
abbrev G_X8_judges_83 (p : Program) (l : Launch) (e : Env) (s : State) (m : MethodId) (args : Array Value) (below : List Frame) (meth : Method) (c : Code) (D : va_G) (cy : Nat → ClassId) (B : Nat) (L : List Nat) (K : KT) (P : PT) (J : IT) (res : IT) (f : IT → Nat → Int → Int → Int → Int → Option (IT)) : Prop := ∀ (I : IT) (a0 : Nat) (x1 : Int) (x2 : Int) (x3 : Int) (x4 : Int) (H : Heap) (locs : List Loc) (ls : Array Slot), K a0 = 9 → rg x1 → rg x2 → rg x3 → rg x4 → FS D cy B L K P J s.heap I H locs → lv_has ls 7 [(0, .ref a0), (1, iv x1), (2, iv x2), (3, iv x3), (4, iv x4)] → f I a0 x1 x2 x3 x4 = some res → W p l e rm_X8_judges s m args below meth c H locs 0 0 (MQ below (QV D cy B L K P J res) args s 0 0 (fun q => B ≤ q)) (F0 m 83 ls [])
abbrev G_X8_judges_15 (p : Program) (l : Launch) (e : Env) (s : State) (m : MethodId) (args : Array Value) (below : List Frame) (meth : Method) (c : Code) (D : va_G) (cy : Nat → ClassId) (B : Nat) (L : List Nat) (K : KT) (P : PT) (J : IT) (res : IT) (f : IT → Nat → Int → Int → Int → Int → Int → Option (IT)) : Prop := ∀ (I : IT) (a0 : Nat) (x1 : Int) (x2 : Int) (x3 : Int) (x4 : Int) (x5 : Int) (H : Heap) (locs : List Loc) (ls : Array Slot), K a0 = 9 → rg x1 → rg x2 → rg x3 → rg x4 → rg x5 → FS D cy B L K P J s.heap I H locs → lv_has ls 7 [(0, .ref a0), (1, iv x1), (2, iv x2), (3, iv x3), (4, iv x4), (5, iv x5)] → f I a0 x1 x2 x3 x4 x5 = some res → W p l e rm_X8_judges s m args below meth c H locs 0 0 (MQ below (QV D cy B L K P J res) args s 0 0 (fun q => B ≤ q)) (F0 m 15 ls [])
set_option maxRecDepth 100000 in
set_option maxHeartbeats 4000000 in
theorem b_X8_judges_75 {p : Program} {l : Launch} {e : Env} {s : State} {m : MethodId} {args : Array Value} {below : List Frame} {meth : Method} {c : Code} {D : va_G} {cy : Nat → ClassId} {B : Nat} {L : List Nat} {K : KT} {P : PT} {J : IT} {res : IT} (C0 : FC D cy B p s m meth c "RejudgeHallModel" cX8_judges 7) (hr : meth.sig.returnType = none) (hWT : WT K P) {k15 : IT → Nat → Int → Int → Int → Int → Int → Option (IT)} (hk15 : G_X8_judges_15 p l e s m args below meth c D cy B L K P J res k15) : G_X8_judges_75 p l e s m args below meth c D cy B L K P J res (f_X8_judges_75 K P k15) := by
  intro I a0 x1 x2 x4 x5 t0 t1 H locs ls ka0 rx1 rx2 rx4 rx5 rt0 rt1 hF hl hf
  unfold f_X8_judges_75 at hf
  refine fl_ior C0 dX8_judges_75 ?_
  refine lv_istore_n (lv' := [(3, iv (bor t1 t0)), (0, .ref a0), (1, iv x1), (2, iv x2), (4, iv x4), (5, iv x5)]) C0.1 C0.2.1 dX8_judges_76 rfl hl (by decide) rfl (fun ls hl => ?_)
  refine fl_iinc (lv' := [(5, iv (wr (x5 + 1))), (3, iv (bor t1 t0)), (0, .ref a0), (1, iv x1), (2, iv x2), (4, iv x4)]) C0 dX8_judges_77 hl (k := 5) rfl (by decide) rfl (fun ls hl => ?_)
  refine fl_goto (tgt := 15) C0 dX8_judges_80 (by decide) ?_
  exact hk15 I a0 x1 x2 ((bor t1 t0)) x4 ((wr (x5 + 1))) _ _ _ ka0 rx1 rx2 ((rg_bor _ _)) rx4 ((rg_wr _)) hF (lv_sub hl [2, 3, 4, 1, 5, 0] rfl) hf
set_option maxRecDepth 100000 in
set_option maxHeartbeats 4000000 in
theorem b_X8_judges_136 {p : Program} {l : Launch} {e : Env} {s : State} {m : MethodId} {args : Array Value} {below : List Frame} {meth : Method} {c : Code} {D : va_G} {cy : Nat → ClassId} {B : Nat} {L : List Nat} {K : KT} {P : PT} {J : IT} {res : IT} (C0 : FC D cy B p s m meth c "RejudgeHallModel" cX8_judges 7) (hr : meth.sig.returnType = none) (hWT : WT K P) {k93 : IT → Nat → Int → Int → Int → Int → Int → Option (IT)} (hk93 : G_X8_judges_93 p l e s m args below meth c D cy B L K P J res k93) : G_X8_judges_136 p l e s m args below meth c D cy B L K P J res (f_X8_judges_136 K P k93) := by
  intro I a0 x1 x2 x3 x4 x5 t0 t1 t2 b3 H locs ls ka0 rx1 rx2 rx3 rx4 rx5 rt0 rt1 rt2 kb3 hF hl hf
  unfold f_X8_judges_136 at hf
  refine fl_iadd C0 dX8_judges_136 ?_
  obtain ⟨hc, hf⟩ := ck_f hf
  refine fl_iast (n := 60) C0 hF kb3 rt2 (rg_wr _) hc dX8_judges_137 (fun H locs hF11 => ?_)
  obtain ⟨I11, eI11, hf⟩ := bnd_f hf
  rw [eI11] at hF11
  refine fl_iinc (lv' := [(5, iv (wr (x5 + 1))), (0, .ref a0), (1, iv x1), (2, iv x2), (3, iv x3), (4, iv x4)]) C0 dX8_judges_138 hl (k := 5) rfl (by decide) rfl (fun ls hl => ?_)
  refine fl_goto (tgt := 93) C0 dX8_judges_141 (by decide) ?_
  exact hk93 I11 a0 x1 x2 x3 x4 ((wr (x5 + 1))) _ _ _ ka0 rx1 rx2 rx3 rx4 ((rg_wr _)) hF11 (lv_sub hl [1, 2, 3, 4, 5, 0] rfl) hf
set_option maxRecDepth 100000 in
set_option maxHeartbeats 4000000 in
theorem b_X8_judges_194 {p : Program} {l : Launch} {e : Env} {s : State} {m : MethodId} {args : Array Value} {below : List Frame} {meth : Method} {c : Code} {D : va_G} {cy : Nat → ClassId} {B : Nat} {L : List Nat} {K : KT} {P : PT} {J : IT} {res : IT} (C0 : FC D cy B p s m meth c "RejudgeHallModel" cX8_judges 7) (hr : meth.sig.returnType = none) (hWT : WT K P) : G_X8_judges_194 p l e s m args below meth c D cy B L K P J res (f_X8_judges_194 K P ) := by
  intro I a0 x1 x2 t0 t1 b2 H locs ls ka0 rx1 rx2 rt0 rt1 kb2 hF hl hf
  unfold f_X8_judges_194 at hf
  obtain ⟨hc, hf⟩ := ck_f hf
  refine fl_iast (n := 60) C0 hF kb2 rt1 rt0 hc dX8_judges_194 (fun H locs hF12 => ?_)
  obtain ⟨I12, eI12, hf⟩ := bnd_f hf
  rw [eI12] at hF12
  refine lv_aload_n C0.1 C0.2.1 dX8_judges_195 rfl (lv_at hl 0 rfl) ?_
  refine fl_getr (k := 20) (t := 340) ck_9 C0 hF12 ka0 rfl (wt_at (k := 20) (t := 340) hWT ka0 rfl) rfl ⟨rfl, rfl⟩ aw_894 dX8_judges_196 ?_
  refine lv_iload_n C0.1 C0.2.1 dX8_judges_199 rfl (lv_at hl 1 rfl) ?_
  refine lv_aload_n C0.1 C0.2.1 dX8_judges_200 rfl (lv_at hl 0 rfl) ?_
  refine fl_getr (k := 9) (t := 124) ck_9 C0 hF12 ka0 rfl (wt_at (k := 9) (t := 124) hWT ka0 rfl) rfl ⟨rfl, rfl⟩ aw_883 dX8_judges_201 ?_
  refine lv_iload_n C0.1 C0.2.1 dX8_judges_204 rfl (lv_at hl 2 rfl) ?_
  obtain ⟨hc, hf⟩ := ck_f hf
  refine fl_iald (n := 6) C0 hF12 (wt_at (k := 9) (t := 124) hWT ka0 rfl) rx2 hc dX8_judges_205 ?_
  obtain ⟨hc, hf⟩ := ck_f hf
  refine fl_iast (n := 60) C0 hF12 (wt_at (k := 20) (t := 340) hWT ka0 rfl) rx1 (hF12.rI _ _) hc dX8_judges_206 (fun H locs hF13 => ?_)
  obtain ⟨I13, eI13, hf⟩ := bnd_f hf
  rw [eI13] at hF13
  refine lv_aload_n C0.1 C0.2.1 dX8_judges_207 rfl (lv_at hl 0 rfl) ?_
  refine fl_getr (k := 21) (t := 132) ck_9 C0 hF13 ka0 rfl (wt_at (k := 21) (t := 132) hWT ka0 rfl) rfl ⟨rfl, rfl⟩ aw_895 dX8_judges_208 ?_
  refine lv_aload_n C0.1 C0.2.1 dX8_judges_211 rfl (lv_at hl 0 rfl) ?_
  refine fl_getr (k := 14) (t := 340) ck_9 C0 hF13 ka0 rfl (wt_at (k := 14) (t := 340) hWT ka0 rfl) rfl ⟨rfl, rfl⟩ aw_888 dX8_judges_212 ?_
  refine lv_iload_n C0.1 C0.2.1 dX8_judges_215 rfl (lv_at hl 1 rfl) ?_
  obtain ⟨hc, hf⟩ := ck_f hf
  refine fl_iald (n := 60) C0 hF13 (wt_at (k := 14) (t := 340) hWT ka0 rfl) rx1 hc dX8_judges_216 ?_
  refine lv_dup2_11 C0.1 C0.2.1 dX8_judges_217 rfl rfl ?_
  obtain ⟨hc, hf⟩ := ck_f hf
  refine fl_iald (n := 8) C0 hF13 (wt_at (k := 21) (t := 132) hWT ka0 rfl) (hF13.rI _ _) hc dX8_judges_218 ?_
  refine fl_iconst C0 dX8_judges_219 ?_
  refine fl_iadd C0 dX8_judges_220 ?_
  obtain ⟨hc, hf⟩ := ck_f hf
  refine fl_iast (n := 8) C0 hF13 (wt_at (k := 21) (t := 132) hWT ka0 rfl) (hF13.rI _ _) (rg_wr _) hc dX8_judges_221 (fun H locs hF14 => ?_)
  obtain ⟨I14, eI14, hf⟩ := bnd_f hf
  rw [eI14] at hF14
  cases hf
  exact fl_vret C0 hF14 hr rfl dX8_judges_222
set_option maxRecDepth 100000 in
set_option maxHeartbeats 4000000 in
theorem b_X8_judges_144 {p : Program} {l : Launch} {e : Env} {s : State} {m : MethodId} {args : Array Value} {below : List Frame} {meth : Method} {c : Code} {D : va_G} {cy : Nat → ClassId} {B : Nat} {L : List Nat} {K : KT} {P : PT} {J : IT} {res : IT} (C0 : FC D cy B p s m meth c "RejudgeHallModel" cX8_judges 7) (hr : meth.sig.returnType = none) (hWT : WT K P) : G_X8_judges_144 p l e s m args below meth c D cy B L K P J res (f_X8_judges_144 K P ) := by
  intro I a0 x1 x2 H locs ls ka0 rx1 rx2 hF hl hf
  unfold f_X8_judges_144 at hf
  refine lv_aload_n C0.1 C0.2.1 dX8_judges_144 rfl (lv_at hl 0 rfl) ?_
  refine fl_getr (k := 18) (t := 340) ck_9 C0 hF ka0 rfl (wt_at (k := 18) (t := 340) hWT ka0 rfl) rfl ⟨rfl, rfl⟩ aw_892 dX8_judges_145 ?_
  refine lv_iload_n C0.1 C0.2.1 dX8_judges_148 rfl (lv_at hl 1 rfl) ?_
  refine lv_aload_n C0.1 C0.2.1 dX8_judges_149 rfl (lv_at hl 0 rfl) ?_
  refine lv_iload_n C0.1 C0.2.1 dX8_judges_150 rfl (lv_at hl 1 rfl) ?_
  obtain ⟨r7, I7, hq7, hf⟩ := bi_f hf
  refine fl_ri hF (fl_runV (As := [iv x1]) (rest := [iv x1, .ref (P a0 18)]) C0 hF hl.1 ck_9 ka0 rfl (c_X8_firstFailed l D cy B L K P J hWT I a0 x1 ka0 rx1 hq7) aw_1103 aw_1105 aw_54 aw_73 aw_1106 rfl rfl pm_X8_firstFailed rfl rfl ⟨Nat.le_of_ble_eq_true rfl, Nat.le_of_ble_eq_true rfl⟩ rfl (Nat.le_of_ble_eq_true rfl) dX8_judges_151 ⟨Nat.le_of_ble_eq_true rfl, Nat.le_of_ble_eq_true rfl⟩) (fun H locs hF7 rr7 => ?_)
  obtain ⟨hc, hf⟩ := ck_f hf
  refine fl_iast (n := 60) C0 hF7 (wt_at (k := 18) (t := 340) hWT ka0 rfl) rx1 rr7 hc dX8_judges_154 (fun H locs hF8 => ?_)
  obtain ⟨I8, eI8, hf⟩ := bnd_f hf
  rw [eI8] at hF8
  refine lv_aload_n C0.1 C0.2.1 dX8_judges_155 rfl (lv_at hl 0 rfl) ?_
  refine fl_getr (k := 17) (t := 340) ck_9 C0 hF8 ka0 rfl (wt_at (k := 17) (t := 340) hWT ka0 rfl) rfl ⟨rfl, rfl⟩ aw_891 dX8_judges_156 ?_
  refine lv_iload_n C0.1 C0.2.1 dX8_judges_159 rfl (lv_at hl 1 rfl) ?_
  refine lv_aload_n C0.1 C0.2.1 dX8_judges_160 rfl (lv_at hl 0 rfl) ?_
  refine fl_getr (k := 18) (t := 340) ck_9 C0 hF8 ka0 rfl (wt_at (k := 18) (t := 340) hWT ka0 rfl) rfl ⟨rfl, rfl⟩ aw_892 dX8_judges_161 ?_
  refine lv_iload_n C0.1 C0.2.1 dX8_judges_164 rfl (lv_at hl 1 rfl) ?_
  obtain ⟨hc, hf⟩ := ck_f hf
  refine fl_iald (n := 60) C0 hF8 (wt_at (k := 18) (t := 340) hWT ka0 rfl) rx1 hc dX8_judges_165 ?_
  refine fl_iconst C0 dX8_judges_166 ?_
  refine fl_icmp_ne (tgt := 174) C0 (hF8.rI _ _) (rgk (-1) rfl) dX8_judges_167 (by decide) (fun c9 => ?_) (fun c9 => ?_)
  · replace hf := (if_neg c9).symm.trans hf
    refine lv_aload_n C0.1 C0.2.1 dX8_judges_174 rfl (lv_at hl 0 rfl) ?_
    refine lv_iload_n C0.1 C0.2.1 dX8_judges_175 rfl (lv_at hl 2 rfl) ?_
    refine fl_bipush C0 dX8_judges_176 (by decide) ?_
    refine lv_iload_n C0.1 C0.2.1 dX8_judges_178 rfl (lv_at hl 1 rfl) ?_
    refine fl_iadd C0 dX8_judges_179 ?_
    refine fl_bipush C0 dX8_judges_180 (by decide) ?_
    refine lv_iload_n C0.1 C0.2.1 dX8_judges_182 rfl (lv_at hl 2 rfl) ?_
    refine fl_imul C0 dX8_judges_183 ?_
    refine lv_aload_n C0.1 C0.2.1 dX8_judges_184 rfl (lv_at hl 0 rfl) ?_
    refine fl_getr (k := 18) (t := 340) ck_9 C0 hF8 ka0 rfl (wt_at (k := 18) (t := 340) hWT ka0 rfl) rfl ⟨rfl, rfl⟩ aw_892 dX8_judges_185 ?_
    refine lv_iload_n C0.1 C0.2.1 dX8_judges_188 rfl (lv_at hl 1 rfl) ?_
    obtain ⟨hc, hf⟩ := ck_f hf
    refine fl_iald (n := 60) C0 hF8 (wt_at (k := 18) (t := 340) hWT ka0 rfl) rx1 hc dX8_judges_189 ?_
    refine fl_iadd C0 dX8_judges_190 ?_
    obtain ⟨r10, I10, hq10, hf⟩ := bi_f hf
    refine fl_ri hF8 (fl_runV (As := [iv x2, iv (wr (7 + x1)), iv (wr ((wr (12 * x2)) + (I8 ((P a0 18)) (x1 : Int).toNat)))]) (rest := [iv x1, .ref (P a0 17)]) C0 hF8 hl.1 ck_9 ka0 rfl (c_X8_does l D cy B L K P J hWT I8 a0 x2 ((wr (7 + x1))) ((wr ((wr (12 * x2)) + (I8 ((P a0 18)) (x1 : Int).toNat)))) ka0 rx2 ((rg_wr _)) ((rg_wr _)) hq10) aw_1099 aw_1101 aw_53 aw_73 aw_1102 rfl rfl pm_X8_does rfl rfl ⟨Nat.le_of_ble_eq_true rfl, Nat.le_of_ble_eq_true rfl⟩ rfl (Nat.le_of_ble_eq_true rfl) dX8_judges_191 ⟨Nat.le_of_ble_eq_true rfl, Nat.le_of_ble_eq_true rfl⟩) (fun H locs hF10 rr10 => ?_)
    exact b_X8_judges_194 C0 hr hWT  I10 a0 x1 x2 r10 x1 ((P a0 17)) _ _ _ ka0 rx1 rx2 rr10 rx1 ((wt_at (k := 17) (t := 340) hWT ka0 rfl)) hF10 (lv_sub hl [0, 1, 2] rfl) hf
  · replace hf := (if_pos c9).symm.trans hf
    refine fl_iconst C0 dX8_judges_170 ?_
    refine fl_goto (tgt := 194) C0 dX8_judges_171 (by decide) ?_
    exact b_X8_judges_194 C0 hr hWT  I8 a0 x1 x2 0 x1 ((P a0 17)) _ _ _ ka0 rx1 rx2 ((rgk 0 rfl)) rx1 ((wt_at (k := 17) (t := 340) hWT ka0 rfl)) hF8 (lv_sub hl [0, 1, 2] rfl) hf
set_option maxRecDepth 100000 in
set_option maxHeartbeats 4000000 in
theorem b_X8_judges_93 {p : Program} {l : Launch} {e : Env} {s : State} {m : MethodId} {args : Array Value} {below : List Frame} {meth : Method} {c : Code} {D : va_G} {cy : Nat → ClassId} {B : Nat} {L : List Nat} {K : KT} {P : PT} {J : IT} {res : IT} (C0 : FC D cy B p s m meth c "RejudgeHallModel" cX8_judges 7) (hr : meth.sig.returnType = none) (hWT : WT K P) : ∀ n : Nat, G_X8_judges_93 p l e s m args below meth c D cy B L K P J res (f_X8_judges_93 K P  n)
  | 0 => by
    intro I a0 x1 x2 x3 x4 x5 H locs ls ka0 rx1 rx2 rx3 rx4 rx5 hF hl hf
    cases hf
  | n + 1 => by
    have ih : G_X8_judges_93 p l e s m args below meth c D cy B L K P J res (f_X8_judges_93 K P  n)  := b_X8_judges_93 C0 hr hWT  n
    intro I a0 x1 x2 x3 x4 x5 H locs ls ka0 rx1 rx2 rx3 rx4 rx5 hF hl hf
    rw [f_X8_judges_93] at hf
    refine lv_iload C0.1 C0.2.1 dX8_judges_93 (lv_at hl 5 rfl) ?_
    refine fl_iconst C0 dX8_judges_95 ?_
    refine fl_icmp_ge (tgt := 144) C0 rx5 (rgk 4 rfl) dX8_judges_96 (by decide) (fun c5 => ?_) (fun c5 => ?_)
    · replace hf := (if_pos c5).symm.trans hf
      exact b_X8_judges_144 C0 hr hWT  I a0 x1 x2 _ _ _ ka0 rx1 rx2 hF (lv_sub hl [0, 1, 2] rfl) hf
    · replace hf := (if_neg c5).symm.trans hf
      refine lv_aload_n C0.1 C0.2.1 dX8_judges_99 rfl (lv_at hl 0 rfl) ?_
      refine fl_getr (k := 19) (t := 340) ck_9 C0 hF ka0 rfl (wt_at (k := 19) (t := 340) hWT ka0 rfl) rfl ⟨rfl, rfl⟩ aw_893 dX8_judges_100 ?_
      refine lv_iload_n C0.1 C0.2.1 dX8_judges_103 rfl (lv_at hl 1 rfl) ?_
      refine lv_dup2_11 C0.1 C0.2.1 dX8_judges_104 rfl rfl ?_
      obtain ⟨hc, hf⟩ := ck_f hf
      refine fl_iald (n := 60) C0 hF (wt_at (k := 19) (t := 340) hWT ka0 rfl) rx1 hc dX8_judges_105 ?_
      refine lv_iload C0.1 C0.2.1 dX8_judges_106 (lv_at hl 4 rfl) ?_
      refine lv_iload_n C0.1 C0.2.1 dX8_judges_108 rfl (lv_at hl 3 rfl) ?_
      refine fl_iconst C0 dX8_judges_109 ?_
      refine fl_ixor C0 dX8_judges_110 ?_
      refine fl_iand C0 dX8_judges_111 ?_
      refine lv_iload C0.1 C0.2.1 dX8_judges_112 (lv_at hl 5 rfl) ?_
      refine fl_ishr C0 dX8_judges_114 ?_
      refine fl_iconst C0 dX8_judges_115 ?_
      refine fl_iand C0 dX8_judges_116 ?_
      refine fl_iconst C0 dX8_judges_117 ?_
      refine fl_icmp_ne (tgt := 135) C0 (rg_ban _ _) (rgk 1 rfl) dX8_judges_118 (by decide) (fun c6 => ?_) (fun c6 => ?_)
      · replace hf := (if_neg c6).symm.trans hf
        refine fl_iconst C0 dX8_judges_135 ?_
        exact b_X8_judges_136 C0 hr hWT ih I a0 x1 x2 x3 x4 x5 0 ((I ((P a0 19)) (x1 : Int).toNat)) x1 ((P a0 19)) _ _ _ ka0 rx1 rx2 rx3 rx4 rx5 ((rgk 0 rfl)) ((hF.rI _ _)) rx1 ((wt_at (k := 19) (t := 340) hWT ka0 rfl)) hF (lv_sub hl [0, 1, 2, 3, 4, 5] rfl) hf
      · replace hf := (if_pos c6).symm.trans hf
        refine lv_aload_n C0.1 C0.2.1 dX8_judges_121 rfl (lv_at hl 0 rfl) ?_
        refine fl_getr (k := 12) (t := 196) ck_9 C0 hF ka0 rfl (wt_at (k := 12) (t := 196) hWT ka0 rfl) rfl ⟨rfl, rfl⟩ aw_886 dX8_judges_122 ?_
        refine fl_iconst C0 dX8_judges_125 ?_
        refine lv_iload_n C0.1 C0.2.1 dX8_judges_126 rfl (lv_at hl 2 rfl) ?_
        refine fl_imul C0 dX8_judges_127 ?_
        refine lv_iload C0.1 C0.2.1 dX8_judges_128 (lv_at hl 5 rfl) ?_
        refine fl_iadd C0 dX8_judges_130 ?_
        obtain ⟨hc, hf⟩ := ck_f hf
        refine fl_iald (n := 24) C0 hF (wt_at (k := 12) (t := 196) hWT ka0 rfl) (rg_wr _) hc dX8_judges_131 ?_
        refine fl_goto (tgt := 136) C0 dX8_judges_132 (by decide) ?_
        exact b_X8_judges_136 C0 hr hWT ih I a0 x1 x2 x3 x4 x5 ((I ((P a0 12)) ((wr ((wr (4 * x2)) + x5)) : Int).toNat)) ((I ((P a0 19)) (x1 : Int).toNat)) x1 ((P a0 19)) _ _ _ ka0 rx1 rx2 rx3 rx4 rx5 ((hF.rI _ _)) ((hF.rI _ _)) rx1 ((wt_at (k := 19) (t := 340) hWT ka0 rfl)) hF (lv_sub hl [0, 1, 2, 3, 4, 5] rfl) hf
set_option maxRecDepth 100000 in
set_option maxHeartbeats 4000000 in
theorem b_X8_judges_83 {p : Program} {l : Launch} {e : Env} {s : State} {m : MethodId} {args : Array Value} {below : List Frame} {meth : Method} {c : Code} {D : va_G} {cy : Nat → ClassId} {B : Nat} {L : List Nat} {K : KT} {P : PT} {J : IT} {res : IT} (C0 : FC D cy B p s m meth c "RejudgeHallModel" cX8_judges 7) (hr : meth.sig.returnType = none) (hWT : WT K P) : G_X8_judges_83 p l e s m args below meth c D cy B L K P J res (f_X8_judges_83 K P ) := by
  intro I a0 x1 x2 x3 x4 H locs ls ka0 rx1 rx2 rx3 rx4 hF hl hf
  unfold f_X8_judges_83 at hf
  refine lv_aload_n C0.1 C0.2.1 dX8_judges_83 rfl (lv_at hl 0 rfl) ?_
  refine fl_getr (k := 19) (t := 340) ck_9 C0 hF ka0 rfl (wt_at (k := 19) (t := 340) hWT ka0 rfl) rfl ⟨rfl, rfl⟩ aw_893 dX8_judges_84 ?_
  refine lv_iload_n C0.1 C0.2.1 dX8_judges_87 rfl (lv_at hl 1 rfl) ?_
  refine fl_iconst C0 dX8_judges_88 ?_
  obtain ⟨hc, hf⟩ := ck_f hf
  refine fl_iast (n := 60) C0 hF (wt_at (k := 19) (t := 340) hWT ka0 rfl) rx1 (rgk 0 rfl) hc dX8_judges_89 (fun H locs hF4 => ?_)
  obtain ⟨I4, eI4, hf⟩ := bnd_f hf
  rw [eI4] at hF4
  refine fl_iconst C0 dX8_judges_90 ?_
  refine lv_istore (lv' := [(5, iv 0), (0, .ref a0), (1, iv x1), (2, iv x2), (3, iv x3), (4, iv x4)]) C0.1 C0.2.1 dX8_judges_91 hl (by decide) rfl (fun ls hl => ?_)
  exact b_X8_judges_93 C0 hr hWT  FU I4 a0 x1 x2 x3 x4 0 _ _ _ ka0 rx1 rx2 rx3 rx4 ((rgk 0 rfl)) hF4 (lv_sub hl [1, 2, 3, 4, 5, 0] rfl) hf
set_option maxRecDepth 100000 in
set_option maxHeartbeats 4000000 in
theorem b_X8_judges_15 {p : Program} {l : Launch} {e : Env} {s : State} {m : MethodId} {args : Array Value} {below : List Frame} {meth : Method} {c : Code} {D : va_G} {cy : Nat → ClassId} {B : Nat} {L : List Nat} {K : KT} {P : PT} {J : IT} {res : IT} (C0 : FC D cy B p s m meth c "RejudgeHallModel" cX8_judges 7) (hr : meth.sig.returnType = none) (hWT : WT K P) : ∀ n : Nat, G_X8_judges_15 p l e s m args below meth c D cy B L K P J res (f_X8_judges_15 K P  n)
  | 0 => by
    intro I a0 x1 x2 x3 x4 x5 H locs ls ka0 rx1 rx2 rx3 rx4 rx5 hF hl hf
    cases hf
  | n + 1 => by
    have ih : G_X8_judges_15 p l e s m args below meth c D cy B L K P J res (f_X8_judges_15 K P  n)  := b_X8_judges_15 C0 hr hWT  n
    intro I a0 x1 x2 x3 x4 x5 H locs ls ka0 rx1 rx2 rx3 rx4 rx5 hF hl hf
    rw [f_X8_judges_15] at hf
    refine lv_iload C0.1 C0.2.1 dX8_judges_15 (lv_at hl 5 rfl) ?_
    refine lv_aload_n C0.1 C0.2.1 dX8_judges_17 rfl (lv_at hl 0 rfl) ?_
    refine fl_getr (k := 10) (t := 124) ck_9 C0 hF ka0 rfl (wt_at (k := 10) (t := 124) hWT ka0 rfl) rfl ⟨rfl, rfl⟩ aw_884 dX8_judges_18 ?_
    refine lv_iload_n C0.1 C0.2.1 dX8_judges_21 rfl (lv_at hl 2 rfl) ?_
    obtain ⟨hc, hf⟩ := ck_f hf
    refine fl_iald (n := 6) C0 hF (wt_at (k := 10) (t := 124) hWT ka0 rfl) rx2 hc dX8_judges_22 ?_
    refine fl_icmp_ge (tgt := 83) C0 rx5 (hF.rI _ _) dX8_judges_23 (by decide) (fun c1 => ?_) (fun c1 => ?_)
    · replace hf := (if_pos c1).symm.trans hf
      exact b_X8_judges_83 C0 hr hWT  I a0 x1 x2 x3 x4 _ _ _ ka0 rx1 rx2 rx3 rx4 hF (lv_sub hl [0, 1, 2, 3, 4] rfl) hf
    · replace hf := (if_neg c1).symm.trans hf
      refine fl_iconst C0 dX8_judges_26 ?_
      refine lv_aload_n C0.1 C0.2.1 dX8_judges_27 rfl (lv_at hl 0 rfl) ?_
      refine fl_getr (k := 11) (t := 388) ck_9 C0 hF ka0 rfl (wt_at (k := 11) (t := 388) hWT ka0 rfl) rfl ⟨rfl, rfl⟩ aw_885 dX8_judges_28 ?_
      refine fl_bipush C0 dX8_judges_31 (by decide) ?_
      refine lv_iload_n C0.1 C0.2.1 dX8_judges_33 rfl (lv_at hl 2 rfl) ?_
      refine fl_imul C0 dX8_judges_34 ?_
      refine lv_iload C0.1 C0.2.1 dX8_judges_35 (lv_at hl 5 rfl) ?_
      refine fl_iadd C0 dX8_judges_37 ?_
      obtain ⟨hc, hf⟩ := ck_f hf
      refine fl_iald (n := 72) C0 hF (wt_at (k := 11) (t := 388) hWT ka0 rfl) (rg_wr _) hc dX8_judges_38 ?_
      refine fl_ishl C0 dX8_judges_39 ?_
      refine lv_istore (lv' := [(6, iv (bsl 1 (I ((P a0 11)) ((wr ((wr (12 * x2)) + x5)) : Int).toNat))), (0, .ref a0), (1, iv x1), (2, iv x2), (3, iv x3), (4, iv x4), (5, iv x5)]) C0.1 C0.2.1 dX8_judges_40 hl (by decide) rfl (fun ls hl => ?_)
      refine lv_iload C0.1 C0.2.1 dX8_judges_42 (lv_at hl 5 rfl) ?_
      refine lv_iload C0.1 C0.2.1 dX8_judges_44 (lv_at hl 0 rfl) ?_
      refine fl_ior C0 dX8_judges_46 ?_
      refine lv_istore (lv' := [(4, iv (bor x4 (bsl 1 (I ((P a0 11)) ((wr ((wr (12 * x2)) + x5)) : Int).toNat)))), (6, iv (bsl 1 (I ((P a0 11)) ((wr ((wr (12 * x2)) + x5)) : Int).toNat))), (0, .ref a0), (1, iv x1), (2, iv x2), (3, iv x3), (5, iv x5)]) C0.1 C0.2.1 dX8_judges_47 hl (by decide) rfl (fun ls hl => ?_)
      refine lv_iload_n C0.1 C0.2.1 dX8_judges_49 rfl (lv_at hl 5 rfl) ?_
      refine lv_aload_n C0.1 C0.2.1 dX8_judges_50 rfl (lv_at hl 2 rfl) ?_
      refine lv_iload_n C0.1 C0.2.1 dX8_judges_51 rfl (lv_at hl 4 rfl) ?_
      refine fl_bipush C0 dX8_judges_52 (by decide) ?_
      refine lv_iload_n C0.1 C0.2.1 dX8_judges_54 rfl (lv_at hl 3 rfl) ?_
      refine fl_iadd C0 dX8_judges_55 ?_
      refine fl_bipush C0 dX8_judges_56 (by decide) ?_
      refine lv_iload_n C0.1 C0.2.1 dX8_judges_58 rfl (lv_at hl 4 rfl) ?_
      refine fl_imul C0 dX8_judges_59 ?_
      refine lv_iload C0.1 C0.2.1 dX8_judges_60 (lv_at hl 6 rfl) ?_
      refine fl_iadd C0 dX8_judges_62 ?_
      obtain ⟨r2, I2, hq2, hf⟩ := bi_f hf
      refine fl_ri hF (fl_runV (As := [iv x2, iv (wr (7 + x1)), iv (wr ((wr (12 * x2)) + x5))]) (rest := [iv x3]) C0 hF hl.1 ck_9 ka0 rfl (c_X8_does l D cy B L K P J hWT I a0 x2 ((wr (7 + x1))) ((wr ((wr (12 * x2)) + x5))) ka0 rx2 ((rg_wr _)) ((rg_wr _)) hq2) aw_1099 aw_1101 aw_53 aw_73 aw_1102 rfl rfl pm_X8_does rfl rfl ⟨Nat.le_of_ble_eq_true rfl, Nat.le_of_ble_eq_true rfl⟩ rfl (Nat.le_of_ble_eq_true rfl) dX8_judges_63 ⟨Nat.le_of_ble_eq_true rfl, Nat.le_of_ble_eq_true rfl⟩) (fun H locs hF2 rr2 => ?_)
      refine fl_if_ne (tgt := 73) C0 rr2 dX8_judges_66 (by decide) (fun c3 => ?_) (fun c3 => ?_)
      · replace hf := (if_neg c3).symm.trans hf
        refine lv_iload C0.1 C0.2.1 dX8_judges_73 (lv_at hl 1 rfl) ?_
        exact b_X8_judges_75 C0 hr hWT ih I2 a0 x1 x2 ((bor x4 (bsl 1 (I ((P a0 11)) ((wr ((wr (12 * x2)) + x5)) : Int).toNat)))) x5 ((bsl 1 (I ((P a0 11)) ((wr ((wr (12 * x2)) + x5)) : Int).toNat))) x3 _ _ _ ka0 rx1 rx2 ((rg_bor _ _)) rx5 ((rg_bsl _ _)) rx3 hF2 (lv_sub hl [2, 3, 4, 0, 6] rfl) hf
      · replace hf := (if_pos c3).symm.trans hf
        refine fl_iconst C0 dX8_judges_69 ?_
        refine fl_goto (tgt := 75) C0 dX8_judges_70 (by decide) ?_
        exact b_X8_judges_75 C0 hr hWT ih I2 a0 x1 x2 ((bor x4 (bsl 1 (I ((P a0 11)) ((wr ((wr (12 * x2)) + x5)) : Int).toNat)))) x5 0 x3 _ _ _ ka0 rx1 rx2 ((rg_bor _ _)) rx5 ((rgk 0 rfl)) rx3 hF2 (lv_sub hl [2, 3, 4, 0, 6] rfl) hf
theorem pm_X8_judges : plainM yX8_judges 1 := by decide +kernel
set_option maxRecDepth 100000 in
set_option maxHeartbeats 4000000 in
theorem c_X8_judges (l : Launch) (D : va_G) (cy : Nat → ClassId) (B : Nat) (L : List Nat) (K : KT) (P : PT) (J : IT) (hWT : WT K P) (I : IT) (a0 : Nat) (x1 : Int) (ka0 : K a0 = 9) (rx1 : rg x1) {I' : IT} (hf : f_X8_judges K P I a0 x1 = some I') : Met l yX8_judges [.code yX8_judges cX8_judges 7 none] rm_X8_judges (va_Pc [.ref a0, iv x1] (FW D cy B L K P J I)) (QV D cy B L K P J I') 0 0 (fun q => B ≤ q) := by
  refine fl_body (own := "RejudgeHallModel") [.ref a0, iv x1] (by decide) rfl (Nat.le_of_ble_eq_true rfl) ?_
  intro p e s m args below meth c ls C0 hr hF hl
  have hl : lv_has ls 7 [(0, .ref a0), (1, iv x1)] := hl
  unfold f_X8_judges at hf
  refine lv_aload_n C0.1 C0.2.1 dX8_judges_0 rfl (lv_at hl 0 rfl) ?_
  refine fl_getr (k := 15) (t := 340) ck_9 C0 hF ka0 rfl (wt_at (k := 15) (t := 340) hWT ka0 rfl) rfl ⟨rfl, rfl⟩ aw_889 dX8_judges_1 ?_
  refine lv_iload_n C0.1 C0.2.1 dX8_judges_4 rfl (lv_at hl 1 rfl) ?_
  obtain ⟨hc, hf⟩ := ck_f hf
  refine fl_iald (n := 60) C0 hF (wt_at (k := 15) (t := 340) hWT ka0 rfl) rx1 hc dX8_judges_5 ?_
  refine lv_istore_n (lv' := [(2, iv (I ((P a0 15)) (x1 : Int).toNat)), (0, .ref a0), (1, iv x1)]) C0.1 C0.2.1 dX8_judges_6 rfl hl (by decide) rfl (fun ls hl => ?_)
  refine fl_iconst C0 dX8_judges_7 ?_
  refine lv_istore_n (lv' := [(3, iv 0), (2, iv (I ((P a0 15)) (x1 : Int).toNat)), (0, .ref a0), (1, iv x1)]) C0.1 C0.2.1 dX8_judges_8 rfl hl (by decide) rfl (fun ls hl => ?_)
  refine fl_iconst C0 dX8_judges_9 ?_
  refine lv_istore (lv' := [(4, iv 0), (3, iv 0), (2, iv (I ((P a0 15)) (x1 : Int).toNat)), (0, .ref a0), (1, iv x1)]) C0.1 C0.2.1 dX8_judges_10 hl (by decide) rfl (fun ls hl => ?_)
  refine fl_iconst C0 dX8_judges_12 ?_
  refine lv_istore (lv' := [(5, iv 0), (4, iv 0), (3, iv 0), (2, iv (I ((P a0 15)) (x1 : Int).toNat)), (0, .ref a0), (1, iv x1)]) C0.1 C0.2.1 dX8_judges_13 hl (by decide) rfl (fun ls hl => ?_)
  exact b_X8_judges_15 C0 hr hWT  FU I a0 x1 ((I ((P a0 15)) (x1 : Int).toNat)) 0 0 0 _ _ _ ka0 rx1 ((hF.rI _ _)) ((rgk 0 rfl)) ((rgk 0 rfl)) ((rgk 0 rfl)) hF (lv_sub hl [4, 5, 3, 2, 1, 0] rfl) hf
-- RejudgeHallModel.enter(II)I
abbrev rm_X8_enter : Room := { frames := 2, cells := 0, slots := 0, locals := 43 }
def f_X8_enter_34 (K : KT) (P : PT) (I : IT) (a0 : Nat) (x1 : Int) (x2 : Int) (t0 : Int) (b1 : Nat) : Option (Int × IT) := bnd (up I b1 38 t0) fun I6 => if (I6 a0 38) ≤ 0 then (ck (0 ≤ (I6 a0 13) ∧ (I6 a0 13) < 60) <| bnd (up I6 ((P a0 14)) ((I6 a0 13) : Int).toNat x1) fun I8 => ck (0 ≤ (I8 a0 13) ∧ (I8 a0 13) < 60) <| bnd (up I8 ((P a0 15)) ((I8 a0 13) : Int).toNat x2) fun I9 => ck (0 ≤ (I9 a0 13) ∧ (I9 a0 13) < 60) <| bnd (up I9 ((P a0 16)) ((I9 a0 13) : Int).toNat (I9 a0 0)) fun I10 => ck (0 ≤ (I10 a0 13) ∧ (I10 a0 13) < 60) <| bnd (up I10 ((P a0 17)) ((I10 a0 13) : Int).toNat (-1)) fun I11 => bp (f_X8_copies K P I11 a0 0 ((wr (7 + (I11 a0 13))))) fun I12 => bp (f_X8_empties K P I12 a0 0) fun I13 => bnd (up I13 a0 13 (wr ((I13 a0 13) + 1))) fun I14 => some ((wr ((I14 a0 13) - 1)), I14)) else (some (0, I6))
def f_X8_enter_16 (K : KT) (P : PT) (I : IT) (a0 : Nat) (x1 : Int) (x2 : Int) (b0 : Nat) : Option (Int × IT) := f_X8_enter_34 K P  I a0 x1 x2 1 b0
def f_X8_enter (K : KT) (P : PT) (I : IT) (a0 : Nat) (x1 : Int) (x2 : Int) : Option (Int × IT) := bp (f_X8_isTeam K P I x1) fun r1 => if r1 = 0 then (f_X8_enter_16 K P  I a0 x1 x2 a0) else (bp (f_X8_isProblem K P I a0 x2) fun r3 => if r3 = 0 then (f_X8_enter_16 K P  I a0 x1 x2 a0) else (if (I a0 13) = 60 then (f_X8_enter_34 K P  I a0 x1 x2 2 a0) else (f_X8_enter_34 K P  I a0 x1 x2 0 a0)))
abbrev G_X8_enter_34 (p : Program) (l : Launch) (e : Env) (s : State) (m : MethodId) (args : Array Value) (below : List Frame) (meth : Method) (c : Code) (D : va_G) (cy : Nat → ClassId) (B : Nat) (L : List Nat) (K : KT) (P : PT) (J : IT) (res : Int × IT) (f : IT → Nat → Int → Int → Int → Nat → Option (Int × IT)) : Prop := ∀ (I : IT) (a0 : Nat) (x1 : Int) (x2 : Int) (t0 : Int) (b1 : Nat) (H : Heap) (locs : List Loc) (ls : Array Slot), K a0 = 9 → rg x1 → rg x2 → rg t0 → K b1 = 9 → FS D cy B L K P J s.heap I H locs → lv_has ls 3 [(0, .ref a0), (1, iv x1), (2, iv x2)] → f I a0 x1 x2 t0 b1 = some res → W p l e rm_X8_enter s m args below meth c H locs 0 0 (MQ below (QI D cy B L K P J res) args s 0 0 (fun q => B ≤ q)) (F0 m 34 ls [iv t0, .ref b1])
abbrev G_X8_enter_16 (p : Program) (l : Launch) (e : Env) (s : State) (m : MethodId) (args : Array Value) (below : List Frame) (meth : Method) (c : Code) (D : va_G) (cy : Nat → ClassId) (B : Nat) (L : List Nat) (K : KT) (P : PT) (J : IT) (res : Int × IT) (f : IT → Nat → Int → Int → Nat → Option (Int × IT)) : Prop := ∀ (I : IT) (a0 : Nat) (x1 : Int) (x2 : Int) (b0 : Nat) (H : Heap) (locs : List Loc) (ls : Array Slot), K a0 = 9 → rg x1 → rg x2 → K b0 = 9 → FS D cy B L K P J s.heap I H locs → lv_has ls 3 [(0, .ref a0), (1, iv x1), (2, iv x2)] → f I a0 x1 x2 b0 = some res → W p l e rm_X8_enter s m args below meth c H locs 0 0 (MQ below (QI D cy B L K P J res) args s 0 0 (fun q => B ≤ q)) (F0 m 16 ls [.ref b0])
set_option maxRecDepth 100000 in
set_option maxHeartbeats 4000000 in
theorem b_X8_enter_34 {p : Program} {l : Launch} {e : Env} {s : State} {m : MethodId} {args : Array Value} {below : List Frame} {meth : Method} {c : Code} {D : va_G} {cy : Nat → ClassId} {B : Nat} {L : List Nat} {K : KT} {P : PT} {J : IT} {res : Int × IT} (C0 : FC D cy B p s m meth c "RejudgeHallModel" cX8_enter 3) (hr : meth.sig.returnType = (some .int)) (hWT : WT K P) : G_X8_enter_34 p l e s m args below meth c D cy B L K P J res (f_X8_enter_34 K P ) := by
  intro I a0 x1 x2 t0 b1 H locs ls ka0 rx1 rx2 rt0 kb1 hF hl hf
  unfold f_X8_enter_34 at hf
  refine fl_puti (k := 38) ck_9 C0 hF kb1 rfl rt0 ⟨rfl, rfl, rfl⟩ aw_912 dX8_enter_34 (fun H locs hF6 => ?_)
  obtain ⟨I6, eI6, hf⟩ := bnd_f hf
  rw [eI6] at hF6
  refine lv_aload_n C0.1 C0.2.1 dX8_enter_37 rfl (lv_at hl 0 rfl) ?_
  refine fl_geti (k := 38) ck_9 C0 hF6 ka0 rfl ⟨rfl, rfl⟩ aw_912 dX8_enter_38 ?_
  refine fl_if_le (tgt := 46) C0 (hF6.rI _ _) dX8_enter_41 (by decide) (fun c7 => ?_) (fun c7 => ?_)
  · replace hf := (if_pos c7).symm.trans hf
    refine lv_aload_n C0.1 C0.2.1 dX8_enter_46 rfl (lv_at hl 0 rfl) ?_
    refine fl_getr (k := 14) (t := 340) ck_9 C0 hF6 ka0 rfl (wt_at (k := 14) (t := 340) hWT ka0 rfl) rfl ⟨rfl, rfl⟩ aw_888 dX8_enter_47 ?_
    refine lv_aload_n C0.1 C0.2.1 dX8_enter_50 rfl (lv_at hl 0 rfl) ?_
    refine fl_geti (k := 13) ck_9 C0 hF6 ka0 rfl ⟨rfl, rfl⟩ aw_887 dX8_enter_51 ?_
    refine lv_iload_n C0.1 C0.2.1 dX8_enter_54 rfl (lv_at hl 1 rfl) ?_
    obtain ⟨hc, hf⟩ := ck_f hf
    refine fl_iast (n := 60) C0 hF6 (wt_at (k := 14) (t := 340) hWT ka0 rfl) (hF6.rI _ _) rx1 hc dX8_enter_55 (fun H locs hF8 => ?_)
    obtain ⟨I8, eI8, hf⟩ := bnd_f hf
    rw [eI8] at hF8
    refine lv_aload_n C0.1 C0.2.1 dX8_enter_56 rfl (lv_at hl 0 rfl) ?_
    refine fl_getr (k := 15) (t := 340) ck_9 C0 hF8 ka0 rfl (wt_at (k := 15) (t := 340) hWT ka0 rfl) rfl ⟨rfl, rfl⟩ aw_889 dX8_enter_57 ?_
    refine lv_aload_n C0.1 C0.2.1 dX8_enter_60 rfl (lv_at hl 0 rfl) ?_
    refine fl_geti (k := 13) ck_9 C0 hF8 ka0 rfl ⟨rfl, rfl⟩ aw_887 dX8_enter_61 ?_
    refine lv_iload_n C0.1 C0.2.1 dX8_enter_64 rfl (lv_at hl 2 rfl) ?_
    obtain ⟨hc, hf⟩ := ck_f hf
    refine fl_iast (n := 60) C0 hF8 (wt_at (k := 15) (t := 340) hWT ka0 rfl) (hF8.rI _ _) rx2 hc dX8_enter_65 (fun H locs hF9 => ?_)
    obtain ⟨I9, eI9, hf⟩ := bnd_f hf
    rw [eI9] at hF9
    refine lv_aload_n C0.1 C0.2.1 dX8_enter_66 rfl (lv_at hl 0 rfl) ?_
    refine fl_getr (k := 16) (t := 340) ck_9 C0 hF9 ka0 rfl (wt_at (k := 16) (t := 340) hWT ka0 rfl) rfl ⟨rfl, rfl⟩ aw_890 dX8_enter_67 ?_
    refine lv_aload_n C0.1 C0.2.1 dX8_enter_70 rfl (lv_at hl 0 rfl) ?_
    refine fl_geti (k := 13) ck_9 C0 hF9 ka0 rfl ⟨rfl, rfl⟩ aw_887 dX8_enter_71 ?_
    refine lv_aload_n C0.1 C0.2.1 dX8_enter_74 rfl (lv_at hl 0 rfl) ?_
    refine fl_geti (k := 0) ck_9 C0 hF9 ka0 rfl ⟨rfl, rfl⟩ aw_874 dX8_enter_75 ?_
    obtain ⟨hc, hf⟩ := ck_f hf
    refine fl_iast (n := 60) C0 hF9 (wt_at (k := 16) (t := 340) hWT ka0 rfl) (hF9.rI _ _) (hF9.rI _ _) hc dX8_enter_78 (fun H locs hF10 => ?_)
    obtain ⟨I10, eI10, hf⟩ := bnd_f hf
    rw [eI10] at hF10
    refine lv_aload_n C0.1 C0.2.1 dX8_enter_79 rfl (lv_at hl 0 rfl) ?_
    refine fl_getr (k := 17) (t := 340) ck_9 C0 hF10 ka0 rfl (wt_at (k := 17) (t := 340) hWT ka0 rfl) rfl ⟨rfl, rfl⟩ aw_891 dX8_enter_80 ?_
    refine lv_aload_n C0.1 C0.2.1 dX8_enter_83 rfl (lv_at hl 0 rfl) ?_
    refine fl_geti (k := 13) ck_9 C0 hF10 ka0 rfl ⟨rfl, rfl⟩ aw_887 dX8_enter_84 ?_
    refine fl_iconst C0 dX8_enter_87 ?_
    obtain ⟨hc, hf⟩ := ck_f hf
    refine fl_iast (n := 60) C0 hF10 (wt_at (k := 17) (t := 340) hWT ka0 rfl) (hF10.rI _ _) (rgk (-1) rfl) hc dX8_enter_88 (fun H locs hF11 => ?_)
    obtain ⟨I11, eI11, hf⟩ := bnd_f hf
    rw [eI11] at hF11
    refine lv_aload_n C0.1 C0.2.1 dX8_enter_89 rfl (lv_at hl 0 rfl) ?_
    refine fl_iconst C0 dX8_enter_90 ?_
    refine fl_bipush C0 dX8_enter_91 (by decide) ?_
    refine lv_aload_n C0.1 C0.2.1 dX8_enter_93 rfl (lv_at hl 0 rfl) ?_
    refine fl_geti (k := 13) ck_9 C0 hF11 ka0 rfl ⟨rfl, rfl⟩ aw_887 dX8_enter_94 ?_
    refine fl_iadd C0 dX8_enter_97 ?_
    obtain ⟨I12, hq12, hf⟩ := bp_f hf
    refine fl_rv hF11 (fl_runV (As := [iv 0, iv (wr (7 + (I11 a0 13)))]) (rest := []) C0 hF11 hl.1 ck_9 ka0 rfl (c_X8_copies l D cy B L K P J hWT I11 a0 0 ((wr (7 + (I11 a0 13)))) ka0 ((rgk 0 rfl)) ((rg_wr _)) hq12) aw_1045 aw_1047 aw_48 aw_73 aw_1048 rfl rfl pm_X8_copies rfl rfl ⟨Nat.le_of_ble_eq_true rfl, Nat.le_of_ble_eq_true rfl⟩ rfl (Nat.le_of_ble_eq_true rfl) dX8_enter_98 ⟨Nat.le_of_ble_eq_true rfl, Nat.le_of_ble_eq_true rfl⟩) (fun H locs hF12 => ?_)
    refine lv_aload_n C0.1 C0.2.1 dX8_enter_101 rfl (lv_at hl 0 rfl) ?_
    refine fl_iconst C0 dX8_enter_102 ?_
    obtain ⟨I13, hq13, hf⟩ := bp_f hf
    refine fl_rv hF12 (fl_runV (As := [iv 0]) (rest := []) C0 hF12 hl.1 ck_9 ka0 rfl (c_X8_empties l D cy B L K P J hWT I12 a0 0 ka0 ((rgk 0 rfl)) hq13) aw_1011 aw_1013 aw_44 aw_73 aw_1014 rfl rfl pm_X8_empties rfl rfl ⟨Nat.le_of_ble_eq_true rfl, Nat.le_of_ble_eq_true rfl⟩ rfl (Nat.le_of_ble_eq_true rfl) dX8_enter_103 ⟨Nat.le_of_ble_eq_true rfl, Nat.le_of_ble_eq_true rfl⟩) (fun H locs hF13 => ?_)
    refine lv_aload_n C0.1 C0.2.1 dX8_enter_106 rfl (lv_at hl 0 rfl) ?_
    refine lv_dup C0.1 C0.2.1 dX8_enter_107 rfl ?_
    refine fl_geti (k := 13) ck_9 C0 hF13 ka0 rfl ⟨rfl, rfl⟩ aw_887 dX8_enter_108 ?_
    refine fl_iconst C0 dX8_enter_111 ?_
    refine fl_iadd C0 dX8_enter_112 ?_
    refine fl_puti (k := 13) ck_9 C0 hF13 ka0 rfl (rg_wr _) ⟨rfl, rfl, rfl⟩ aw_887 dX8_enter_113 (fun H locs hF14 => ?_)
    obtain ⟨I14, eI14, hf⟩ := bnd_f hf
    rw [eI14] at hF14
    refine lv_aload_n C0.1 C0.2.1 dX8_enter_116 rfl (lv_at hl 0 rfl) ?_
    refine fl_geti (k := 13) ck_9 C0 hF14 ka0 rfl ⟨rfl, rfl⟩ aw_887 dX8_enter_117 ?_
    refine fl_iconst C0 dX8_enter_120 ?_
    refine fl_isub C0 dX8_enter_121 ?_
    cases hf
    exact fl_iret C0 hF14 hr (rg_wr _) rfl dX8_enter_122
  · replace hf := (if_neg c7).symm.trans hf
    refine fl_iconst C0 dX8_enter_44 ?_
    cases hf
    exact fl_iret C0 hF6 hr (rgk 0 rfl) rfl dX8_enter_45
set_option maxRecDepth 100000 in
set_option maxHeartbeats 4000000 in
theorem b_X8_enter_16 {p : Program} {l : Launch} {e : Env} {s : State} {m : MethodId} {args : Array Value} {below : List Frame} {meth : Method} {c : Code} {D : va_G} {cy : Nat → ClassId} {B : Nat} {L : List Nat} {K : KT} {P : PT} {J : IT} {res : Int × IT} (C0 : FC D cy B p s m meth c "RejudgeHallModel" cX8_enter 3) (hr : meth.sig.returnType = (some .int)) (hWT : WT K P) : G_X8_enter_16 p l e s m args below meth c D cy B L K P J res (f_X8_enter_16 K P ) := by
  intro I a0 x1 x2 b0 H locs ls ka0 rx1 rx2 kb0 hF hl hf
  unfold f_X8_enter_16 at hf
  refine fl_iconst C0 dX8_enter_16 ?_
  refine fl_goto (tgt := 34) C0 dX8_enter_17 (by decide) ?_
  exact b_X8_enter_34 C0 hr hWT  I a0 x1 x2 1 b0 _ _ _ ka0 rx1 rx2 ((rgk 1 rfl)) kb0 hF (lv_sub hl [0, 1, 2] rfl) hf
theorem pm_X8_enter : plainM yX8_enter 2 := by decide +kernel
set_option maxRecDepth 100000 in
set_option maxHeartbeats 4000000 in
theorem c_X8_enter (l : Launch) (D : va_G) (cy : Nat → ClassId) (B : Nat) (L : List Nat) (K : KT) (P : PT) (J : IT) (hWT : WT K P) (I : IT) (a0 : Nat) (x1 : Int) (x2 : Int) (ka0 : K a0 = 9) (rx1 : rg x1) (rx2 : rg x2) {r : Int} {I' : IT} (hf : f_X8_enter K P I a0 x1 x2 = some (r, I')) : Met l yX8_enter [.code yX8_enter cX8_enter 3 (some .int)] rm_X8_enter (va_Pc [.ref a0, iv x1, iv x2] (FW D cy B L K P J I)) (QI D cy B L K P J (r, I')) 0 0 (fun q => B ≤ q) := by
  refine fl_body (own := "RejudgeHallModel") [.ref a0, iv x1, iv x2] (by decide) rfl (Nat.le_of_ble_eq_true rfl) ?_
  intro p e s m args below meth c ls C0 hr hF hl
  have hl : lv_has ls 3 [(0, .ref a0), (1, iv x1), (2, iv x2)] := hl
  unfold f_X8_enter at hf
  refine lv_aload_n C0.1 C0.2.1 dX8_enter_0 rfl (lv_at hl 0 rfl) ?_
  refine lv_iload_n C0.1 C0.2.1 dX8_enter_1 rfl (lv_at hl 1 rfl) ?_
  obtain ⟨r1, hq1, hf⟩ := bp_f hf
  refine fl_ri hF (fl_runSG (As := [iv x1]) (rest := [.ref a0]) C0 hF hl.1 (c_X8_isTeam l D cy B L K P J hWT I x1 rx1 hq1) aw_1084 aw_1085 aw_73 aw_1086 rfl pm_X8_isTeam rfl rfl ⟨Nat.le_of_ble_eq_true rfl, Nat.le_of_ble_eq_true rfl⟩ rfl (Nat.le_of_ble_eq_true rfl) dX8_enter_2 ⟨Nat.le_of_ble_eq_true rfl, Nat.le_of_ble_eq_true rfl⟩) (fun H locs hF1 rr1 => ?_)
  refine fl_if_eq (tgt := 16) C0 rr1 dX8_enter_5 (by decide) (fun c2 => ?_) (fun c2 => ?_)
  · replace hf := (if_pos c2).symm.trans hf
    exact b_X8_enter_16 C0 hr hWT  I a0 x1 x2 a0 _ _ _ ka0 rx1 rx2 ka0 hF1 (lv_sub hl [0, 1, 2] rfl) hf
  · replace hf := (if_neg c2).symm.trans hf
    refine lv_aload_n C0.1 C0.2.1 dX8_enter_8 rfl (lv_at hl 0 rfl) ?_
    refine lv_iload_n C0.1 C0.2.1 dX8_enter_9 rfl (lv_at hl 2 rfl) ?_
    obtain ⟨r3, hq3, hf⟩ := bp_f hf
    refine fl_ri hF1 (fl_runV (As := [iv x2]) (rest := [.ref a0]) C0 hF1 hl.1 ck_9 ka0 rfl (c_X8_isProblem l D cy B L K P J hWT I a0 x2 ka0 rx2 hq3) aw_1053 aw_1055 aw_49 aw_73 aw_1056 rfl rfl pm_X8_isProblem rfl rfl ⟨Nat.le_of_ble_eq_true rfl, Nat.le_of_ble_eq_true rfl⟩ rfl (Nat.le_of_ble_eq_true rfl) dX8_enter_10 ⟨Nat.le_of_ble_eq_true rfl, Nat.le_of_ble_eq_true rfl⟩) (fun H locs hF3 rr3 => ?_)
    refine fl_if_ne (tgt := 20) C0 rr3 dX8_enter_13 (by decide) (fun c4 => ?_) (fun c4 => ?_)
    · replace hf := (if_neg c4).symm.trans hf
      refine lv_aload_n C0.1 C0.2.1 dX8_enter_20 rfl (lv_at hl 0 rfl) ?_
      refine fl_geti (k := 13) ck_9 C0 hF3 ka0 rfl ⟨rfl, rfl⟩ aw_887 dX8_enter_21 ?_
      refine fl_bipush C0 dX8_enter_24 (by decide) ?_
      refine fl_icmp_ne (tgt := 33) C0 (hF3.rI _ _) (rgk 60 rfl) dX8_enter_26 (by decide) (fun c5 => ?_) (fun c5 => ?_)
      · replace hf := (if_neg c5).symm.trans hf
        refine fl_iconst C0 dX8_enter_33 ?_
        exact b_X8_enter_34 C0 hr hWT  I a0 x1 x2 0 a0 _ _ _ ka0 rx1 rx2 ((rgk 0 rfl)) ka0 hF3 (lv_sub hl [0, 1, 2] rfl) hf
      · replace hf := (if_pos c5).symm.trans hf
        refine fl_iconst C0 dX8_enter_29 ?_
        refine fl_goto (tgt := 34) C0 dX8_enter_30 (by decide) ?_
        exact b_X8_enter_34 C0 hr hWT  I a0 x1 x2 2 a0 _ _ _ ka0 rx1 rx2 ((rgk 2 rfl)) ka0 hF3 (lv_sub hl [0, 1, 2] rfl) hf
    · replace hf := (if_pos c4).symm.trans hf
      exact b_X8_enter_16 C0 hr hWT  I a0 x1 x2 a0 _ _ _ ka0 rx1 rx2 ka0 hF3 (lv_sub hl [0, 1, 2] rfl) hf
-- RejudgeHallModel.pass(I)I
abbrev rm_X8_pass : Room := { frames := 1, cells := 0, slots := 0, locals := 22 }
def f_X8_pass_53 (K : KT) (P : PT) (I : IT) (a0 : Nat) (t0 : Int) (t1 : Int) (b2 : Nat) : Option (Int × IT) := bnd (up I b2 0 (wr (t1 + t0))) fun I6 => if (I6 a0 38) ≤ 0 then (some ((I6 a0 0), I6)) else (some (0, I6))
def f_X8_pass_33 (K : KT) (P : PT) (I : IT) (a0 : Nat) (x1 : Int) (t0 : Int) (b1 : Nat) : Option (Int × IT) := bnd (up I b1 38 t0) fun I4 => if (I4 a0 38) = 0 then (f_X8_pass_53 K P  I4 a0 x1 ((I4 a0 0)) a0) else (f_X8_pass_53 K P  I4 a0 0 ((I4 a0 0)) a0)
def f_X8_pass (K : KT) (P : PT) (I : IT) (a0 : Nat) (x1 : Int) : Option (Int × IT) := bp (f_X8_isIn K P I x1 1 300) fun r1 => if r1 = 0 then (f_X8_pass_33 K P  I a0 x1 1 a0) else (if (wr ((I a0 0) + x1)) ≤ 9999 then (f_X8_pass_33 K P  I a0 x1 0 a0) else (f_X8_pass_33 K P  I a0 x1 2 a0))
abbrev G_X8_pass_53 (p : Program) (l : Launch) (e : Env) (s : State) (m : MethodId) (args : Array Value) (below : List Frame) (meth : Method) (c : Code) (D : va_G) (cy : Nat → ClassId) (B : Nat) (L : List Nat) (K : KT) (P : PT) (J : IT) (res : Int × IT) (f : IT → Nat → Int → Int → Nat → Option (Int × IT)) : Prop := ∀ (I : IT) (a0 : Nat) (t0 : Int) (t1 : Int) (b2 : Nat) (H : Heap) (locs : List Loc) (ls : Array Slot), K a0 = 9 → rg t0 → rg t1 → K b2 = 9 → FS D cy B L K P J s.heap I H locs → lv_has ls 2 [(0, .ref a0)] → f I a0 t0 t1 b2 = some res → W p l e rm_X8_pass s m args below meth c H locs 0 0 (MQ below (QI D cy B L K P J res) args s 0 0 (fun q => B ≤ q)) (F0 m 53 ls [iv t0, iv t1, .ref b2])
abbrev G_X8_pass_33 (p : Program) (l : Launch) (e : Env) (s : State) (m : MethodId) (args : Array Value) (below : List Frame) (meth : Method) (c : Code) (D : va_G) (cy : Nat → ClassId) (B : Nat) (L : List Nat) (K : KT) (P : PT) (J : IT) (res : Int × IT) (f : IT → Nat → Int → Int → Nat → Option (Int × IT)) : Prop := ∀ (I : IT) (a0 : Nat) (x1 : Int) (t0 : Int) (b1 : Nat) (H : Heap) (locs : List Loc) (ls : Array Slot), K a0 = 9 → rg x1 → rg t0 → K b1 = 9 → FS D cy B L K P J s.heap I H locs → lv_has ls 2 [(0, .ref a0), (1, iv x1)] → f I a0 x1 t0 b1 = some res → W p l e rm_X8_pass s m args below meth c H locs 0 0 (MQ below (QI D cy B L K P J res) args s 0 0 (fun q => B ≤ q)) (F0 m 33 ls [iv t0, .ref b1])
set_option maxRecDepth 100000 in
set_option maxHeartbeats 4000000 in
theorem b_X8_pass_53 {p : Program} {l : Launch} {e : Env} {s : State} {m : MethodId} {args : Array Value} {below : List Frame} {meth : Method} {c : Code} {D : va_G} {cy : Nat → ClassId} {B : Nat} {L : List Nat} {K : KT} {P : PT} {J : IT} {res : Int × IT} (C0 : FC D cy B p s m meth c "RejudgeHallModel" cX8_pass 2) (hr : meth.sig.returnType = (some .int)) (hWT : WT K P) : G_X8_pass_53 p l e s m args below meth c D cy B L K P J res (f_X8_pass_53 K P ) := by
  intro I a0 t0 t1 b2 H locs ls ka0 rt0 rt1 kb2 hF hl hf
  unfold f_X8_pass_53 at hf
  refine fl_iadd C0 dX8_pass_53 ?_
  refine fl_puti (k := 0) ck_9 C0 hF kb2 rfl (rg_wr _) ⟨rfl, rfl, rfl⟩ aw_874 dX8_pass_54 (fun H locs hF6 => ?_)
  obtain ⟨I6, eI6, hf⟩ := bnd_f hf
  rw [eI6] at hF6
  refine lv_aload_n C0.1 C0.2.1 dX8_pass_57 rfl (lv_at hl 0 rfl) ?_
  refine fl_geti (k := 38) ck_9 C0 hF6 ka0 rfl ⟨rfl, rfl⟩ aw_912 dX8_pass_58 ?_
  refine fl_if_le (tgt := 68) C0 (hF6.rI _ _) dX8_pass_61 (by decide) (fun c7 => ?_) (fun c7 => ?_)
  · replace hf := (if_pos c7).symm.trans hf
    refine lv_aload_n C0.1 C0.2.1 dX8_pass_68 rfl (lv_at hl 0 rfl) ?_
    refine fl_geti (k := 0) ck_9 C0 hF6 ka0 rfl ⟨rfl, rfl⟩ aw_874 dX8_pass_69 ?_
    cases hf
    exact fl_iret C0 hF6 hr (hF6.rI _ _) rfl dX8_pass_72
  · replace hf := (if_neg c7).symm.trans hf
    refine fl_iconst C0 dX8_pass_64 ?_
    refine fl_goto (tgt := 72) C0 dX8_pass_65 (by decide) ?_
    cases hf
    exact fl_iret C0 hF6 hr (rgk 0 rfl) rfl dX8_pass_72
set_option maxRecDepth 100000 in
set_option maxHeartbeats 4000000 in
theorem b_X8_pass_33 {p : Program} {l : Launch} {e : Env} {s : State} {m : MethodId} {args : Array Value} {below : List Frame} {meth : Method} {c : Code} {D : va_G} {cy : Nat → ClassId} {B : Nat} {L : List Nat} {K : KT} {P : PT} {J : IT} {res : Int × IT} (C0 : FC D cy B p s m meth c "RejudgeHallModel" cX8_pass 2) (hr : meth.sig.returnType = (some .int)) (hWT : WT K P) : G_X8_pass_33 p l e s m args below meth c D cy B L K P J res (f_X8_pass_33 K P ) := by
  intro I a0 x1 t0 b1 H locs ls ka0 rx1 rt0 kb1 hF hl hf
  unfold f_X8_pass_33 at hf
  refine fl_puti (k := 38) ck_9 C0 hF kb1 rfl rt0 ⟨rfl, rfl, rfl⟩ aw_912 dX8_pass_33 (fun H locs hF4 => ?_)
  obtain ⟨I4, eI4, hf⟩ := bnd_f hf
  rw [eI4] at hF4
  refine lv_aload_n C0.1 C0.2.1 dX8_pass_36 rfl (lv_at hl 0 rfl) ?_
  refine lv_dup C0.1 C0.2.1 dX8_pass_37 rfl ?_
  refine fl_geti (k := 0) ck_9 C0 hF4 ka0 rfl ⟨rfl, rfl⟩ aw_874 dX8_pass_38 ?_
  refine lv_aload_n C0.1 C0.2.1 dX8_pass_41 rfl (lv_at hl 0 rfl) ?_
  refine fl_geti (k := 38) ck_9 C0 hF4 ka0 rfl ⟨rfl, rfl⟩ aw_912 dX8_pass_42 ?_
  refine fl_if_ne (tgt := 52) C0 (hF4.rI _ _) dX8_pass_45 (by decide) (fun c5 => ?_) (fun c5 => ?_)
  · replace hf := (if_neg c5).symm.trans hf
    refine fl_iconst C0 dX8_pass_52 ?_
    exact b_X8_pass_53 C0 hr hWT  I4 a0 0 ((I4 a0 0)) a0 _ _ _ ka0 ((rgk 0 rfl)) ((hF4.rI _ _)) ka0 hF4 (lv_sub hl [0] rfl) hf
  · replace hf := (if_pos c5).symm.trans hf
    refine lv_iload_n C0.1 C0.2.1 dX8_pass_48 rfl (lv_at hl 1 rfl) ?_
    refine fl_goto (tgt := 53) C0 dX8_pass_49 (by decide) ?_
    exact b_X8_pass_53 C0 hr hWT  I4 a0 x1 ((I4 a0 0)) a0 _ _ _ ka0 rx1 ((hF4.rI _ _)) ka0 hF4 (lv_sub hl [0] rfl) hf
theorem pm_X8_pass : plainM yX8_pass 1 := by decide +kernel
set_option maxRecDepth 100000 in
set_option maxHeartbeats 4000000 in
theorem c_X8_pass (l : Launch) (D : va_G) (cy : Nat → ClassId) (B : Nat) (L : List Nat) (K : KT) (P : PT) (J : IT) (hWT : WT K P) (I : IT) (a0 : Nat) (x1 : Int) (ka0 : K a0 = 9) (rx1 : rg x1) {r : Int} {I' : IT} (hf : f_X8_pass K P I a0 x1 = some (r, I')) : Met l yX8_pass [.code yX8_pass cX8_pass 2 (some .int)] rm_X8_pass (va_Pc [.ref a0, iv x1] (FW D cy B L K P J I)) (QI D cy B L K P J (r, I')) 0 0 (fun q => B ≤ q) := by
  refine fl_body (own := "RejudgeHallModel") [.ref a0, iv x1] (by decide) rfl (Nat.le_of_ble_eq_true rfl) ?_
  intro p e s m args below meth c ls C0 hr hF hl
  have hl : lv_has ls 2 [(0, .ref a0), (1, iv x1)] := hl
  unfold f_X8_pass at hf
  refine lv_aload_n C0.1 C0.2.1 dX8_pass_0 rfl (lv_at hl 0 rfl) ?_
  refine lv_iload_n C0.1 C0.2.1 dX8_pass_1 rfl (lv_at hl 1 rfl) ?_
  refine fl_iconst C0 dX8_pass_2 ?_
  refine fl_sipush C0 dX8_pass_3 (by decide) ?_
  obtain ⟨r1, hq1, hf⟩ := bp_f hf
  refine fl_ri hF (fl_runSG (As := [iv x1, iv 1, iv 300]) (rest := [.ref a0]) C0 hF hl.1 (c_X8_isIn l D cy B L K P J hWT I x1 1 300 rx1 ((rgk 1 rfl)) ((rgk 300 rfl)) hq1) aw_1000 aw_1001 aw_73 aw_1002 rfl pm_X8_isIn rfl rfl ⟨Nat.le_of_ble_eq_true rfl, Nat.le_of_ble_eq_true rfl⟩ rfl (Nat.le_of_ble_eq_true rfl) dX8_pass_6 ⟨Nat.le_of_ble_eq_true rfl, Nat.le_of_ble_eq_true rfl⟩) (fun H locs hF1 rr1 => ?_)
  refine fl_if_ne (tgt := 16) C0 rr1 dX8_pass_9 (by decide) (fun c2 => ?_) (fun c2 => ?_)
  · replace hf := (if_neg c2).symm.trans hf
    refine lv_aload_n C0.1 C0.2.1 dX8_pass_16 rfl (lv_at hl 0 rfl) ?_
    refine fl_geti (k := 0) ck_9 C0 hF1 ka0 rfl ⟨rfl, rfl⟩ aw_874 dX8_pass_17 ?_
    refine lv_iload_n C0.1 C0.2.1 dX8_pass_20 rfl (lv_at hl 1 rfl) ?_
    refine fl_iadd C0 dX8_pass_21 ?_
    refine fl_sipush C0 dX8_pass_22 (by decide) ?_
    refine fl_icmp_le (tgt := 32) C0 (rg_wr _) (rgk 9999 rfl) dX8_pass_25 (by decide) (fun c3 => ?_) (fun c3 => ?_)
    · replace hf := (if_pos c3).symm.trans hf
      refine fl_iconst C0 dX8_pass_32 ?_
      exact b_X8_pass_33 C0 hr hWT  I a0 x1 0 a0 _ _ _ ka0 rx1 ((rgk 0 rfl)) ka0 hF1 (lv_sub hl [0, 1] rfl) hf
    · replace hf := (if_neg c3).symm.trans hf
      refine fl_iconst C0 dX8_pass_28 ?_
      refine fl_goto (tgt := 33) C0 dX8_pass_29 (by decide) ?_
      exact b_X8_pass_33 C0 hr hWT  I a0 x1 2 a0 _ _ _ ka0 rx1 ((rgk 2 rfl)) ka0 hF1 (lv_sub hl [0, 1] rfl) hf
  · replace hf := (if_pos c2).symm.trans hf
    refine fl_iconst C0 dX8_pass_12 ?_
    refine fl_goto (tgt := 33) C0 dX8_pass_13 (by decide) ?_
    exact b_X8_pass_33 C0 hr hWT  I a0 x1 1 a0 _ _ _ ka0 rx1 ((rgk 1 rfl)) ka0 hF1 (lv_sub hl [0, 1] rfl) hf
-- RejudgeHallModel.judge()I
abbrev rm_X8_judge : Room := { frames := 8, cells := 0, slots := 0, locals := 193 }
def f_X8_judge_72 (K : KT) (P : PT) (k9 : IT → Nat → Int → Int → Option (Int × IT)) (I : IT) (a0 : Nat) (x2 : Int) (t0 : Int) : Option (Int × IT) := k9 I a0 t0 ((wr (x2 + 1)))
def f_X8_judge_62 (K : KT) (P : PT) (k9 : IT → Nat → Int → Int → Option (Int × IT)) (I : IT) (a0 : Nat) (x1 : Int) (x2 : Int) (t0 : Int) : Option (Int × IT) := if t0 = 0 then (f_X8_judge_72 K P k9 I a0 x2 x1) else (f_X8_judge_72 K P k9 I a0 x2 x2)
def f_X8_judge_57 (K : KT) (P : PT) (k9 : IT → Nat → Int → Int → Option (Int × IT)) (I : IT) (a0 : Nat) (x1 : Int) (x2 : Int) : Option (Int × IT) := f_X8_judge_62 K P k9 I a0 x1 x2 1
def f_X8_judge_61 (K : KT) (P : PT) (k9 : IT → Nat → Int → Int → Option (Int × IT)) (I : IT) (a0 : Nat) (x1 : Int) (x2 : Int) : Option (Int × IT) := f_X8_judge_62 K P k9 I a0 x1 x2 0
def f_X8_judge_79 (K : KT) (P : PT) (I : IT) (a0 : Nat) (x1 : Int) : Option (Int × IT) := if x1 = (-1) then (some (x1, I)) else (bp (f_X8_judges K P I a0 x1) fun I7 => some (x1, I7))
def f_X8_judge_9 (K : KT) (P : PT) : Nat → IT → Nat → Int → Int → Option (Int × IT)
  | 0, _, _, _, _ => none
  | n + 1, I, a0, x1, x2 => if (I a0 13) ≤ x2 then (f_X8_judge_79 K P  I a0 x1) else (ck (0 ≤ x2 ∧ x2 < 60) <| if (I ((P a0 17)) (x2 : Int).toNat) = (-1) then (if x1 = (-1) then (f_X8_judge_57 K P ((f_X8_judge_9 K P  n)) I a0 x1 x2) else (ck (0 ≤ x2 ∧ x2 < 60) <| ck (0 ≤ (I ((P a0 14)) (x2 : Int).toNat) ∧ (I ((P a0 14)) (x2 : Int).toNat) < 8) <| ck (0 ≤ x1 ∧ x1 < 60) <| ck (0 ≤ (I ((P a0 14)) (x1 : Int).toNat) ∧ (I ((P a0 14)) (x1 : Int).toNat) < 8) <| if (I ((P a0 21)) ((I ((P a0 14)) (x1 : Int).toNat) : Int).toNat) ≤ (I ((P a0 21)) ((I ((P a0 14)) (x2 : Int).toNat) : Int).toNat) then (f_X8_judge_61 K P ((f_X8_judge_9 K P  n)) I a0 x1 x2) else (f_X8_judge_57 K P ((f_X8_judge_9 K P  n)) I a0 x1 x2))) else (f_X8_judge_61 K P ((f_X8_judge_9 K P  n)) I a0 x1 x2))
def f_X8_judge (K : KT) (P : PT) (I : IT) (a0 : Nat) : Option (Int × IT) := bnd (up I a0 38 0) fun I1 => f_X8_judge_9 K P  FU I1 a0 ((-1)) 0
abbrev G_X8_judge_72 (p : Program) (l : Launch) (e : Env) (s : State) (m : MethodId) (args : Array Value) (below : List Frame) (meth : Method) (c : Code) (D : va_G) (cy : Nat → ClassId) (B : Nat) (L : List Nat) (K : KT) (P : PT) (J : IT) (res : Int × IT) (f : IT → Nat → Int → Int → Option (Int × IT)) : Prop := ∀ (I : IT) (a0 : Nat) (x2 : Int) (t0 : Int) (H : Heap) (locs : List Loc) (ls : Array Slot), K a0 = 9 → rg x2 → rg t0 → FS D cy B L K P J s.heap I H locs → lv_has ls 4 [(0, .ref a0), (2, iv x2)] → f I a0 x2 t0 = some res → W p l e rm_X8_judge s m args below meth c H locs 0 0 (MQ below (QI D cy B L K P J res) args s 0 0 (fun q => B ≤ q)) (F0 m 72 ls [iv t0])
abbrev G_X8_judge_62 (p : Program) (l : Launch) (e : Env) (s : State) (m : MethodId) (args : Array Value) (below : List Frame) (meth : Method) (c : Code) (D : va_G) (cy : Nat → ClassId) (B : Nat) (L : List Nat) (K : KT) (P : PT) (J : IT) (res : Int × IT) (f : IT → Nat → Int → Int → Int → Option (Int × IT)) : Prop := ∀ (I : IT) (a0 : Nat) (x1 : Int) (x2 : Int) (t0 : Int) (H : Heap) (locs : List Loc) (ls : Array Slot), K a0 = 9 → rg x1 → rg x2 → rg t0 → FS D cy B L K P J s.heap I H locs → lv_has ls 4 [(0, .ref a0), (1, iv x1), (2, iv x2)] → f I a0 x1 x2 t0 = some res → W p l e rm_X8_judge s m args below meth c H locs 0 0 (MQ below (QI D cy B L K P J res) args s 0 0 (fun q => B ≤ q)) (F0 m 62 ls [iv t0])
abbrev G_X8_judge_57 (p : Program) (l : Launch) (e : Env) (s : State) (m : MethodId) (args : Array Value) (below : List Frame) (meth : Method) (c : Code) (D : va_G) (cy : Nat → ClassId) (B : Nat) (L : List Nat) (K : KT) (P : PT) (J : IT) (res : Int × IT) (f : IT → Nat → Int → Int → Option (Int × IT)) : Prop := ∀ (I : IT) (a0 : Nat) (x1 : Int) (x2 : Int) (H : Heap) (locs : List Loc) (ls : Array Slot), K a0 = 9 → rg x1 → rg x2 → FS D cy B L K P J s.heap I H locs → lv_has ls 4 [(0, .ref a0), (1, iv x1), (2, iv x2)] → f I a0 x1 x2 = some res → W p l e rm_X8_judge s m args below meth c H locs 0 0 (MQ below (QI D cy B L K P J res) args s 0 0 (fun q => B ≤ q)) (F0 m 57 ls [])
abbrev G_X8_judge_61 (p : Program) (l : Launch) (e : Env) (s : State) (m : MethodId) (args : Array Value) (below : List Frame) (meth : Method) (c : Code) (D : va_G) (cy : Nat → ClassId) (B : Nat) (L : List Nat) (K : KT) (P : PT) (J : IT) (res : Int × IT) (f : IT → Nat → Int → Int → Option (Int × IT)) : Prop := ∀ (I : IT) (a0 : Nat) (x1 : Int) (x2 : Int) (H : Heap) (locs : List Loc) (ls : Array Slot), K a0 = 9 → rg x1 → rg x2 → FS D cy B L K P J s.heap I H locs → lv_has ls 4 [(0, .ref a0), (1, iv x1), (2, iv x2)] → f I a0 x1 x2 = some res → W p l e rm_X8_judge s m args below meth c H locs 0 0 (MQ below (QI D cy B L K P J res) args s 0 0 (fun q => B ≤ q)) (F0 m 61 ls [])
abbrev G_X8_judge_79 (p : Program) (l : Launch) (e : Env) (s : State) (m : MethodId) (args : Array Value) (below : List Frame) (meth : Method) (c : Code) (D : va_G) (cy : Nat → ClassId) (B : Nat) (L : List Nat) (K : KT) (P : PT) (J : IT) (res : Int × IT) (f : IT → Nat → Int → Option (Int × IT)) : Prop := ∀ (I : IT) (a0 : Nat) (x1 : Int) (H : Heap) (locs : List Loc) (ls : Array Slot), K a0 = 9 → rg x1 → FS D cy B L K P J s.heap I H locs → lv_has ls 4 [(0, .ref a0), (1, iv x1)] → f I a0 x1 = some res → W p l e rm_X8_judge s m args below meth c H locs 0 0 (MQ below (QI D cy B L K P J res) args s 0 0 (fun q => B ≤ q)) (F0 m 79 ls [])
abbrev G_X8_judge_9 (p : Program) (l : Launch) (e : Env) (s : State) (m : MethodId) (args : Array Value) (below : List Frame) (meth : Method) (c : Code) (D : va_G) (cy : Nat → ClassId) (B : Nat) (L : List Nat) (K : KT) (P : PT) (J : IT) (res : Int × IT) (f : IT → Nat → Int → Int → Option (Int × IT)) : Prop := ∀ (I : IT) (a0 : Nat) (x1 : Int) (x2 : Int) (H : Heap) (locs : List Loc) (ls : Array Slot), K a0 = 9 → rg x1 → rg x2 → FS D cy B L K P J s.heap I H locs → lv_has ls 4 [(0, .ref a0), (1, iv x1), (2, iv x2)] → f I a0 x1 x2 = some res → W p l e rm_X8_judge s m args below meth c H locs 0 0 (MQ below (QI D cy B L K P J res) args s 0 0 (fun q => B ≤ q)) (F0 m 9 ls [])
set_option maxRecDepth 100000 in
set_option maxHeartbeats 4000000 in
theorem b_X8_judge_72 {p : Program} {l : Launch} {e : Env} {s : State} {m : MethodId} {args : Array Value} {below : List Frame} {meth : Method} {c : Code} {D : va_G} {cy : Nat → ClassId} {B : Nat} {L : List Nat} {K : KT} {P : PT} {J : IT} {res : Int × IT} (C0 : FC D cy B p s m meth c "RejudgeHallModel" cX8_judge 4) (hr : meth.sig.returnType = (some .int)) (hWT : WT K P) {k9 : IT → Nat → Int → Int → Option (Int × IT)} (hk9 : G_X8_judge_9 p l e s m args below meth c D cy B L K P J res k9) : G_X8_judge_72 p l e s m args below meth c D cy B L K P J res (f_X8_judge_72 K P k9) := by
  intro I a0 x2 t0 H locs ls ka0 rx2 rt0 hF hl hf
  unfold f_X8_judge_72 at hf
  refine lv_istore_n (lv' := [(1, iv t0), (0, .ref a0), (2, iv x2)]) C0.1 C0.2.1 dX8_judge_72 rfl hl (by decide) rfl (fun ls hl => ?_)
  refine fl_iinc (lv' := [(2, iv (wr (x2 + 1))), (1, iv t0), (0, .ref a0)]) C0 dX8_judge_73 hl (k := 2) rfl (by decide) rfl (fun ls hl => ?_)
  refine fl_goto (tgt := 9) C0 dX8_judge_76 (by decide) ?_
  exact hk9 I a0 t0 ((wr (x2 + 1))) _ _ _ ka0 rt0 ((rg_wr _)) hF (lv_sub hl [2, 1, 0] rfl) hf
set_option maxRecDepth 100000 in
set_option maxHeartbeats 4000000 in
theorem b_X8_judge_62 {p : Program} {l : Launch} {e : Env} {s : State} {m : MethodId} {args : Array Value} {below : List Frame} {meth : Method} {c : Code} {D : va_G} {cy : Nat → ClassId} {B : Nat} {L : List Nat} {K : KT} {P : PT} {J : IT} {res : Int × IT} (C0 : FC D cy B p s m meth c "RejudgeHallModel" cX8_judge 4) (hr : meth.sig.returnType = (some .int)) (hWT : WT K P) {k9 : IT → Nat → Int → Int → Option (Int × IT)} (hk9 : G_X8_judge_9 p l e s m args below meth c D cy B L K P J res k9) : G_X8_judge_62 p l e s m args below meth c D cy B L K P J res (f_X8_judge_62 K P k9) := by
  intro I a0 x1 x2 t0 H locs ls ka0 rx1 rx2 rt0 hF hl hf
  unfold f_X8_judge_62 at hf
  refine lv_istore_n (lv' := [(3, iv t0), (0, .ref a0), (1, iv x1), (2, iv x2)]) C0.1 C0.2.1 dX8_judge_62 rfl hl (by decide) rfl (fun ls hl => ?_)
  refine lv_iload_n C0.1 C0.2.1 dX8_judge_63 rfl (lv_at hl 0 rfl) ?_
  refine fl_if_eq (tgt := 71) C0 rt0 dX8_judge_64 (by decide) (fun c8 => ?_) (fun c8 => ?_)
  · replace hf := (if_pos c8).symm.trans hf
    refine lv_iload_n C0.1 C0.2.1 dX8_judge_71 rfl (lv_at hl 2 rfl) ?_
    exact b_X8_judge_72 C0 hr hWT hk9 I a0 x2 x1 _ _ _ ka0 rx2 rx1 hF (lv_sub hl [1, 3] rfl) hf
  · replace hf := (if_neg c8).symm.trans hf
    refine lv_iload_n C0.1 C0.2.1 dX8_judge_67 rfl (lv_at hl 3 rfl) ?_
    refine fl_goto (tgt := 72) C0 dX8_judge_68 (by decide) ?_
    exact b_X8_judge_72 C0 hr hWT hk9 I a0 x2 x2 _ _ _ ka0 rx2 rx2 hF (lv_sub hl [1, 3] rfl) hf
set_option maxRecDepth 100000 in
set_option maxHeartbeats 4000000 in
theorem b_X8_judge_57 {p : Program} {l : Launch} {e : Env} {s : State} {m : MethodId} {args : Array Value} {below : List Frame} {meth : Method} {c : Code} {D : va_G} {cy : Nat → ClassId} {B : Nat} {L : List Nat} {K : KT} {P : PT} {J : IT} {res : Int × IT} (C0 : FC D cy B p s m meth c "RejudgeHallModel" cX8_judge 4) (hr : meth.sig.returnType = (some .int)) (hWT : WT K P) {k9 : IT → Nat → Int → Int → Option (Int × IT)} (hk9 : G_X8_judge_9 p l e s m args below meth c D cy B L K P J res k9) : G_X8_judge_57 p l e s m args below meth c D cy B L K P J res (f_X8_judge_57 K P k9) := by
  intro I a0 x1 x2 H locs ls ka0 rx1 rx2 hF hl hf
  unfold f_X8_judge_57 at hf
  refine fl_iconst C0 dX8_judge_57 ?_
  refine fl_goto (tgt := 62) C0 dX8_judge_58 (by decide) ?_
  exact b_X8_judge_62 C0 hr hWT hk9 I a0 x1 x2 1 _ _ _ ka0 rx1 rx2 ((rgk 1 rfl)) hF (lv_sub hl [0, 1, 2] rfl) hf
set_option maxRecDepth 100000 in
set_option maxHeartbeats 4000000 in
theorem b_X8_judge_61 {p : Program} {l : Launch} {e : Env} {s : State} {m : MethodId} {args : Array Value} {below : List Frame} {meth : Method} {c : Code} {D : va_G} {cy : Nat → ClassId} {B : Nat} {L : List Nat} {K : KT} {P : PT} {J : IT} {res : Int × IT} (C0 : FC D cy B p s m meth c "RejudgeHallModel" cX8_judge 4) (hr : meth.sig.returnType = (some .int)) (hWT : WT K P) {k9 : IT → Nat → Int → Int → Option (Int × IT)} (hk9 : G_X8_judge_9 p l e s m args below meth c D cy B L K P J res k9) : G_X8_judge_61 p l e s m args below meth c D cy B L K P J res (f_X8_judge_61 K P k9) := by
  intro I a0 x1 x2 H locs ls ka0 rx1 rx2 hF hl hf
  unfold f_X8_judge_61 at hf
  refine fl_iconst C0 dX8_judge_61 ?_
  exact b_X8_judge_62 C0 hr hWT hk9 I a0 x1 x2 0 _ _ _ ka0 rx1 rx2 ((rgk 0 rfl)) hF (lv_sub hl [0, 1, 2] rfl) hf
set_option maxRecDepth 100000 in
set_option maxHeartbeats 4000000 in
theorem b_X8_judge_79 {p : Program} {l : Launch} {e : Env} {s : State} {m : MethodId} {args : Array Value} {below : List Frame} {meth : Method} {c : Code} {D : va_G} {cy : Nat → ClassId} {B : Nat} {L : List Nat} {K : KT} {P : PT} {J : IT} {res : Int × IT} (C0 : FC D cy B p s m meth c "RejudgeHallModel" cX8_judge 4) (hr : meth.sig.returnType = (some .int)) (hWT : WT K P) : G_X8_judge_79 p l e s m args below meth c D cy B L K P J res (f_X8_judge_79 K P ) := by
  intro I a0 x1 H locs ls ka0 rx1 hF hl hf
  unfold f_X8_judge_79 at hf
  refine lv_iload_n C0.1 C0.2.1 dX8_judge_79 rfl (lv_at hl 1 rfl) ?_
  refine fl_iconst C0 dX8_judge_80 ?_
  refine fl_icmp_eq (tgt := 89) C0 rx1 (rgk (-1) rfl) dX8_judge_81 (by decide) (fun c6 => ?_) (fun c6 => ?_)
  · replace hf := (if_pos c6).symm.trans hf
    refine lv_iload_n C0.1 C0.2.1 dX8_judge_89 rfl (lv_at hl 1 rfl) ?_
    cases hf
    exact fl_iret C0 hF hr rx1 rfl dX8_judge_90
  · replace hf := (if_neg c6).symm.trans hf
    refine lv_aload_n C0.1 C0.2.1 dX8_judge_84 rfl (lv_at hl 0 rfl) ?_
    refine lv_iload_n C0.1 C0.2.1 dX8_judge_85 rfl (lv_at hl 1 rfl) ?_
    obtain ⟨I7, hq7, hf⟩ := bp_f hf
    refine fl_rv hF (fl_runV (As := [iv x1]) (rest := []) C0 hF hl.1 ck_9 ka0 rfl (c_X8_judges l D cy B L K P J hWT I a0 x1 ka0 rx1 hq7) aw_1095 aw_1097 aw_52 aw_73 aw_1098 rfl rfl pm_X8_judges rfl rfl ⟨Nat.le_of_ble_eq_true rfl, Nat.le_of_ble_eq_true rfl⟩ rfl (Nat.le_of_ble_eq_true rfl) dX8_judge_86 ⟨Nat.le_of_ble_eq_true rfl, Nat.le_of_ble_eq_true rfl⟩) (fun H locs hF7 => ?_)
    refine lv_iload_n C0.1 C0.2.1 dX8_judge_89 rfl (lv_at hl 1 rfl) ?_
    cases hf
    exact fl_iret C0 hF7 hr rx1 rfl dX8_judge_90
set_option maxRecDepth 100000 in
set_option maxHeartbeats 4000000 in
theorem b_X8_judge_9 {p : Program} {l : Launch} {e : Env} {s : State} {m : MethodId} {args : Array Value} {below : List Frame} {meth : Method} {c : Code} {D : va_G} {cy : Nat → ClassId} {B : Nat} {L : List Nat} {K : KT} {P : PT} {J : IT} {res : Int × IT} (C0 : FC D cy B p s m meth c "RejudgeHallModel" cX8_judge 4) (hr : meth.sig.returnType = (some .int)) (hWT : WT K P) : ∀ n : Nat, G_X8_judge_9 p l e s m args below meth c D cy B L K P J res (f_X8_judge_9 K P  n)
  | 0 => by
    intro I a0 x1 x2 H locs ls ka0 rx1 rx2 hF hl hf
    cases hf
  | n + 1 => by
    have ih : G_X8_judge_9 p l e s m args below meth c D cy B L K P J res (f_X8_judge_9 K P  n)  := b_X8_judge_9 C0 hr hWT  n
    intro I a0 x1 x2 H locs ls ka0 rx1 rx2 hF hl hf
    rw [f_X8_judge_9] at hf
    refine lv_iload_n C0.1 C0.2.1 dX8_judge_9 rfl (lv_at hl 2 rfl) ?_
    refine lv_aload_n C0.1 C0.2.1 dX8_judge_10 rfl (lv_at hl 0 rfl) ?_
    refine fl_geti (k := 13) ck_9 C0 hF ka0 rfl ⟨rfl, rfl⟩ aw_887 dX8_judge_11 ?_
    refine fl_icmp_ge (tgt := 79) C0 rx2 (hF.rI _ _) dX8_judge_14 (by decide) (fun c2 => ?_) (fun c2 => ?_)
    · replace hf := (if_pos c2).symm.trans hf
      exact b_X8_judge_79 C0 hr hWT  I a0 x1 _ _ _ ka0 rx1 hF (lv_sub hl [0, 1] rfl) hf
    · replace hf := (if_neg c2).symm.trans hf
      refine lv_aload_n C0.1 C0.2.1 dX8_judge_17 rfl (lv_at hl 0 rfl) ?_
      refine fl_getr (k := 17) (t := 340) ck_9 C0 hF ka0 rfl (wt_at (k := 17) (t := 340) hWT ka0 rfl) rfl ⟨rfl, rfl⟩ aw_891 dX8_judge_18 ?_
      refine lv_iload_n C0.1 C0.2.1 dX8_judge_21 rfl (lv_at hl 2 rfl) ?_
      obtain ⟨hc, hf⟩ := ck_f hf
      refine fl_iald (n := 60) C0 hF (wt_at (k := 17) (t := 340) hWT ka0 rfl) rx2 hc dX8_judge_22 ?_
      refine fl_iconst C0 dX8_judge_23 ?_
      refine fl_icmp_ne (tgt := 61) C0 (hF.rI _ _) (rgk (-1) rfl) dX8_judge_24 (by decide) (fun c3 => ?_) (fun c3 => ?_)
      · replace hf := (if_neg c3).symm.trans hf
        exact b_X8_judge_61 C0 hr hWT ih I a0 x1 x2 _ _ _ ka0 rx1 rx2 hF (lv_sub hl [0, 1, 2] rfl) hf
      · replace hf := (if_pos c3).symm.trans hf
        refine lv_iload_n C0.1 C0.2.1 dX8_judge_27 rfl (lv_at hl 1 rfl) ?_
        refine fl_iconst C0 dX8_judge_28 ?_
        refine fl_icmp_eq (tgt := 57) C0 rx1 (rgk (-1) rfl) dX8_judge_29 (by decide) (fun c4 => ?_) (fun c4 => ?_)
        · replace hf := (if_pos c4).symm.trans hf
          exact b_X8_judge_57 C0 hr hWT ih I a0 x1 x2 _ _ _ ka0 rx1 rx2 hF (lv_sub hl [0, 1, 2] rfl) hf
        · replace hf := (if_neg c4).symm.trans hf
          refine lv_aload_n C0.1 C0.2.1 dX8_judge_32 rfl (lv_at hl 0 rfl) ?_
          refine fl_getr (k := 21) (t := 132) ck_9 C0 hF ka0 rfl (wt_at (k := 21) (t := 132) hWT ka0 rfl) rfl ⟨rfl, rfl⟩ aw_895 dX8_judge_33 ?_
          refine lv_aload_n C0.1 C0.2.1 dX8_judge_36 rfl (lv_at hl 0 rfl) ?_
          refine fl_getr (k := 14) (t := 340) ck_9 C0 hF ka0 rfl (wt_at (k := 14) (t := 340) hWT ka0 rfl) rfl ⟨rfl, rfl⟩ aw_888 dX8_judge_37 ?_
          refine lv_iload_n C0.1 C0.2.1 dX8_judge_40 rfl (lv_at hl 2 rfl) ?_
          obtain ⟨hc, hf⟩ := ck_f hf
          refine fl_iald (n := 60) C0 hF (wt_at (k := 14) (t := 340) hWT ka0 rfl) rx2 hc dX8_judge_41 ?_
          obtain ⟨hc, hf⟩ := ck_f hf
          refine fl_iald (n := 8) C0 hF (wt_at (k := 21) (t := 132) hWT ka0 rfl) (hF.rI _ _) hc dX8_judge_42 ?_
          refine lv_aload_n C0.1 C0.2.1 dX8_judge_43 rfl (lv_at hl 0 rfl) ?_
          refine fl_getr (k := 21) (t := 132) ck_9 C0 hF ka0 rfl (wt_at (k := 21) (t := 132) hWT ka0 rfl) rfl ⟨rfl, rfl⟩ aw_895 dX8_judge_44 ?_
          refine lv_aload_n C0.1 C0.2.1 dX8_judge_47 rfl (lv_at hl 0 rfl) ?_
          refine fl_getr (k := 14) (t := 340) ck_9 C0 hF ka0 rfl (wt_at (k := 14) (t := 340) hWT ka0 rfl) rfl ⟨rfl, rfl⟩ aw_888 dX8_judge_48 ?_
          refine lv_iload_n C0.1 C0.2.1 dX8_judge_51 rfl (lv_at hl 1 rfl) ?_
          obtain ⟨hc, hf⟩ := ck_f hf
          refine fl_iald (n := 60) C0 hF (wt_at (k := 14) (t := 340) hWT ka0 rfl) rx1 hc dX8_judge_52 ?_
          obtain ⟨hc, hf⟩ := ck_f hf
          refine fl_iald (n := 8) C0 hF (wt_at (k := 21) (t := 132) hWT ka0 rfl) (hF.rI _ _) hc dX8_judge_53 ?_
          refine fl_icmp_ge (tgt := 61) C0 (hF.rI _ _) (hF.rI _ _) dX8_judge_54 (by decide) (fun c5 => ?_) (fun c5 => ?_)
          · replace hf := (if_pos c5).symm.trans hf
            exact b_X8_judge_61 C0 hr hWT ih I a0 x1 x2 _ _ _ ka0 rx1 rx2 hF (lv_sub hl [0, 1, 2] rfl) hf
          · replace hf := (if_neg c5).symm.trans hf
            exact b_X8_judge_57 C0 hr hWT ih I a0 x1 x2 _ _ _ ka0 rx1 rx2 hF (lv_sub hl [0, 1, 2] rfl) hf
theorem pm_X8_judge : plainM yX8_judge 0 := by decide +kernel
set_option maxRecDepth 100000 in
set_option maxHeartbeats 4000000 in
theorem c_X8_judge (l : Launch) (D : va_G) (cy : Nat → ClassId) (B : Nat) (L : List Nat) (K : KT) (P : PT) (J : IT) (hWT : WT K P) (I : IT) (a0 : Nat) (ka0 : K a0 = 9) {r : Int} {I' : IT} (hf : f_X8_judge K P I a0 = some (r, I')) : Met l yX8_judge [.code yX8_judge cX8_judge 4 (some .int)] rm_X8_judge (va_Pc [.ref a0] (FW D cy B L K P J I)) (QI D cy B L K P J (r, I')) 0 0 (fun q => B ≤ q) := by
  refine fl_body (own := "RejudgeHallModel") [.ref a0] (by decide) rfl (Nat.le_of_ble_eq_true rfl) ?_
  intro p e s m args below meth c ls C0 hr hF hl
  have hl : lv_has ls 4 [(0, .ref a0)] := hl
  unfold f_X8_judge at hf
  refine lv_aload_n C0.1 C0.2.1 dX8_judge_0 rfl (lv_at hl 0 rfl) ?_
  refine fl_iconst C0 dX8_judge_1 ?_
  refine fl_puti (k := 38) ck_9 C0 hF ka0 rfl (rgk 0 rfl) ⟨rfl, rfl, rfl⟩ aw_912 dX8_judge_2 (fun H locs hF1 => ?_)
  obtain ⟨I1, eI1, hf⟩ := bnd_f hf
  rw [eI1] at hF1
  refine fl_iconst C0 dX8_judge_5 ?_
  refine lv_istore_n (lv' := [(1, iv (-1)), (0, .ref a0)]) C0.1 C0.2.1 dX8_judge_6 rfl hl (by decide) rfl (fun ls hl => ?_)
  refine fl_iconst C0 dX8_judge_7 ?_
  refine lv_istore_n (lv' := [(2, iv 0), (1, iv (-1)), (0, .ref a0)]) C0.1 C0.2.1 dX8_judge_8 rfl hl (by decide) rfl (fun ls hl => ?_)
  exact b_X8_judge_9 C0 hr hWT  FU I1 a0 ((-1)) 0 _ _ _ ka0 ((rgk (-1) rfl)) ((rgk 0 rfl)) hF1 (lv_sub hl [2, 1, 0] rfl) hf
-- RejudgeHallModel.rejudge(I)I
abbrev rm_X8_rejudge : Room := { frames := 2, cells := 0, slots := 0, locals := 43 }
def f_X8_rejudge_81 (K : KT) (P : PT) (k21 : IT → Nat → Int → Int → Int → Option (Int × IT)) (I : IT) (a0 : Nat) (x1 : Int) (x2 : Int) (x3 : Int) : Option (Int × IT) := k21 I a0 x1 x2 ((wr (x3 + 1)))
def f_X8_rejudge_21 (K : KT) (P : PT) : Nat → IT → Nat → Int → Int → Int → Option (Int × IT)
  | 0, _, _, _, _, _ => none
  | n + 1, I, a0, x1, x2, x3 => if (I a0 13) ≤ x3 then (some (x2, I)) else (if (I a0 38) = 0 then (ck (0 ≤ x3 ∧ x3 < 60) <| if (I ((P a0 15)) (x3 : Int).toNat) = x1 then (ck (0 ≤ x3 ∧ x3 < 60) <| if (I ((P a0 17)) (x3 : Int).toNat) = (-1) then (f_X8_rejudge_81 K P ((f_X8_rejudge_21 K P  n)) I a0 x1 x2 x3) else (ck (0 ≤ x3 ∧ x3 < 60) <| ck (0 ≤ x1 ∧ x1 < 6) <| if (I ((P a0 20)) (x3 : Int).toNat) = (I ((P a0 9)) (x1 : Int).toNat) then (f_X8_rejudge_81 K P ((f_X8_rejudge_21 K P  n)) I a0 x1 x2 x3) else (ck (0 ≤ x3 ∧ x3 < 60) <| bnd (up I ((P a0 17)) (x3 : Int).toNat (-1)) fun I9 => f_X8_rejudge_81 K P ((f_X8_rejudge_21 K P  n)) I9 a0 x1 ((wr (x2 + 1))) x3))) else (f_X8_rejudge_81 K P ((f_X8_rejudge_21 K P  n)) I a0 x1 x2 x3)) else (some (x2, I)))
def f_X8_rejudge_14 (K : KT) (P : PT) (I : IT) (a0 : Nat) (x1 : Int) (t0 : Int) (b1 : Nat) : Option (Int × IT) := bnd (up I b1 38 t0) fun I3 => f_X8_rejudge_21 K P  FU I3 a0 x1 0 0
def f_X8_rejudge (K : KT) (P : PT) (I : IT) (a0 : Nat) (x1 : Int) : Option (Int × IT) := bp (f_X8_isProblem K P I a0 x1) fun r1 => if r1 = 0 then (f_X8_rejudge_14 K P  I a0 x1 1 a0) else (f_X8_rejudge_14 K P  I a0 x1 0 a0)
abbrev G_X8_rejudge_81 (p : Program) (l : Launch) (e : Env) (s : State) (m : MethodId) (args : Array Value) (below : List Frame) (meth : Method) (c : Code) (D : va_G) (cy : Nat → ClassId) (B : Nat) (L : List Nat) (K : KT) (P : PT) (J : IT) (res : Int × IT) (f : IT → Nat → Int → Int → Int → Option (Int × IT)) : Prop := ∀ (I : IT) (a0 : Nat) (x1 : Int) (x2 : Int) (x3 : Int) (H : Heap) (locs : List Loc) (ls : Array Slot), K a0 = 9 → rg x1 → rg x2 → rg x3 → FS D cy B L K P J s.heap I H locs → lv_has ls 4 [(0, .ref a0), (1, iv x1), (2, iv x2), (3, iv x3)] → f I a0 x1 x2 x3 = some res → W p l e rm_X8_rejudge s m args below meth c H locs 0 0 (MQ below (QI D cy B L K P J res) args s 0 0 (fun q => B ≤ q)) (F0 m 81 ls [])
abbrev G_X8_rejudge_21 (p : Program) (l : Launch) (e : Env) (s : State) (m : MethodId) (args : Array Value) (below : List Frame) (meth : Method) (c : Code) (D : va_G) (cy : Nat → ClassId) (B : Nat) (L : List Nat) (K : KT) (P : PT) (J : IT) (res : Int × IT) (f : IT → Nat → Int → Int → Int → Option (Int × IT)) : Prop := ∀ (I : IT) (a0 : Nat) (x1 : Int) (x2 : Int) (x3 : Int) (H : Heap) (locs : List Loc) (ls : Array Slot), K a0 = 9 → rg x1 → rg x2 → rg x3 → FS D cy B L K P J s.heap I H locs → lv_has ls 4 [(0, .ref a0), (1, iv x1), (2, iv x2), (3, iv x3)] → f I a0 x1 x2 x3 = some res → W p l e rm_X8_rejudge s m args below meth c H locs 0 0 (MQ below (QI D cy B L K P J res) args s 0 0 (fun q => B ≤ q)) (F0 m 21 ls [])
abbrev G_X8_rejudge_14 (p : Program) (l : Launch) (e : Env) (s : State) (m : MethodId) (args : Array Value) (below : List Frame) (meth : Method) (c : Code) (D : va_G) (cy : Nat → ClassId) (B : Nat) (L : List Nat) (K : KT) (P : PT) (J : IT) (res : Int × IT) (f : IT → Nat → Int → Int → Nat → Option (Int × IT)) : Prop := ∀ (I : IT) (a0 : Nat) (x1 : Int) (t0 : Int) (b1 : Nat) (H : Heap) (locs : List Loc) (ls : Array Slot), K a0 = 9 → rg x1 → rg t0 → K b1 = 9 → FS D cy B L K P J s.heap I H locs → lv_has ls 4 [(0, .ref a0), (1, iv x1)] → f I a0 x1 t0 b1 = some res → W p l e rm_X8_rejudge s m args below meth c H locs 0 0 (MQ below (QI D cy B L K P J res) args s 0 0 (fun q => B ≤ q)) (F0 m 14 ls [iv t0, .ref b1])
set_option maxRecDepth 100000 in
set_option maxHeartbeats 4000000 in
theorem b_X8_rejudge_81 {p : Program} {l : Launch} {e : Env} {s : State} {m : MethodId} {args : Array Value} {below : List Frame} {meth : Method} {c : Code} {D : va_G} {cy : Nat → ClassId} {B : Nat} {L : List Nat} {K : KT} {P : PT} {J : IT} {res : Int × IT} (C0 : FC D cy B p s m meth c "RejudgeHallModel" cX8_rejudge 4) (hr : meth.sig.returnType = (some .int)) (hWT : WT K P) {k21 : IT → Nat → Int → Int → Int → Option (Int × IT)} (hk21 : G_X8_rejudge_21 p l e s m args below meth c D cy B L K P J res k21) : G_X8_rejudge_81 p l e s m args below meth c D cy B L K P J res (f_X8_rejudge_81 K P k21) := by
  intro I a0 x1 x2 x3 H locs ls ka0 rx1 rx2 rx3 hF hl hf
  unfold f_X8_rejudge_81 at hf
  refine fl_iinc (lv' := [(3, iv (wr (x3 + 1))), (0, .ref a0), (1, iv x1), (2, iv x2)]) C0 dX8_rejudge_81 hl (k := 3) rfl (by decide) rfl (fun ls hl => ?_)
  refine fl_goto (tgt := 21) C0 dX8_rejudge_84 (by decide) ?_
  exact hk21 I a0 x1 x2 ((wr (x3 + 1))) _ _ _ ka0 rx1 rx2 ((rg_wr _)) hF (lv_sub hl [1, 2, 3, 0] rfl) hf
set_option maxRecDepth 100000 in
set_option maxHeartbeats 4000000 in
theorem b_X8_rejudge_21 {p : Program} {l : Launch} {e : Env} {s : State} {m : MethodId} {args : Array Value} {below : List Frame} {meth : Method} {c : Code} {D : va_G} {cy : Nat → ClassId} {B : Nat} {L : List Nat} {K : KT} {P : PT} {J : IT} {res : Int × IT} (C0 : FC D cy B p s m meth c "RejudgeHallModel" cX8_rejudge 4) (hr : meth.sig.returnType = (some .int)) (hWT : WT K P) : ∀ n : Nat, G_X8_rejudge_21 p l e s m args below meth c D cy B L K P J res (f_X8_rejudge_21 K P  n)
  | 0 => by
    intro I a0 x1 x2 x3 H locs ls ka0 rx1 rx2 rx3 hF hl hf
    cases hf
  | n + 1 => by
    have ih : G_X8_rejudge_21 p l e s m args below meth c D cy B L K P J res (f_X8_rejudge_21 K P  n)  := b_X8_rejudge_21 C0 hr hWT  n
    intro I a0 x1 x2 x3 H locs ls ka0 rx1 rx2 rx3 hF hl hf
    rw [f_X8_rejudge_21] at hf
    refine lv_iload_n C0.1 C0.2.1 dX8_rejudge_21 rfl (lv_at hl 3 rfl) ?_
    refine lv_aload_n C0.1 C0.2.1 dX8_rejudge_22 rfl (lv_at hl 0 rfl) ?_
    refine fl_geti (k := 13) ck_9 C0 hF ka0 rfl ⟨rfl, rfl⟩ aw_887 dX8_rejudge_23 ?_
    refine fl_icmp_ge (tgt := 87) C0 rx3 (hF.rI _ _) dX8_rejudge_26 (by decide) (fun c4 => ?_) (fun c4 => ?_)
    · replace hf := (if_pos c4).symm.trans hf
      refine lv_iload_n C0.1 C0.2.1 dX8_rejudge_87 rfl (lv_at hl 2 rfl) ?_
      cases hf
      exact fl_iret C0 hF hr rx2 rfl dX8_rejudge_88
    · replace hf := (if_neg c4).symm.trans hf
      refine lv_aload_n C0.1 C0.2.1 dX8_rejudge_29 rfl (lv_at hl 0 rfl) ?_
      refine fl_geti (k := 38) ck_9 C0 hF ka0 rfl ⟨rfl, rfl⟩ aw_912 dX8_rejudge_30 ?_
      refine fl_if_ne (tgt := 87) C0 (hF.rI _ _) dX8_rejudge_33 (by decide) (fun c5 => ?_) (fun c5 => ?_)
      · replace hf := (if_neg c5).symm.trans hf
        refine lv_iload_n C0.1 C0.2.1 dX8_rejudge_87 rfl (lv_at hl 2 rfl) ?_
        cases hf
        exact fl_iret C0 hF hr rx2 rfl dX8_rejudge_88
      · replace hf := (if_pos c5).symm.trans hf
        refine lv_aload_n C0.1 C0.2.1 dX8_rejudge_36 rfl (lv_at hl 0 rfl) ?_
        refine fl_getr (k := 15) (t := 340) ck_9 C0 hF ka0 rfl (wt_at (k := 15) (t := 340) hWT ka0 rfl) rfl ⟨rfl, rfl⟩ aw_889 dX8_rejudge_37 ?_
        refine lv_iload_n C0.1 C0.2.1 dX8_rejudge_40 rfl (lv_at hl 3 rfl) ?_
        obtain ⟨hc, hf⟩ := ck_f hf
        refine fl_iald (n := 60) C0 hF (wt_at (k := 15) (t := 340) hWT ka0 rfl) rx3 hc dX8_rejudge_41 ?_
        refine lv_iload_n C0.1 C0.2.1 dX8_rejudge_42 rfl (lv_at hl 1 rfl) ?_
        refine fl_icmp_ne (tgt := 81) C0 (hF.rI _ _) rx1 dX8_rejudge_43 (by decide) (fun c6 => ?_) (fun c6 => ?_)
        · replace hf := (if_neg c6).symm.trans hf
          exact b_X8_rejudge_81 C0 hr hWT ih I a0 x1 x2 x3 _ _ _ ka0 rx1 rx2 rx3 hF (lv_sub hl [0, 1, 2, 3] rfl) hf
        · replace hf := (if_pos c6).symm.trans hf
          refine lv_aload_n C0.1 C0.2.1 dX8_rejudge_46 rfl (lv_at hl 0 rfl) ?_
          refine fl_getr (k := 17) (t := 340) ck_9 C0 hF ka0 rfl (wt_at (k := 17) (t := 340) hWT ka0 rfl) rfl ⟨rfl, rfl⟩ aw_891 dX8_rejudge_47 ?_
          refine lv_iload_n C0.1 C0.2.1 dX8_rejudge_50 rfl (lv_at hl 3 rfl) ?_
          obtain ⟨hc, hf⟩ := ck_f hf
          refine fl_iald (n := 60) C0 hF (wt_at (k := 17) (t := 340) hWT ka0 rfl) rx3 hc dX8_rejudge_51 ?_
          refine fl_iconst C0 dX8_rejudge_52 ?_
          refine fl_icmp_eq (tgt := 81) C0 (hF.rI _ _) (rgk (-1) rfl) dX8_rejudge_53 (by decide) (fun c7 => ?_) (fun c7 => ?_)
          · replace hf := (if_pos c7).symm.trans hf
            exact b_X8_rejudge_81 C0 hr hWT ih I a0 x1 x2 x3 _ _ _ ka0 rx1 rx2 rx3 hF (lv_sub hl [0, 1, 2, 3] rfl) hf
          · replace hf := (if_neg c7).symm.trans hf
            refine lv_aload_n C0.1 C0.2.1 dX8_rejudge_56 rfl (lv_at hl 0 rfl) ?_
            refine fl_getr (k := 20) (t := 340) ck_9 C0 hF ka0 rfl (wt_at (k := 20) (t := 340) hWT ka0 rfl) rfl ⟨rfl, rfl⟩ aw_894 dX8_rejudge_57 ?_
            refine lv_iload_n C0.1 C0.2.1 dX8_rejudge_60 rfl (lv_at hl 3 rfl) ?_
            obtain ⟨hc, hf⟩ := ck_f hf
            refine fl_iald (n := 60) C0 hF (wt_at (k := 20) (t := 340) hWT ka0 rfl) rx3 hc dX8_rejudge_61 ?_
            refine lv_aload_n C0.1 C0.2.1 dX8_rejudge_62 rfl (lv_at hl 0 rfl) ?_
            refine fl_getr (k := 9) (t := 124) ck_9 C0 hF ka0 rfl (wt_at (k := 9) (t := 124) hWT ka0 rfl) rfl ⟨rfl, rfl⟩ aw_883 dX8_rejudge_63 ?_
            refine lv_iload_n C0.1 C0.2.1 dX8_rejudge_66 rfl (lv_at hl 1 rfl) ?_
            obtain ⟨hc, hf⟩ := ck_f hf
            refine fl_iald (n := 6) C0 hF (wt_at (k := 9) (t := 124) hWT ka0 rfl) rx1 hc dX8_rejudge_67 ?_
            refine fl_icmp_eq (tgt := 81) C0 (hF.rI _ _) (hF.rI _ _) dX8_rejudge_68 (by decide) (fun c8 => ?_) (fun c8 => ?_)
            · replace hf := (if_pos c8).symm.trans hf
              exact b_X8_rejudge_81 C0 hr hWT ih I a0 x1 x2 x3 _ _ _ ka0 rx1 rx2 rx3 hF (lv_sub hl [0, 1, 2, 3] rfl) hf
            · replace hf := (if_neg c8).symm.trans hf
              refine lv_aload_n C0.1 C0.2.1 dX8_rejudge_71 rfl (lv_at hl 0 rfl) ?_
              refine fl_getr (k := 17) (t := 340) ck_9 C0 hF ka0 rfl (wt_at (k := 17) (t := 340) hWT ka0 rfl) rfl ⟨rfl, rfl⟩ aw_891 dX8_rejudge_72 ?_
              refine lv_iload_n C0.1 C0.2.1 dX8_rejudge_75 rfl (lv_at hl 3 rfl) ?_
              refine fl_iconst C0 dX8_rejudge_76 ?_
              obtain ⟨hc, hf⟩ := ck_f hf
              refine fl_iast (n := 60) C0 hF (wt_at (k := 17) (t := 340) hWT ka0 rfl) rx3 (rgk (-1) rfl) hc dX8_rejudge_77 (fun H locs hF9 => ?_)
              obtain ⟨I9, eI9, hf⟩ := bnd_f hf
              rw [eI9] at hF9
              refine fl_iinc (lv' := [(2, iv (wr (x2 + 1))), (0, .ref a0), (1, iv x1), (3, iv x3)]) C0 dX8_rejudge_78 hl (k := 2) rfl (by decide) rfl (fun ls hl => ?_)
              exact b_X8_rejudge_81 C0 hr hWT ih I9 a0 x1 ((wr (x2 + 1))) x3 _ _ _ ka0 rx1 ((rg_wr _)) rx3 hF9 (lv_sub hl [1, 2, 0, 3] rfl) hf
set_option maxRecDepth 100000 in
set_option maxHeartbeats 4000000 in
theorem b_X8_rejudge_14 {p : Program} {l : Launch} {e : Env} {s : State} {m : MethodId} {args : Array Value} {below : List Frame} {meth : Method} {c : Code} {D : va_G} {cy : Nat → ClassId} {B : Nat} {L : List Nat} {K : KT} {P : PT} {J : IT} {res : Int × IT} (C0 : FC D cy B p s m meth c "RejudgeHallModel" cX8_rejudge 4) (hr : meth.sig.returnType = (some .int)) (hWT : WT K P) : G_X8_rejudge_14 p l e s m args below meth c D cy B L K P J res (f_X8_rejudge_14 K P ) := by
  intro I a0 x1 t0 b1 H locs ls ka0 rx1 rt0 kb1 hF hl hf
  unfold f_X8_rejudge_14 at hf
  refine fl_puti (k := 38) ck_9 C0 hF kb1 rfl rt0 ⟨rfl, rfl, rfl⟩ aw_912 dX8_rejudge_14 (fun H locs hF3 => ?_)
  obtain ⟨I3, eI3, hf⟩ := bnd_f hf
  rw [eI3] at hF3
  refine fl_iconst C0 dX8_rejudge_17 ?_
  refine lv_istore_n (lv' := [(2, iv 0), (0, .ref a0), (1, iv x1)]) C0.1 C0.2.1 dX8_rejudge_18 rfl hl (by decide) rfl (fun ls hl => ?_)
  refine fl_iconst C0 dX8_rejudge_19 ?_
  refine lv_istore_n (lv' := [(3, iv 0), (2, iv 0), (0, .ref a0), (1, iv x1)]) C0.1 C0.2.1 dX8_rejudge_20 rfl hl (by decide) rfl (fun ls hl => ?_)
  exact b_X8_rejudge_21 C0 hr hWT  FU I3 a0 x1 0 0 _ _ _ ka0 rx1 ((rgk 0 rfl)) ((rgk 0 rfl)) hF3 (lv_sub hl [2, 3, 1, 0] rfl) hf
theorem pm_X8_rejudge : plainM yX8_rejudge 1 := by decide +kernel
set_option maxRecDepth 100000 in
set_option maxHeartbeats 4000000 in
theorem c_X8_rejudge (l : Launch) (D : va_G) (cy : Nat → ClassId) (B : Nat) (L : List Nat) (K : KT) (P : PT) (J : IT) (hWT : WT K P) (I : IT) (a0 : Nat) (x1 : Int) (ka0 : K a0 = 9) (rx1 : rg x1) {r : Int} {I' : IT} (hf : f_X8_rejudge K P I a0 x1 = some (r, I')) : Met l yX8_rejudge [.code yX8_rejudge cX8_rejudge 4 (some .int)] rm_X8_rejudge (va_Pc [.ref a0, iv x1] (FW D cy B L K P J I)) (QI D cy B L K P J (r, I')) 0 0 (fun q => B ≤ q) := by
  refine fl_body (own := "RejudgeHallModel") [.ref a0, iv x1] (by decide) rfl (Nat.le_of_ble_eq_true rfl) ?_
  intro p e s m args below meth c ls C0 hr hF hl
  have hl : lv_has ls 4 [(0, .ref a0), (1, iv x1)] := hl
  unfold f_X8_rejudge at hf
  refine lv_aload_n C0.1 C0.2.1 dX8_rejudge_0 rfl (lv_at hl 0 rfl) ?_
  refine lv_aload_n C0.1 C0.2.1 dX8_rejudge_1 rfl (lv_at hl 0 rfl) ?_
  refine lv_iload_n C0.1 C0.2.1 dX8_rejudge_2 rfl (lv_at hl 1 rfl) ?_
  obtain ⟨r1, hq1, hf⟩ := bp_f hf
  refine fl_ri hF (fl_runV (As := [iv x1]) (rest := [.ref a0]) C0 hF hl.1 ck_9 ka0 rfl (c_X8_isProblem l D cy B L K P J hWT I a0 x1 ka0 rx1 hq1) aw_1053 aw_1055 aw_49 aw_73 aw_1056 rfl rfl pm_X8_isProblem rfl rfl ⟨Nat.le_of_ble_eq_true rfl, Nat.le_of_ble_eq_true rfl⟩ rfl (Nat.le_of_ble_eq_true rfl) dX8_rejudge_3 ⟨Nat.le_of_ble_eq_true rfl, Nat.le_of_ble_eq_true rfl⟩) (fun H locs hF1 rr1 => ?_)
  refine fl_if_eq (tgt := 13) C0 rr1 dX8_rejudge_6 (by decide) (fun c2 => ?_) (fun c2 => ?_)
  · replace hf := (if_pos c2).symm.trans hf
    refine fl_iconst C0 dX8_rejudge_13 ?_
    exact b_X8_rejudge_14 C0 hr hWT  I a0 x1 1 a0 _ _ _ ka0 rx1 ((rgk 1 rfl)) ka0 hF1 (lv_sub hl [0, 1] rfl) hf
  · replace hf := (if_neg c2).symm.trans hf
    refine fl_iconst C0 dX8_rejudge_9 ?_
    refine fl_goto (tgt := 14) C0 dX8_rejudge_10 (by decide) ?_
    exact b_X8_rejudge_14 C0 hr hWT  I a0 x1 0 a0 _ _ _ ka0 rx1 ((rgk 0 rfl)) ka0 hF1 (lv_sub hl [0, 1] rfl) hf
-- RejudgeHallModel.entry(II)I
abbrev rm_X8_entry : Room := { frames := 2, cells := 0, slots := 0, locals := 43 }
def f_X8_entry_55 (K : KT) (P : PT) (I : IT) (a0 : Nat) (x1 : Int) (x2 : Int) (t0 : Int) : Option (Int × IT) := if x2 = 0 then (ck (0 ≤ x1 ∧ x1 < 60) <| some ((I ((P a0 17)) (x1 : Int).toNat), I)) else if x2 = 1 then (if t0 = 0 then (ck (0 ≤ x1 ∧ x1 < 60) <| some ((I ((P a0 18)) (x1 : Int).toNat), I)) else (some ((-1), I))) else if x2 = 2 then (if t0 = 0 then (ck (0 ≤ x1 ∧ x1 < 60) <| some ((I ((P a0 19)) (x1 : Int).toNat), I)) else (some (0, I))) else if x2 = 3 then (if t0 = 0 then (ck (0 ≤ x1 ∧ x1 < 60) <| some ((I ((P a0 20)) (x1 : Int).toNat), I)) else (some ((-1), I))) else if x2 = 4 then (ck (0 ≤ x1 ∧ x1 < 60) <| some ((I ((P a0 14)) (x1 : Int).toNat), I)) else if x2 = 5 then (ck (0 ≤ x1 ∧ x1 < 60) <| some ((I ((P a0 15)) (x1 : Int).toNat), I)) else (ck (0 ≤ x1 ∧ x1 < 60) <| some ((I ((P a0 16)) (x1 : Int).toNat), I))
def f_X8_entry_28 (K : KT) (P : PT) (I : IT) (a0 : Nat) (x1 : Int) (x2 : Int) (t0 : Int) (b1 : Nat) : Option (Int × IT) := bnd (up I b1 38 t0) fun I5 => if (I5 a0 38) ≤ 0 then (ck (0 ≤ x1 ∧ x1 < 60) <| if (I5 ((P a0 17)) (x1 : Int).toNat) = (-1) then (f_X8_entry_55 K P  I5 a0 x1 x2 1) else (f_X8_entry_55 K P  I5 a0 x1 x2 0)) else (some (0, I5))
def f_X8_entry (K : KT) (P : PT) (I : IT) (a0 : Nat) (x1 : Int) (x2 : Int) : Option (Int × IT) := bp (f_X8_isEntry K P I a0 x1) fun r1 => if r1 = 0 then (f_X8_entry_28 K P  I a0 x1 x2 1 a0) else (bp (f_X8_isIn K P I x2 0 6) fun r3 => if r3 = 0 then (f_X8_entry_28 K P  I a0 x1 x2 2 a0) else (f_X8_entry_28 K P  I a0 x1 x2 0 a0))
abbrev G_X8_entry_55 (p : Program) (l : Launch) (e : Env) (s : State) (m : MethodId) (args : Array Value) (below : List Frame) (meth : Method) (c : Code) (D : va_G) (cy : Nat → ClassId) (B : Nat) (L : List Nat) (K : KT) (P : PT) (J : IT) (res : Int × IT) (f : IT → Nat → Int → Int → Int → Option (Int × IT)) : Prop := ∀ (I : IT) (a0 : Nat) (x1 : Int) (x2 : Int) (t0 : Int) (H : Heap) (locs : List Loc) (ls : Array Slot), K a0 = 9 → rg x1 → rg x2 → rg t0 → FS D cy B L K P J s.heap I H locs → lv_has ls 4 [(0, .ref a0), (1, iv x1), (2, iv x2)] → f I a0 x1 x2 t0 = some res → W p l e rm_X8_entry s m args below meth c H locs 0 0 (MQ below (QI D cy B L K P J res) args s 0 0 (fun q => B ≤ q)) (F0 m 55 ls [iv t0])
abbrev G_X8_entry_28 (p : Program) (l : Launch) (e : Env) (s : State) (m : MethodId) (args : Array Value) (below : List Frame) (meth : Method) (c : Code) (D : va_G) (cy : Nat → ClassId) (B : Nat) (L : List Nat) (K : KT) (P : PT) (J : IT) (res : Int × IT) (f : IT → Nat → Int → Int → Int → Nat → Option (Int × IT)) : Prop := ∀ (I : IT) (a0 : Nat) (x1 : Int) (x2 : Int) (t0 : Int) (b1 : Nat) (H : Heap) (locs : List Loc) (ls : Array Slot), K a0 = 9 → rg x1 → rg x2 → rg t0 → K b1 = 9 → FS D cy B L K P J s.heap I H locs → lv_has ls 4 [(0, .ref a0), (1, iv x1), (2, iv x2)] → f I a0 x1 x2 t0 b1 = some res → W p l e rm_X8_entry s m args below meth c H locs 0 0 (MQ below (QI D cy B L K P J res) args s 0 0 (fun q => B ≤ q)) (F0 m 28 ls [iv t0, .ref b1])
set_option maxRecDepth 100000 in
set_option maxHeartbeats 4000000 in
theorem b_X8_entry_55 {p : Program} {l : Launch} {e : Env} {s : State} {m : MethodId} {args : Array Value} {below : List Frame} {meth : Method} {c : Code} {D : va_G} {cy : Nat → ClassId} {B : Nat} {L : List Nat} {K : KT} {P : PT} {J : IT} {res : Int × IT} (C0 : FC D cy B p s m meth c "RejudgeHallModel" cX8_entry 4) (hr : meth.sig.returnType = (some .int)) (hWT : WT K P) : G_X8_entry_55 p l e s m args below meth c D cy B L K P J res (f_X8_entry_55 K P ) := by
  intro I a0 x1 x2 t0 H locs ls ka0 rx1 rx2 rt0 hF hl hf
  unfold f_X8_entry_55 at hf
  refine lv_istore_n (lv' := [(3, iv t0), (0, .ref a0), (1, iv x1), (2, iv x2)]) C0.1 C0.2.1 dX8_entry_55 rfl hl (by decide) rfl (fun ls hl => ?_)
  refine lv_iload_n C0.1 C0.2.1 dX8_entry_56 rfl (lv_at hl 3 rfl) ?_
  rcases Classical.em (x2 = 0) with c8 | c8
  · replace hf := (if_pos c8).symm.trans hf
    refine fl_tableIn (v := 0) (tgt := 96) C0 rx2 dX8_entry_57 c8 (by decide) rfl (by decide) ?_
    refine lv_aload_n C0.1 C0.2.1 dX8_entry_96 rfl (lv_at hl 1 rfl) ?_
    refine fl_getr (k := 17) (t := 340) ck_9 C0 hF ka0 rfl (wt_at (k := 17) (t := 340) hWT ka0 rfl) rfl ⟨rfl, rfl⟩ aw_891 dX8_entry_97 ?_
    refine lv_iload_n C0.1 C0.2.1 dX8_entry_100 rfl (lv_at hl 2 rfl) ?_
    obtain ⟨hc, hf⟩ := ck_f hf
    refine fl_iald (n := 60) C0 hF (wt_at (k := 17) (t := 340) hWT ka0 rfl) rx1 hc dX8_entry_101 ?_
    cases hf
    exact fl_iret C0 hF hr (hF.rI _ _) rfl dX8_entry_102
  · replace hf := (if_neg c8).symm.trans hf
    rcases Classical.em (x2 = 1) with c9 | c9
    · replace hf := (if_pos c9).symm.trans hf
      refine fl_tableIn (v := 1) (tgt := 103) C0 rx2 dX8_entry_57 c9 (by decide) rfl (by decide) ?_
      refine lv_iload_n C0.1 C0.2.1 dX8_entry_103 rfl (lv_at hl 0 rfl) ?_
      refine fl_if_eq (tgt := 111) C0 rt0 dX8_entry_104 (by decide) (fun c10 => ?_) (fun c10 => ?_)
      · replace hf := (if_pos c10).symm.trans hf
        refine lv_aload_n C0.1 C0.2.1 dX8_entry_111 rfl (lv_at hl 1 rfl) ?_
        refine fl_getr (k := 18) (t := 340) ck_9 C0 hF ka0 rfl (wt_at (k := 18) (t := 340) hWT ka0 rfl) rfl ⟨rfl, rfl⟩ aw_892 dX8_entry_112 ?_
        refine lv_iload_n C0.1 C0.2.1 dX8_entry_115 rfl (lv_at hl 2 rfl) ?_
        obtain ⟨hc, hf⟩ := ck_f hf
        refine fl_iald (n := 60) C0 hF (wt_at (k := 18) (t := 340) hWT ka0 rfl) rx1 hc dX8_entry_116 ?_
        cases hf
        exact fl_iret C0 hF hr (hF.rI _ _) rfl dX8_entry_117
      · replace hf := (if_neg c10).symm.trans hf
        refine fl_iconst C0 dX8_entry_107 ?_
        refine fl_goto (tgt := 117) C0 dX8_entry_108 (by decide) ?_
        cases hf
        exact fl_iret C0 hF hr (rgk (-1) rfl) rfl dX8_entry_117
    · replace hf := (if_neg c9).symm.trans hf
      rcases Classical.em (x2 = 2) with c11 | c11
      · replace hf := (if_pos c11).symm.trans hf
        refine fl_tableIn (v := 2) (tgt := 118) C0 rx2 dX8_entry_57 c11 (by decide) rfl (by decide) ?_
        refine lv_iload_n C0.1 C0.2.1 dX8_entry_118 rfl (lv_at hl 0 rfl) ?_
        refine fl_if_eq (tgt := 126) C0 rt0 dX8_entry_119 (by decide) (fun c12 => ?_) (fun c12 => ?_)
        · replace hf := (if_pos c12).symm.trans hf
          refine lv_aload_n C0.1 C0.2.1 dX8_entry_126 rfl (lv_at hl 1 rfl) ?_
          refine fl_getr (k := 19) (t := 340) ck_9 C0 hF ka0 rfl (wt_at (k := 19) (t := 340) hWT ka0 rfl) rfl ⟨rfl, rfl⟩ aw_893 dX8_entry_127 ?_
          refine lv_iload_n C0.1 C0.2.1 dX8_entry_130 rfl (lv_at hl 2 rfl) ?_
          obtain ⟨hc, hf⟩ := ck_f hf
          refine fl_iald (n := 60) C0 hF (wt_at (k := 19) (t := 340) hWT ka0 rfl) rx1 hc dX8_entry_131 ?_
          cases hf
          exact fl_iret C0 hF hr (hF.rI _ _) rfl dX8_entry_132
        · replace hf := (if_neg c12).symm.trans hf
          refine fl_iconst C0 dX8_entry_122 ?_
          refine fl_goto (tgt := 132) C0 dX8_entry_123 (by decide) ?_
          cases hf
          exact fl_iret C0 hF hr (rgk 0 rfl) rfl dX8_entry_132
      · replace hf := (if_neg c11).symm.trans hf
        rcases Classical.em (x2 = 3) with c13 | c13
        · replace hf := (if_pos c13).symm.trans hf
          refine fl_tableIn (v := 3) (tgt := 133) C0 rx2 dX8_entry_57 c13 (by decide) rfl (by decide) ?_
          refine lv_iload_n C0.1 C0.2.1 dX8_entry_133 rfl (lv_at hl 0 rfl) ?_
          refine fl_if_eq (tgt := 141) C0 rt0 dX8_entry_134 (by decide) (fun c14 => ?_) (fun c14 => ?_)
          · replace hf := (if_pos c14).symm.trans hf
            refine lv_aload_n C0.1 C0.2.1 dX8_entry_141 rfl (lv_at hl 1 rfl) ?_
            refine fl_getr (k := 20) (t := 340) ck_9 C0 hF ka0 rfl (wt_at (k := 20) (t := 340) hWT ka0 rfl) rfl ⟨rfl, rfl⟩ aw_894 dX8_entry_142 ?_
            refine lv_iload_n C0.1 C0.2.1 dX8_entry_145 rfl (lv_at hl 2 rfl) ?_
            obtain ⟨hc, hf⟩ := ck_f hf
            refine fl_iald (n := 60) C0 hF (wt_at (k := 20) (t := 340) hWT ka0 rfl) rx1 hc dX8_entry_146 ?_
            cases hf
            exact fl_iret C0 hF hr (hF.rI _ _) rfl dX8_entry_147
          · replace hf := (if_neg c14).symm.trans hf
            refine fl_iconst C0 dX8_entry_137 ?_
            refine fl_goto (tgt := 147) C0 dX8_entry_138 (by decide) ?_
            cases hf
            exact fl_iret C0 hF hr (rgk (-1) rfl) rfl dX8_entry_147
        · replace hf := (if_neg c13).symm.trans hf
          rcases Classical.em (x2 = 4) with c15 | c15
          · replace hf := (if_pos c15).symm.trans hf
            refine fl_tableIn (v := 4) (tgt := 148) C0 rx2 dX8_entry_57 c15 (by decide) rfl (by decide) ?_
            refine lv_aload_n C0.1 C0.2.1 dX8_entry_148 rfl (lv_at hl 1 rfl) ?_
            refine fl_getr (k := 14) (t := 340) ck_9 C0 hF ka0 rfl (wt_at (k := 14) (t := 340) hWT ka0 rfl) rfl ⟨rfl, rfl⟩ aw_888 dX8_entry_149 ?_
            refine lv_iload_n C0.1 C0.2.1 dX8_entry_152 rfl (lv_at hl 2 rfl) ?_
            obtain ⟨hc, hf⟩ := ck_f hf
            refine fl_iald (n := 60) C0 hF (wt_at (k := 14) (t := 340) hWT ka0 rfl) rx1 hc dX8_entry_153 ?_
            cases hf
            exact fl_iret C0 hF hr (hF.rI _ _) rfl dX8_entry_154
          · replace hf := (if_neg c15).symm.trans hf
            rcases Classical.em (x2 = 5) with c16 | c16
            · replace hf := (if_pos c16).symm.trans hf
              refine fl_tableIn (v := 5) (tgt := 155) C0 rx2 dX8_entry_57 c16 (by decide) rfl (by decide) ?_
              refine lv_aload_n C0.1 C0.2.1 dX8_entry_155 rfl (lv_at hl 1 rfl) ?_
              refine fl_getr (k := 15) (t := 340) ck_9 C0 hF ka0 rfl (wt_at (k := 15) (t := 340) hWT ka0 rfl) rfl ⟨rfl, rfl⟩ aw_889 dX8_entry_156 ?_
              refine lv_iload_n C0.1 C0.2.1 dX8_entry_159 rfl (lv_at hl 2 rfl) ?_
              obtain ⟨hc, hf⟩ := ck_f hf
              refine fl_iald (n := 60) C0 hF (wt_at (k := 15) (t := 340) hWT ka0 rfl) rx1 hc dX8_entry_160 ?_
              cases hf
              exact fl_iret C0 hF hr (hF.rI _ _) rfl dX8_entry_161
            · replace hf := (if_neg c16).symm.trans hf
              refine fl_tableOut (tgt := 162) C0 rx2 dX8_entry_57 (by omega) (by decide) ?_
              refine lv_aload_n C0.1 C0.2.1 dX8_entry_162 rfl (lv_at hl 1 rfl) ?_
              refine fl_getr (k := 16) (t := 340) ck_9 C0 hF ka0 rfl (wt_at (k := 16) (t := 340) hWT ka0 rfl) rfl ⟨rfl, rfl⟩ aw_890 dX8_entry_163 ?_
              refine lv_iload_n C0.1 C0.2.1 dX8_entry_166 rfl (lv_at hl 2 rfl) ?_
              obtain ⟨hc, hf⟩ := ck_f hf
              refine fl_iald (n := 60) C0 hF (wt_at (k := 16) (t := 340) hWT ka0 rfl) rx1 hc dX8_entry_167 ?_
              cases hf
              exact fl_iret C0 hF hr (hF.rI _ _) rfl dX8_entry_168
set_option maxRecDepth 100000 in
set_option maxHeartbeats 4000000 in
theorem b_X8_entry_28 {p : Program} {l : Launch} {e : Env} {s : State} {m : MethodId} {args : Array Value} {below : List Frame} {meth : Method} {c : Code} {D : va_G} {cy : Nat → ClassId} {B : Nat} {L : List Nat} {K : KT} {P : PT} {J : IT} {res : Int × IT} (C0 : FC D cy B p s m meth c "RejudgeHallModel" cX8_entry 4) (hr : meth.sig.returnType = (some .int)) (hWT : WT K P) : G_X8_entry_28 p l e s m args below meth c D cy B L K P J res (f_X8_entry_28 K P ) := by
  intro I a0 x1 x2 t0 b1 H locs ls ka0 rx1 rx2 rt0 kb1 hF hl hf
  unfold f_X8_entry_28 at hf
  refine fl_puti (k := 38) ck_9 C0 hF kb1 rfl rt0 ⟨rfl, rfl, rfl⟩ aw_912 dX8_entry_28 (fun H locs hF5 => ?_)
  obtain ⟨I5, eI5, hf⟩ := bnd_f hf
  rw [eI5] at hF5
  refine lv_aload_n C0.1 C0.2.1 dX8_entry_31 rfl (lv_at hl 0 rfl) ?_
  refine fl_geti (k := 38) ck_9 C0 hF5 ka0 rfl ⟨rfl, rfl⟩ aw_912 dX8_entry_32 ?_
  refine fl_if_le (tgt := 40) C0 (hF5.rI _ _) dX8_entry_35 (by decide) (fun c6 => ?_) (fun c6 => ?_)
  · replace hf := (if_pos c6).symm.trans hf
    refine lv_aload_n C0.1 C0.2.1 dX8_entry_40 rfl (lv_at hl 0 rfl) ?_
    refine fl_getr (k := 17) (t := 340) ck_9 C0 hF5 ka0 rfl (wt_at (k := 17) (t := 340) hWT ka0 rfl) rfl ⟨rfl, rfl⟩ aw_891 dX8_entry_41 ?_
    refine lv_iload_n C0.1 C0.2.1 dX8_entry_44 rfl (lv_at hl 1 rfl) ?_
    obtain ⟨hc, hf⟩ := ck_f hf
    refine fl_iald (n := 60) C0 hF5 (wt_at (k := 17) (t := 340) hWT ka0 rfl) rx1 hc dX8_entry_45 ?_
    refine fl_iconst C0 dX8_entry_46 ?_
    refine fl_icmp_ne (tgt := 54) C0 (hF5.rI _ _) (rgk (-1) rfl) dX8_entry_47 (by decide) (fun c7 => ?_) (fun c7 => ?_)
    · replace hf := (if_neg c7).symm.trans hf
      refine fl_iconst C0 dX8_entry_54 ?_
      exact b_X8_entry_55 C0 hr hWT  I5 a0 x1 x2 0 _ _ _ ka0 rx1 rx2 ((rgk 0 rfl)) hF5 (lv_sub hl [0, 1, 2] rfl) hf
    · replace hf := (if_pos c7).symm.trans hf
      refine fl_iconst C0 dX8_entry_50 ?_
      refine fl_goto (tgt := 55) C0 dX8_entry_51 (by decide) ?_
      exact b_X8_entry_55 C0 hr hWT  I5 a0 x1 x2 1 _ _ _ ka0 rx1 rx2 ((rgk 1 rfl)) hF5 (lv_sub hl [0, 1, 2] rfl) hf
  · replace hf := (if_neg c6).symm.trans hf
    refine fl_iconst C0 dX8_entry_38 ?_
    cases hf
    exact fl_iret C0 hF5 hr (rgk 0 rfl) rfl dX8_entry_39
theorem pm_X8_entry : plainM yX8_entry 2 := by decide +kernel
set_option maxRecDepth 100000 in
set_option maxHeartbeats 4000000 in
theorem c_X8_entry (l : Launch) (D : va_G) (cy : Nat → ClassId) (B : Nat) (L : List Nat) (K : KT) (P : PT) (J : IT) (hWT : WT K P) (I : IT) (a0 : Nat) (x1 : Int) (x2 : Int) (ka0 : K a0 = 9) (rx1 : rg x1) (rx2 : rg x2) {r : Int} {I' : IT} (hf : f_X8_entry K P I a0 x1 x2 = some (r, I')) : Met l yX8_entry [.code yX8_entry cX8_entry 4 (some .int)] rm_X8_entry (va_Pc [.ref a0, iv x1, iv x2] (FW D cy B L K P J I)) (QI D cy B L K P J (r, I')) 0 0 (fun q => B ≤ q) := by
  refine fl_body (own := "RejudgeHallModel") [.ref a0, iv x1, iv x2] (by decide) rfl (Nat.le_of_ble_eq_true rfl) ?_
  intro p e s m args below meth c ls C0 hr hF hl
  have hl : lv_has ls 4 [(0, .ref a0), (1, iv x1), (2, iv x2)] := hl
  unfold f_X8_entry at hf
  refine lv_aload_n C0.1 C0.2.1 dX8_entry_0 rfl (lv_at hl 0 rfl) ?_
  refine lv_aload_n C0.1 C0.2.1 dX8_entry_1 rfl (lv_at hl 0 rfl) ?_
  refine lv_iload_n C0.1 C0.2.1 dX8_entry_2 rfl (lv_at hl 1 rfl) ?_
  obtain ⟨r1, hq1, hf⟩ := bp_f hf
  refine fl_ri hF (fl_runV (As := [iv x1]) (rest := [.ref a0]) C0 hF hl.1 ck_9 ka0 rfl (c_X8_isEntry l D cy B L K P J hWT I a0 x1 ka0 rx1 hq1) aw_1115 aw_1117 aw_55 aw_73 aw_1118 rfl rfl pm_X8_isEntry rfl rfl ⟨Nat.le_of_ble_eq_true rfl, Nat.le_of_ble_eq_true rfl⟩ rfl (Nat.le_of_ble_eq_true rfl) dX8_entry_3 ⟨Nat.le_of_ble_eq_true rfl, Nat.le_of_ble_eq_true rfl⟩) (fun H locs hF1 rr1 => ?_)
  refine fl_if_ne (tgt := 13) C0 rr1 dX8_entry_6 (by decide) (fun c2 => ?_) (fun c2 => ?_)
  · replace hf := (if_neg c2).symm.trans hf
    refine lv_iload_n C0.1 C0.2.1 dX8_entry_13 rfl (lv_at hl 2 rfl) ?_
    refine fl_iconst C0 dX8_entry_14 ?_
    refine fl_bipush C0 dX8_entry_15 (by decide) ?_
    obtain ⟨r3, hq3, hf⟩ := bp_f hf
    refine fl_ri hF1 (fl_runSG (As := [iv x2, iv 0, iv 6]) (rest := [.ref a0]) C0 hF1 hl.1 (c_X8_isIn l D cy B L K P J hWT I x2 0 6 rx2 ((rgk 0 rfl)) ((rgk 6 rfl)) hq3) aw_1000 aw_1001 aw_73 aw_1002 rfl pm_X8_isIn rfl rfl ⟨Nat.le_of_ble_eq_true rfl, Nat.le_of_ble_eq_true rfl⟩ rfl (Nat.le_of_ble_eq_true rfl) dX8_entry_17 ⟨Nat.le_of_ble_eq_true rfl, Nat.le_of_ble_eq_true rfl⟩) (fun H locs hF3 rr3 => ?_)
    refine fl_if_ne (tgt := 27) C0 rr3 dX8_entry_20 (by decide) (fun c4 => ?_) (fun c4 => ?_)
    · replace hf := (if_neg c4).symm.trans hf
      refine fl_iconst C0 dX8_entry_27 ?_
      exact b_X8_entry_28 C0 hr hWT  I a0 x1 x2 0 a0 _ _ _ ka0 rx1 rx2 ((rgk 0 rfl)) ka0 hF3 (lv_sub hl [0, 1, 2] rfl) hf
    · replace hf := (if_pos c4).symm.trans hf
      refine fl_iconst C0 dX8_entry_23 ?_
      refine fl_goto (tgt := 28) C0 dX8_entry_24 (by decide) ?_
      exact b_X8_entry_28 C0 hr hWT  I a0 x1 x2 2 a0 _ _ _ ka0 rx1 rx2 ((rgk 2 rfl)) ka0 hF3 (lv_sub hl [0, 1, 2] rfl) hf
  · replace hf := (if_pos c2).symm.trans hf
    refine fl_iconst C0 dX8_entry_9 ?_
    refine fl_goto (tgt := 28) C0 dX8_entry_10 (by decide) ?_
    exact b_X8_entry_28 C0 hr hWT  I a0 x1 x2 1 a0 _ _ _ ka0 rx1 rx2 ((rgk 1 rfl)) ka0 hF1 (lv_sub hl [0, 1, 2] rfl) hf
-- RejudgeHallModel.areAlike(II)Z
abbrev rm_X8_areAlike : Room := { frames := 0, cells := 0, slots := 0, locals := 0 }
def f_X8_areAlike_27 (K : KT) (P : PT) (I : IT) (a0 : Nat) (x1 : Int) (x2 : Int) (t0 : Int) : Option (Int) := ck (0 ≤ x1 ∧ x1 < 1072) <| ck (0 ≤ x2 ∧ x2 < 1072) <| if (I ((P a0 2)) (x1 : Int).toNat) = (I ((P a0 2)) (x2 : Int).toNat) then (if t0 = 0 then (some 1) else (ck (0 ≤ x1 ∧ x1 < 1072) <| ck (0 ≤ x2 ∧ x2 < 1072) <| if (I ((P a0 3)) (x1 : Int).toNat) = (I ((P a0 3)) (x2 : Int).toNat) then (some 1) else (some 0))) else (some 0)
def f_X8_areAlike_22 (K : KT) (P : PT) (I : IT) (a0 : Nat) (x1 : Int) (x2 : Int) : Option (Int) := f_X8_areAlike_27 K P  I a0 x1 x2 1
def f_X8_areAlike (K : KT) (P : PT) (I : IT) (a0 : Nat) (x1 : Int) (x2 : Int) : Option (Int) := ck (0 ≤ x1 ∧ x1 < 1072) <| if (I ((P a0 2)) (x1 : Int).toNat) = 7 then (f_X8_areAlike_22 K P  I a0 x1 x2) else (ck (0 ≤ x1 ∧ x1 < 1072) <| if (I ((P a0 2)) (x1 : Int).toNat) = 8 then (f_X8_areAlike_22 K P  I a0 x1 x2) else (f_X8_areAlike_27 K P  I a0 x1 x2 0))
abbrev G_X8_areAlike_27 (p : Program) (l : Launch) (e : Env) (s : State) (m : MethodId) (args : Array Value) (below : List Frame) (meth : Method) (c : Code) (D : va_G) (cy : Nat → ClassId) (B : Nat) (L : List Nat) (K : KT) (P : PT) (J : IT) (res : Int) (I : IT) (f : Nat → Int → Int → Int → Option (Int)) : Prop := ∀ (a0 : Nat) (x1 : Int) (x2 : Int) (t0 : Int) (H : Heap) (locs : List Loc) (ls : Array Slot), K a0 = 9 → rg x1 → rg x2 → rg t0 → FS D cy B L K P J s.heap I H locs → lv_has ls 4 [(0, .ref a0), (1, iv x1), (2, iv x2)] → f a0 x1 x2 t0 = some res → W p l e rm_X8_areAlike s m args below meth c H locs 0 0 (MQ below (QI D cy B L K P J (res, I)) args s 0 0 (fun q => B ≤ q)) (F0 m 27 ls [iv t0])
abbrev G_X8_areAlike_22 (p : Program) (l : Launch) (e : Env) (s : State) (m : MethodId) (args : Array Value) (below : List Frame) (meth : Method) (c : Code) (D : va_G) (cy : Nat → ClassId) (B : Nat) (L : List Nat) (K : KT) (P : PT) (J : IT) (res : Int) (I : IT) (f : Nat → Int → Int → Option (Int)) : Prop := ∀ (a0 : Nat) (x1 : Int) (x2 : Int) (H : Heap) (locs : List Loc) (ls : Array Slot), K a0 = 9 → rg x1 → rg x2 → FS D cy B L K P J s.heap I H locs → lv_has ls 4 [(0, .ref a0), (1, iv x1), (2, iv x2)] → f a0 x1 x2 = some res → W p l e rm_X8_areAlike s m args below meth c H locs 0 0 (MQ below (QI D cy B L K P J (res, I)) args s 0 0 (fun q => B ≤ q)) (F0 m 22 ls [])
set_option maxRecDepth 100000 in
set_option maxHeartbeats 4000000 in
theorem b_X8_areAlike_27 {p : Program} {l : Launch} {e : Env} {s : State} {m : MethodId} {args : Array Value} {below : List Frame} {meth : Method} {c : Code} {D : va_G} {cy : Nat → ClassId} {B : Nat} {L : List Nat} {K : KT} {P : PT} {J : IT} {res : Int} {I : IT} (C0 : FC D cy B p s m meth c "RejudgeHallModel" cX8_areAlike 4) (hr : meth.sig.returnType = (some .boolean)) (hWT : WT K P) : G_X8_areAlike_27 p l e s m args below meth c D cy B L K P J res I (f_X8_areAlike_27 K P  I) := by
  intro a0 x1 x2 t0 H locs ls ka0 rx1 rx2 rt0 hF hl hf
  unfold f_X8_areAlike_27 at hf
  refine lv_istore_n (lv' := [(3, iv t0), (0, .ref a0), (1, iv x1), (2, iv x2)]) C0.1 C0.2.1 dX8_areAlike_27 rfl hl (by decide) rfl (fun ls hl => ?_)
  refine lv_aload_n C0.1 C0.2.1 dX8_areAlike_28 rfl (lv_at hl 1 rfl) ?_
  refine fl_getr (k := 2) (t := 4388) ck_9 C0 hF ka0 rfl (wt_at (k := 2) (t := 4388) hWT ka0 rfl) rfl ⟨rfl, rfl⟩ aw_876 dX8_areAlike_29 ?_
  refine lv_iload_n C0.1 C0.2.1 dX8_areAlike_32 rfl (lv_at hl 2 rfl) ?_
  obtain ⟨hc, hf⟩ := ck_f hf
  refine fl_iald (n := 1072) C0 hF (wt_at (k := 2) (t := 4388) hWT ka0 rfl) rx1 hc dX8_areAlike_33 ?_
  refine lv_aload_n C0.1 C0.2.1 dX8_areAlike_34 rfl (lv_at hl 1 rfl) ?_
  refine fl_getr (k := 2) (t := 4388) ck_9 C0 hF ka0 rfl (wt_at (k := 2) (t := 4388) hWT ka0 rfl) rfl ⟨rfl, rfl⟩ aw_876 dX8_areAlike_35 ?_
  refine lv_iload_n C0.1 C0.2.1 dX8_areAlike_38 rfl (lv_at hl 3 rfl) ?_
  obtain ⟨hc, hf⟩ := ck_f hf
  refine fl_iald (n := 1072) C0 hF (wt_at (k := 2) (t := 4388) hWT ka0 rfl) rx2 hc dX8_areAlike_39 ?_
  refine fl_icmp_ne (tgt := 66) C0 (hF.rI _ _) (hF.rI _ _) dX8_areAlike_40 (by decide) (fun c3 => ?_) (fun c3 => ?_)
  · replace hf := (if_neg c3).symm.trans hf
    refine fl_iconst C0 dX8_areAlike_66 ?_
    cases hf
    exact fl_zret C0 hF hr (rgk 0 rfl) (Or.inl rfl) rfl dX8_areAlike_67
  · replace hf := (if_pos c3).symm.trans hf
    refine lv_iload_n C0.1 C0.2.1 dX8_areAlike_43 rfl (lv_at hl 0 rfl) ?_
    refine fl_if_eq (tgt := 62) C0 rt0 dX8_areAlike_44 (by decide) (fun c4 => ?_) (fun c4 => ?_)
    · replace hf := (if_pos c4).symm.trans hf
      refine fl_iconst C0 dX8_areAlike_62 ?_
      refine fl_goto (tgt := 67) C0 dX8_areAlike_63 (by decide) ?_
      cases hf
      exact fl_zret C0 hF hr (rgk 1 rfl) (Or.inr rfl) rfl dX8_areAlike_67
    · replace hf := (if_neg c4).symm.trans hf
      refine lv_aload_n C0.1 C0.2.1 dX8_areAlike_47 rfl (lv_at hl 1 rfl) ?_
      refine fl_getr (k := 3) (t := 4388) ck_9 C0 hF ka0 rfl (wt_at (k := 3) (t := 4388) hWT ka0 rfl) rfl ⟨rfl, rfl⟩ aw_877 dX8_areAlike_48 ?_
      refine lv_iload_n C0.1 C0.2.1 dX8_areAlike_51 rfl (lv_at hl 2 rfl) ?_
      obtain ⟨hc, hf⟩ := ck_f hf
      refine fl_iald (n := 1072) C0 hF (wt_at (k := 3) (t := 4388) hWT ka0 rfl) rx1 hc dX8_areAlike_52 ?_
      refine lv_aload_n C0.1 C0.2.1 dX8_areAlike_53 rfl (lv_at hl 1 rfl) ?_
      refine fl_getr (k := 3) (t := 4388) ck_9 C0 hF ka0 rfl (wt_at (k := 3) (t := 4388) hWT ka0 rfl) rfl ⟨rfl, rfl⟩ aw_877 dX8_areAlike_54 ?_
      refine lv_iload_n C0.1 C0.2.1 dX8_areAlike_57 rfl (lv_at hl 3 rfl) ?_
      obtain ⟨hc, hf⟩ := ck_f hf
      refine fl_iald (n := 1072) C0 hF (wt_at (k := 3) (t := 4388) hWT ka0 rfl) rx2 hc dX8_areAlike_58 ?_
      refine fl_icmp_ne (tgt := 66) C0 (hF.rI _ _) (hF.rI _ _) dX8_areAlike_59 (by decide) (fun c5 => ?_) (fun c5 => ?_)
      · replace hf := (if_neg c5).symm.trans hf
        refine fl_iconst C0 dX8_areAlike_66 ?_
        cases hf
        exact fl_zret C0 hF hr (rgk 0 rfl) (Or.inl rfl) rfl dX8_areAlike_67
      · replace hf := (if_pos c5).symm.trans hf
        refine fl_iconst C0 dX8_areAlike_62 ?_
        refine fl_goto (tgt := 67) C0 dX8_areAlike_63 (by decide) ?_
        cases hf
        exact fl_zret C0 hF hr (rgk 1 rfl) (Or.inr rfl) rfl dX8_areAlike_67
set_option maxRecDepth 100000 in
set_option maxHeartbeats 4000000 in
theorem b_X8_areAlike_22 {p : Program} {l : Launch} {e : Env} {s : State} {m : MethodId} {args : Array Value} {below : List Frame} {meth : Method} {c : Code} {D : va_G} {cy : Nat → ClassId} {B : Nat} {L : List Nat} {K : KT} {P : PT} {J : IT} {res : Int} {I : IT} (C0 : FC D cy B p s m meth c "RejudgeHallModel" cX8_areAlike 4) (hr : meth.sig.returnType = (some .boolean)) (hWT : WT K P) : G_X8_areAlike_22 p l e s m args below meth c D cy B L K P J res I (f_X8_areAlike_22 K P  I) := by
  intro a0 x1 x2 H locs ls ka0 rx1 rx2 hF hl hf
  unfold f_X8_areAlike_22 at hf
  refine fl_iconst C0 dX8_areAlike_22 ?_
  refine fl_goto (tgt := 27) C0 dX8_areAlike_23 (by decide) ?_
  exact b_X8_areAlike_27 C0 hr hWT   a0 x1 x2 1 _ _ _ ka0 rx1 rx2 ((rgk 1 rfl)) hF (lv_sub hl [0, 1, 2] rfl) hf
theorem pm_X8_areAlike : plainM yX8_areAlike 2 := by decide +kernel
set_option maxRecDepth 100000 in
set_option maxHeartbeats 4000000 in
theorem c_X8_areAlike (l : Launch) (D : va_G) (cy : Nat → ClassId) (B : Nat) (L : List Nat) (K : KT) (P : PT) (J : IT) (hWT : WT K P) (I : IT) (a0 : Nat) (x1 : Int) (x2 : Int) (ka0 : K a0 = 9) (rx1 : rg x1) (rx2 : rg x2) {r : Int} (hf : f_X8_areAlike K P I a0 x1 x2 = some r) : Met l yX8_areAlike [.code yX8_areAlike cX8_areAlike 4 (some .boolean)] rm_X8_areAlike (va_Pc [.ref a0, iv x1, iv x2] (FW D cy B L K P J I)) (QI D cy B L K P J (r, I)) 0 0 (fun q => B ≤ q) := by
  refine fl_body (own := "RejudgeHallModel") [.ref a0, iv x1, iv x2] (by decide) rfl (Nat.le_of_ble_eq_true rfl) ?_
  intro p e s m args below meth c ls C0 hr hF hl
  have hl : lv_has ls 4 [(0, .ref a0), (1, iv x1), (2, iv x2)] := hl
  unfold f_X8_areAlike at hf
  refine lv_aload_n C0.1 C0.2.1 dX8_areAlike_0 rfl (lv_at hl 0 rfl) ?_
  refine fl_getr (k := 2) (t := 4388) ck_9 C0 hF ka0 rfl (wt_at (k := 2) (t := 4388) hWT ka0 rfl) rfl ⟨rfl, rfl⟩ aw_876 dX8_areAlike_1 ?_
  refine lv_iload_n C0.1 C0.2.1 dX8_areAlike_4 rfl (lv_at hl 1 rfl) ?_
  obtain ⟨hc, hf⟩ := ck_f hf
  refine fl_iald (n := 1072) C0 hF (wt_at (k := 2) (t := 4388) hWT ka0 rfl) rx1 hc dX8_areAlike_5 ?_
  refine fl_bipush C0 dX8_areAlike_6 (by decide) ?_
  refine fl_icmp_eq (tgt := 22) C0 (hF.rI _ _) (rgk 7 rfl) dX8_areAlike_8 (by decide) (fun c1 => ?_) (fun c1 => ?_)
  · replace hf := (if_pos c1).symm.trans hf
    exact b_X8_areAlike_22 C0 hr hWT   a0 x1 x2 _ _ _ ka0 rx1 rx2 hF (lv_sub hl [0, 1, 2] rfl) hf
  · replace hf := (if_neg c1).symm.trans hf
    refine lv_aload_n C0.1 C0.2.1 dX8_areAlike_11 rfl (lv_at hl 0 rfl) ?_
    refine fl_getr (k := 2) (t := 4388) ck_9 C0 hF ka0 rfl (wt_at (k := 2) (t := 4388) hWT ka0 rfl) rfl ⟨rfl, rfl⟩ aw_876 dX8_areAlike_12 ?_
    refine lv_iload_n C0.1 C0.2.1 dX8_areAlike_15 rfl (lv_at hl 1 rfl) ?_
    obtain ⟨hc, hf⟩ := ck_f hf
    refine fl_iald (n := 1072) C0 hF (wt_at (k := 2) (t := 4388) hWT ka0 rfl) rx1 hc dX8_areAlike_16 ?_
    refine fl_bipush C0 dX8_areAlike_17 (by decide) ?_
    refine fl_icmp_ne (tgt := 26) C0 (hF.rI _ _) (rgk 8 rfl) dX8_areAlike_19 (by decide) (fun c2 => ?_) (fun c2 => ?_)
    · replace hf := (if_neg c2).symm.trans hf
      refine fl_iconst C0 dX8_areAlike_26 ?_
      exact b_X8_areAlike_27 C0 hr hWT   a0 x1 x2 0 _ _ _ ka0 rx1 rx2 ((rgk 0 rfl)) hF (lv_sub hl [0, 1, 2] rfl) hf
    · replace hf := (if_pos c2).symm.trans hf
      exact b_X8_areAlike_22 C0 hr hWT   a0 x1 x2 _ _ _ ka0 rx1 rx2 hF (lv_sub hl [0, 1, 2] rfl) hf
-- RejudgeHallModel.likeness(II)I
abbrev rm_X8_likeness : Room := { frames := 2, cells := 0, slots := 0, locals := 43 }
def f_X8_likeness_211 (K : KT) (P : PT) (k106 : IT → Nat → Int → Int → Int → Int → Option (Int × IT)) (k123 : IT → Nat → Int → Int → Int → Int → Int → Int → Option (Int × IT)) (I : IT) (a0 : Nat) (x3 : Int) (x4 : Int) (x5 : Int) (x6 : Int) (x8 : Int) (x9 : Int) (t0 : Int) (t1 : Int) (b2 : Nat) : Option (Int × IT) := ck (0 ≤ t1 ∧ t1 < 17) <| bnd (up I b2 (t1 : Int).toNat t0) fun I16 => k123 I16 a0 x3 x4 x5 x6 x9 ((wr (x8 + 1)))
def f_X8_likeness_170 (K : KT) (P : PT) (k106 : IT → Nat → Int → Int → Int → Int → Option (Int × IT)) (k123 : IT → Nat → Int → Int → Int → Int → Int → Int → Option (Int × IT)) (I : IT) (a0 : Nat) (x3 : Int) (x4 : Int) (x5 : Int) (x6 : Int) (x7 : Int) (x8 : Int) (x9 : Int) (t0 : Int) : Option (Int × IT) := bp (f_X8_areAlike K P I a0 ((wr ((wr (16 * x3)) + x6))) ((wr ((wr (16 * x4)) + x8)))) fun r14 => if r14 = 0 then (f_X8_likeness_211 K P k106 k123 I a0 x3 x4 x5 x6 x8 x9 t0 ((wr (x8 + 1))) ((P a0 37))) else (f_X8_likeness_211 K P k106 k123 I a0 x3 x4 x5 x6 x8 x9 ((wr (x7 + 1))) ((wr (x8 + 1))) ((P a0 37)))
def f_X8_likeness_222 (K : KT) (P : PT) (k106 : IT → Nat → Int → Int → Int → Int → Option (Int × IT)) (I : IT) (a0 : Nat) (x3 : Int) (x4 : Int) (x5 : Int) (x6 : Int) : Option (Int × IT) := k106 I a0 x3 x4 x5 ((wr (x6 + 1)))
def f_X8_likeness_123 (K : KT) (P : PT) (k106 : IT → Nat → Int → Int → Int → Int → Option (Int × IT)) : Nat → IT → Nat → Int → Int → Int → Int → Int → Int → Option (Int × IT)
  | 0, _, _, _, _, _, _, _, _ => none
  | n + 1, I, a0, x3, x4, x5, x6, x7, x8 => ck (0 ≤ x4 ∧ x4 < 67) <| if (I ((P a0 1)) (x4 : Int).toNat) ≤ x8 then (f_X8_likeness_222 K P k106 I a0 x3 x4 x5 x6) else (ck (0 ≤ (wr (x8 + 1)) ∧ (wr (x8 + 1)) < 17) <| ck (0 ≤ x8 ∧ x8 < 17) <| if (I ((P a0 37)) ((wr (x8 + 1)) : Int).toNat) ≤ (I ((P a0 37)) (x8 : Int).toNat) then (ck (0 ≤ x8 ∧ x8 < 17) <| f_X8_likeness_170 K P k106 ((f_X8_likeness_123 K P k106 n)) I a0 x3 x4 x5 x6 x7 x8 ((I ((P a0 37)) ((wr (x8 + 1)) : Int).toNat)) ((I ((P a0 37)) (x8 : Int).toNat))) else (f_X8_likeness_170 K P k106 ((f_X8_likeness_123 K P k106 n)) I a0 x3 x4 x5 x6 x7 x8 ((I ((P a0 37)) ((wr (x8 + 1)) : Int).toNat)) ((I ((P a0 37)) ((wr (x8 + 1)) : Int).toNat))))
def f_X8_likeness_228 (K : KT) (P : PT) (I : IT) (a0 : Nat) (x4 : Int) (x5 : Int) : Option (Int × IT) := if x5 = 0 then (some (100, I)) else (ck (0 ≤ x4 ∧ x4 < 67) <| ck (0 ≤ (I ((P a0 1)) (x4 : Int).toNat) ∧ (I ((P a0 1)) (x4 : Int).toNat) < 17) <| ck (x5 ≠ 0) <| some ((idv (wr (100 * (I ((P a0 37)) ((I ((P a0 1)) (x4 : Int).toNat) : Int).toNat))) x5), I))
def f_X8_likeness_106 (K : KT) (P : PT) : Nat → IT → Nat → Int → Int → Int → Int → Option (Int × IT)
  | 0, _, _, _, _, _, _ => none
  | n + 1, I, a0, x3, x4, x5, x6 => ck (0 ≤ x3 ∧ x3 < 67) <| if (I ((P a0 1)) (x3 : Int).toNat) ≤ x6 then (f_X8_likeness_228 K P  I a0 x4 x5) else (f_X8_likeness_123 K P ((f_X8_likeness_106 K P  n)) FU I a0 x3 x4 x5 x6 0 0)
def f_X8_likeness_103 (K : KT) (P : PT) (I : IT) (a0 : Nat) (x3 : Int) (x4 : Int) (x5 : Int) : Option (Int × IT) := f_X8_likeness_106 K P  FU I a0 x3 x4 x5 0
def f_X8_likeness_82 (K : KT) (P : PT) : Nat → IT → Nat → Int → Int → Int → Int → Option (Int × IT)
  | 0, _, _, _, _, _, _ => none
  | n + 1, I, a0, x3, x4, x5, x6 => if 17 ≤ x6 then (f_X8_likeness_103 K P  I a0 x3 x4 x5) else (ck (0 ≤ x6 ∧ x6 < 17) <| bnd (up I ((P a0 37)) (x6 : Int).toNat 0) fun I9 => (f_X8_likeness_82 K P  n) I9 a0 x3 x4 x5 ((wr (x6 + 1))))
def f_X8_likeness_77 (K : KT) (P : PT) (I : IT) (a0 : Nat) (x3 : Int) (x4 : Int) (t0 : Int) : Option (Int × IT) := f_X8_likeness_82 K P  FU I a0 x3 x4 t0 0
def f_X8_likeness_22 (K : KT) (P : PT) (I : IT) (a0 : Nat) (x1 : Int) (x2 : Int) (t0 : Int) (b1 : Nat) : Option (Int × IT) := bnd (up I b1 38 t0) fun I5 => if (I5 a0 38) ≤ 0 then (ck (0 ≤ (wr (7 + x1)) ∧ (wr (7 + x1)) < 67) <| ck (0 ≤ (wr (7 + x2)) ∧ (wr (7 + x2)) < 67) <| if (I5 ((P a0 1)) ((wr (7 + x1)) : Int).toNat) ≤ (I5 ((P a0 1)) ((wr (7 + x2)) : Int).toNat) then (ck (0 ≤ (wr (7 + x2)) ∧ (wr (7 + x2)) < 67) <| f_X8_likeness_77 K P  I5 a0 ((wr (7 + x1))) ((wr (7 + x2))) ((I5 ((P a0 1)) ((wr (7 + x2)) : Int).toNat))) else (ck (0 ≤ (wr (7 + x1)) ∧ (wr (7 + x1)) < 67) <| f_X8_likeness_77 K P  I5 a0 ((wr (7 + x1))) ((wr (7 + x2))) ((I5 ((P a0 1)) ((wr (7 + x1)) : Int).toNat)))) else (some (0, I5))
def f_X8_likeness_21 (K : KT) (P : PT) (I : IT) (a0 : Nat) (x1 : Int) (x2 : Int) (b0 : Nat) : Option (Int × IT) := f_X8_likeness_22 K P  I a0 x1 x2 1 b0
def f_X8_likeness (K : KT) (P : PT) (I : IT) (a0 : Nat) (x1 : Int) (x2 : Int) : Option (Int × IT) := bp (f_X8_isEntry K P I a0 x1) fun r1 => if r1 = 0 then (f_X8_likeness_21 K P  I a0 x1 x2 a0) else (bp (f_X8_isEntry K P I a0 x2) fun r3 => if r3 = 0 then (f_X8_likeness_21 K P  I a0 x1 x2 a0) else (f_X8_likeness_22 K P  I a0 x1 x2 0 a0))
abbrev G_X8_likeness_211 (p : Program) (l : Launch) (e : Env) (s : State) (m : MethodId) (args : Array Value) (below : List Frame) (meth : Method) (c : Code) (D : va_G) (cy : Nat → ClassId) (B : Nat) (L : List Nat) (K : KT) (P : PT) (J : IT) (res : Int × IT) (f : IT → Nat → Int → Int → Int → Int → Int → Int → Int → Int → Nat → Option (Int × IT)) : Prop := ∀ (I : IT) (a0 : Nat) (x3 : Int) (x4 : Int) (x5 : Int) (x6 : Int) (x8 : Int) (x9 : Int) (t0 : Int) (t1 : Int) (b2 : Nat) (H : Heap) (locs : List Loc) (ls : Array Slot), K a0 = 9 → rg x3 → rg x4 → rg x5 → rg x6 → rg x8 → rg x9 → rg t0 → rg t1 → K b2 = 168 → FS D cy B L K P J s.heap I H locs → lv_has ls 11 [(0, .ref a0), (3, iv x3), (4, iv x4), (5, iv x5), (6, iv x6), (8, iv x8), (9, iv x9)] → f I a0 x3 x4 x5 x6 x8 x9 t0 t1 b2 = some res → W p l e rm_X8_likeness s m args below meth c H locs 0 0 (MQ below (QI D cy B L K P J res) args s 0 0 (fun q => B ≤ q)) (F0 m 211 ls [iv t0, iv t1, .ref b2])
abbrev G_X8_likeness_170 (p : Program) (l : Launch) (e : Env) (s : State) (m : MethodId) (args : Array Value) (below : List Frame) (meth : Method) (c : Code) (D : va_G) (cy : Nat → ClassId) (B : Nat) (L : List Nat) (K : KT) (P : PT) (J : IT) (res : Int × IT) (f : IT → Nat → Int → Int → Int → Int → Int → Int → Int → Int → Option (Int × IT)) : Prop := ∀ (I : IT) (a0 : Nat) (x3 : Int) (x4 : Int) (x5 : Int) (x6 : Int) (x7 : Int) (x8 : Int) (x9 : Int) (t0 : Int) (H : Heap) (locs : List Loc) (ls : Array Slot), K a0 = 9 → rg x3 → rg x4 → rg x5 → rg x6 → rg x7 → rg x8 → rg x9 → rg t0 → FS D cy B L K P J s.heap I H locs → lv_has ls 11 [(0, .ref a0), (3, iv x3), (4, iv x4), (5, iv x5), (6, iv x6), (7, iv x7), (8, iv x8), (9, iv x9)] → f I a0 x3 x4 x5 x6 x7 x8 x9 t0 = some res → W p l e rm_X8_likeness s m args below meth c H locs 0 0 (MQ below (QI D cy B L K P J res) args s 0 0 (fun q => B ≤ q)) (F0 m 170 ls [iv t0])
abbrev G_X8_likeness_222 (p : Program) (l : Launch) (e : Env) (s : State) (m : MethodId) (args : Array Value) (below : List Frame) (meth : Method) (c : Code) (D : va_G) (cy : Nat → ClassId) (B : Nat) (L : List Nat) (K : KT) (P : PT) (J : IT) (res : Int × IT) (f : IT → Nat → Int → Int → Int → Int → Option (Int × IT)) : Prop := ∀ (I : IT) (a0 : Nat) (x3 : Int) (x4 : Int) (x5 : Int) (x6 : Int) (H : Heap) (locs : List Loc) (ls : Array Slot), K a0 = 9 → rg x3 → rg x4 → rg x5 → rg x6 → FS D cy B L K P J s.heap I H locs → lv_has ls 11 [(0, .ref a0), (3, iv x3), (4, iv x4), (5, iv x5), (6, iv x6)] → f I a0 x3 x4 x5 x6 = some res → W p l e rm_X8_likeness s m args below meth c H locs 0 0 (MQ below (QI D cy B L K P J res) args s 0 0 (fun q => B ≤ q)) (F0 m 222 ls [])
abbrev G_X8_likeness_123 (p : Program) (l : Launch) (e : Env) (s : State) (m : MethodId) (args : Array Value) (below : List Frame) (meth : Method) (c : Code) (D : va_G) (cy : Nat → ClassId) (B : Nat) (L : List Nat) (K : KT) (P : PT) (J : IT) (res : Int × IT) (f : IT → Nat → Int → Int → Int → Int → Int → Int → Option (Int × IT)) : Prop := ∀ (I : IT) (a0 : Nat) (x3 : Int) (x4 : Int) (x5 : Int) (x6 : Int) (x7 : Int) (x8 : Int) (H : Heap) (locs : List Loc) (ls : Array Slot), K a0 = 9 → rg x3 → rg x4 → rg x5 → rg x6 → rg x7 → rg x8 → FS D cy B L K P J s.heap I H locs → lv_has ls 11 [(0, .ref a0), (3, iv x3), (4, iv x4), (5, iv x5), (6, iv x6), (7, iv x7), (8, iv x8)] → f I a0 x3 x4 x5 x6 x7 x8 = some res → W p l e rm_X8_likeness s m args below meth c H locs 0 0 (MQ below (QI D cy B L K P J res) args s 0 0 (fun q => B ≤ q)) (F0 m 123 ls [])
abbrev G_X8_likeness_228 (p : Program) (l : Launch) (e : Env) (s : State) (m : MethodId) (args : Array Value) (below : List Frame) (meth : Method) (c : Code) (D : va_G) (cy : Nat → ClassId) (B : Nat) (L : List Nat) (K : KT) (P : PT) (J : IT) (res : Int × IT) (f : IT → Nat → Int → Int → Option (Int × IT)) : Prop := ∀ (I : IT) (a0 : Nat) (x4 : Int) (x5 : Int) (H : Heap) (locs : List Loc) (ls : Array Slot), K a0 = 9 → rg x4 → rg x5 → FS D cy B L K P J s.heap I H locs → lv_has ls 11 [(0, .ref a0), (4, iv x4), (5, iv x5)] → f I a0 x4 x5 = some res → W p l e rm_X8_likeness s m args below meth c H locs 0 0 (MQ below (QI D cy B L K P J res) args s 0 0 (fun q => B ≤ q)) (F0 m 228 ls [])
abbrev G_X8_likeness_106 (p : Program) (l : Launch) (e : Env) (s : State) (m : MethodId) (args : Array Value) (below : List Frame) (meth : Method) (c : Code) (D : va_G) (cy : Nat → ClassId) (B : Nat) (L : List Nat) (K : KT) (P : PT) (J : IT) (res : Int × IT) (f : IT → Nat → Int → Int → Int → Int → Option (Int × IT)) : Prop := ∀ (I : IT) (a0 : Nat) (x3 : Int) (x4 : Int) (x5 : Int) (x6 : Int) (H : Heap) (locs : List Loc) (ls : Array Slot), K a0 = 9 → rg x3 → rg x4 → rg x5 → rg x6 → FS D cy B L K P J s.heap I H locs → lv_has ls 11 [(0, .ref a0), (3, iv x3), (4, iv x4), (5, iv x5), (6, iv x6)] → f I a0 x3 x4 x5 x6 = some res → W p l e rm_X8_likeness s m args below meth c H locs 0 0 (MQ below (QI D cy B L K P J res) args s 0 0 (fun q => B ≤ q)) (F0 m 106 ls [])
abbrev G_X8_likeness_103 (p : Program) (l : Launch) (e : Env) (s : State) (m : MethodId) (args : Array Value) (below : List Frame) (meth : Method) (c : Code) (D : va_G) (cy : Nat → ClassId) (B : Nat) (L : List Nat) (K : KT) (P : PT) (J : IT) (res : Int × IT) (f : IT → Nat → Int → Int → Int → Option (Int × IT)) : Prop := ∀ (I : IT) (a0 : Nat) (x3 : Int) (x4 : Int) (x5 : Int) (H : Heap) (locs : List Loc) (ls : Array Slot), K a0 = 9 → rg x3 → rg x4 → rg x5 → FS D cy B L K P J s.heap I H locs → lv_has ls 11 [(0, .ref a0), (3, iv x3), (4, iv x4), (5, iv x5)] → f I a0 x3 x4 x5 = some res → W p l e rm_X8_likeness s m args below meth c H locs 0 0 (MQ below (QI D cy B L K P J res) args s 0 0 (fun q => B ≤ q)) (F0 m 103 ls [])
abbrev G_X8_likeness_82 (p : Program) (l : Launch) (e : Env) (s : State) (m : MethodId) (args : Array Value) (below : List Frame) (meth : Method) (c : Code) (D : va_G) (cy : Nat → ClassId) (B : Nat) (L : List Nat) (K : KT) (P : PT) (J : IT) (res : Int × IT) (f : IT → Nat → Int → Int → Int → Int → Option (Int × IT)) : Prop := ∀ (I : IT) (a0 : Nat) (x3 : Int) (x4 : Int) (x5 : Int) (x6 : Int) (H : Heap) (locs : List Loc) (ls : Array Slot), K a0 = 9 → rg x3 → rg x4 → rg x5 → rg x6 → FS D cy B L K P J s.heap I H locs → lv_has ls 11 [(0, .ref a0), (3, iv x3), (4, iv x4), (5, iv x5), (6, iv x6)] → f I a0 x3 x4 x5 x6 = some res → W p l e rm_X8_likeness s m args below meth c H locs 0 0 (MQ below (QI D cy B L K P J res) args s 0 0 (fun q => B ≤ q)) (F0 m 82 ls [])
abbrev G_X8_likeness_77 (p : Program) (l : Launch) (e : Env) (s : State) (m : MethodId) (args : Array Value) (below : List Frame) (meth : Method) (c : Code) (D : va_G) (cy : Nat → ClassId) (B : Nat) (L : List Nat) (K : KT) (P : PT) (J : IT) (res : Int × IT) (f : IT → Nat → Int → Int → Int → Option (Int × IT)) : Prop := ∀ (I : IT) (a0 : Nat) (x3 : Int) (x4 : Int) (t0 : Int) (H : Heap) (locs : List Loc) (ls : Array Slot), K a0 = 9 → rg x3 → rg x4 → rg t0 → FS D cy B L K P J s.heap I H locs → lv_has ls 11 [(0, .ref a0), (3, iv x3), (4, iv x4)] → f I a0 x3 x4 t0 = some res → W p l e rm_X8_likeness s m args below meth c H locs 0 0 (MQ below (QI D cy B L K P J res) args s 0 0 (fun q => B ≤ q)) (F0 m 77 ls [iv t0])
abbrev G_X8_likeness_22 (p : Program) (l : Launch) (e : Env) (s : State) (m : MethodId) (args : Array Value) (below : List Frame) (meth : Method) (c : Code) (D : va_G) (cy : Nat → ClassId) (B : Nat) (L : List Nat) (K : KT) (P : PT) (J : IT) (res : Int × IT) (f : IT → Nat → Int → Int → Int → Nat → Option (Int × IT)) : Prop := ∀ (I : IT) (a0 : Nat) (x1 : Int) (x2 : Int) (t0 : Int) (b1 : Nat) (H : Heap) (locs : List Loc) (ls : Array Slot), K a0 = 9 → rg x1 → rg x2 → rg t0 → K b1 = 9 → FS D cy B L K P J s.heap I H locs → lv_has ls 11 [(0, .ref a0), (1, iv x1), (2, iv x2)] → f I a0 x1 x2 t0 b1 = some res → W p l e rm_X8_likeness s m args below meth c H locs 0 0 (MQ below (QI D cy B L K P J res) args s 0 0 (fun q => B ≤ q)) (F0 m 22 ls [iv t0, .ref b1])
abbrev G_X8_likeness_21 (p : Program) (l : Launch) (e : Env) (s : State) (m : MethodId) (args : Array Value) (below : List Frame) (meth : Method) (c : Code) (D : va_G) (cy : Nat → ClassId) (B : Nat) (L : List Nat) (K : KT) (P : PT) (J : IT) (res : Int × IT) (f : IT → Nat → Int → Int → Nat → Option (Int × IT)) : Prop := ∀ (I : IT) (a0 : Nat) (x1 : Int) (x2 : Int) (b0 : Nat) (H : Heap) (locs : List Loc) (ls : Array Slot), K a0 = 9 → rg x1 → rg x2 → K b0 = 9 → FS D cy B L K P J s.heap I H locs → lv_has ls 11 [(0, .ref a0), (1, iv x1), (2, iv x2)] → f I a0 x1 x2 b0 = some res → W p l e rm_X8_likeness s m args below meth c H locs 0 0 (MQ below (QI D cy B L K P J res) args s 0 0 (fun q => B ≤ q)) (F0 m 21 ls [.ref b0])
set_option maxRecDepth 100000 in
set_option maxHeartbeats 4000000 in
theorem b_X8_likeness_211 {p : Program} {l : Launch} {e : Env} {s : State} {m : MethodId} {args : Array Value} {below : List Frame} {meth : Method} {c : Code} {D : va_G} {cy : Nat → ClassId} {B : Nat} {L : List Nat} {K : KT} {P : PT} {J : IT} {res : Int × IT} (C0 : FC D cy B p s m meth c "RejudgeHallModel" cX8_likeness 11) (hr : meth.sig.returnType = (some .int)) (hWT : WT K P) {k106 : IT → Nat → Int → Int → Int → Int → Option (Int × IT)} (hk106 : G_X8_likeness_106 p l e s m args below meth c D cy B L K P J res k106) {k123 : IT → Nat → Int → Int → Int → Int → Int → Int → Option (Int × IT)} (hk123 : G_X8_likeness_123 p l e s m args below meth c D cy B L K P J res k123) : G_X8_likeness_211 p l e s m args below meth c D cy B L K P J res (f_X8_likeness_211 K P k106 k123) := by
  intro I a0 x3 x4 x5 x6 x8 x9 t0 t1 b2 H locs ls ka0 rx3 rx4 rx5 rx6 rx8 rx9 rt0 rt1 kb2 hF hl hf
  unfold f_X8_likeness_211 at hf
  obtain ⟨hc, hf⟩ := ck_f hf
  refine fl_iast (n := 17) C0 hF kb2 rt1 rt0 hc dX8_likeness_211 (fun H locs hF16 => ?_)
  obtain ⟨I16, eI16, hf⟩ := bnd_f hf
  rw [eI16] at hF16
  refine lv_iload C0.1 C0.2.1 dX8_likeness_212 (lv_at hl 6 rfl) ?_
  refine lv_istore (lv' := [(7, iv x9), (0, .ref a0), (3, iv x3), (4, iv x4), (5, iv x5), (6, iv x6), (8, iv x8), (9, iv x9)]) C0.1 C0.2.1 dX8_likeness_214 hl (by decide) rfl (fun ls hl => ?_)
  refine fl_iinc (lv' := [(8, iv (wr (x8 + 1))), (7, iv x9), (0, .ref a0), (3, iv x3), (4, iv x4), (5, iv x5), (6, iv x6), (9, iv x9)]) C0 dX8_likeness_216 hl (k := 6) rfl (by decide) rfl (fun ls hl => ?_)
  refine fl_goto (tgt := 123) C0 dX8_likeness_219 (by decide) ?_
  exact hk123 I16 a0 x3 x4 x5 x6 x9 ((wr (x8 + 1))) _ _ _ ka0 rx3 rx4 rx5 rx6 rx9 ((rg_wr _)) hF16 (lv_sub hl [2, 3, 4, 5, 6, 1, 0] rfl) hf
set_option maxRecDepth 100000 in
set_option maxHeartbeats 4000000 in
theorem b_X8_likeness_170 {p : Program} {l : Launch} {e : Env} {s : State} {m : MethodId} {args : Array Value} {below : List Frame} {meth : Method} {c : Code} {D : va_G} {cy : Nat → ClassId} {B : Nat} {L : List Nat} {K : KT} {P : PT} {J : IT} {res : Int × IT} (C0 : FC D cy B p s m meth c "RejudgeHallModel" cX8_likeness 11) (hr : meth.sig.returnType = (some .int)) (hWT : WT K P) {k106 : IT → Nat → Int → Int → Int → Int → Option (Int × IT)} (hk106 : G_X8_likeness_106 p l e s m args below meth c D cy B L K P J res k106) {k123 : IT → Nat → Int → Int → Int → Int → Int → Int → Option (Int × IT)} (hk123 : G_X8_likeness_123 p l e s m args below meth c D cy B L K P J res k123) : G_X8_likeness_170 p l e s m args below meth c D cy B L K P J res (f_X8_likeness_170 K P k106 k123) := by
  intro I a0 x3 x4 x5 x6 x7 x8 x9 t0 H locs ls ka0 rx3 rx4 rx5 rx6 rx7 rx8 rx9 rt0 hF hl hf
  unfold f_X8_likeness_170 at hf
  refine lv_istore (lv' := [(10, iv t0), (0, .ref a0), (3, iv x3), (4, iv x4), (5, iv x5), (6, iv x6), (7, iv x7), (8, iv x8), (9, iv x9)]) C0.1 C0.2.1 dX8_likeness_170 hl (by decide) rfl (fun ls hl => ?_)
  refine lv_aload_n C0.1 C0.2.1 dX8_likeness_172 rfl (lv_at hl 1 rfl) ?_
  refine fl_getr (k := 37) (t := 168) ck_9 C0 hF ka0 rfl (wt_at (k := 37) (t := 168) hWT ka0 rfl) rfl ⟨rfl, rfl⟩ aw_911 dX8_likeness_173 ?_
  refine lv_iload C0.1 C0.2.1 dX8_likeness_176 (lv_at hl 7 rfl) ?_
  refine fl_iconst C0 dX8_likeness_178 ?_
  refine fl_iadd C0 dX8_likeness_179 ?_
  refine lv_aload_n C0.1 C0.2.1 dX8_likeness_180 rfl (lv_at hl 1 rfl) ?_
  refine fl_bipush C0 dX8_likeness_181 (by decide) ?_
  refine lv_iload_n C0.1 C0.2.1 dX8_likeness_183 rfl (lv_at hl 2 rfl) ?_
  refine fl_imul C0 dX8_likeness_184 ?_
  refine lv_iload C0.1 C0.2.1 dX8_likeness_185 (lv_at hl 5 rfl) ?_
  refine fl_iadd C0 dX8_likeness_187 ?_
  refine fl_bipush C0 dX8_likeness_188 (by decide) ?_
  refine lv_iload C0.1 C0.2.1 dX8_likeness_190 (lv_at hl 3 rfl) ?_
  refine fl_imul C0 dX8_likeness_192 ?_
  refine lv_iload C0.1 C0.2.1 dX8_likeness_193 (lv_at hl 7 rfl) ?_
  refine fl_iadd C0 dX8_likeness_195 ?_
  obtain ⟨r14, hq14, hf⟩ := bp_f hf
  refine fl_ri hF (fl_runV (As := [iv (wr ((wr (16 * x3)) + x6)), iv (wr ((wr (16 * x4)) + x8))]) (rest := [iv (wr (x8 + 1)), .ref (P a0 37)]) C0 hF hl.1 ck_9 ka0 rfl (c_X8_areAlike l D cy B L K P J hWT I a0 ((wr ((wr (16 * x3)) + x6))) ((wr ((wr (16 * x4)) + x8))) ka0 ((rg_wr _)) ((rg_wr _)) hq14) aw_1123 aw_1125 aw_56 aw_73 aw_1126 rfl rfl pm_X8_areAlike rfl rfl ⟨Nat.le_of_ble_eq_true rfl, Nat.le_of_ble_eq_true rfl⟩ rfl (Nat.le_of_ble_eq_true rfl) dX8_likeness_196 ⟨Nat.le_of_ble_eq_true rfl, Nat.le_of_ble_eq_true rfl⟩) (fun H locs hF14 rr14 => ?_)
  refine fl_if_eq (tgt := 209) C0 rr14 dX8_likeness_199 (by decide) (fun c15 => ?_) (fun c15 => ?_)
  · replace hf := (if_pos c15).symm.trans hf
    refine lv_iload C0.1 C0.2.1 dX8_likeness_209 (lv_at hl 0 rfl) ?_
    exact b_X8_likeness_211 C0 hr hWT hk106 hk123 I a0 x3 x4 x5 x6 x8 x9 t0 ((wr (x8 + 1))) ((P a0 37)) _ _ _ ka0 rx3 rx4 rx5 rx6 rx8 rx9 rt0 ((rg_wr _)) ((wt_at (k := 37) (t := 168) hWT ka0 rfl)) hF14 (lv_sub hl [1, 2, 3, 4, 5, 7, 8] rfl) hf
  · replace hf := (if_neg c15).symm.trans hf
    refine lv_iload C0.1 C0.2.1 dX8_likeness_202 (lv_at hl 6 rfl) ?_
    refine fl_iconst C0 dX8_likeness_204 ?_
    refine fl_iadd C0 dX8_likeness_205 ?_
    refine fl_goto (tgt := 211) C0 dX8_likeness_206 (by decide) ?_
    exact b_X8_likeness_211 C0 hr hWT hk106 hk123 I a0 x3 x4 x5 x6 x8 x9 ((wr (x7 + 1))) ((wr (x8 + 1))) ((P a0 37)) _ _ _ ka0 rx3 rx4 rx5 rx6 rx8 rx9 ((rg_wr _)) ((rg_wr _)) ((wt_at (k := 37) (t := 168) hWT ka0 rfl)) hF14 (lv_sub hl [1, 2, 3, 4, 5, 7, 8] rfl) hf
set_option maxRecDepth 100000 in
set_option maxHeartbeats 4000000 in
theorem b_X8_likeness_222 {p : Program} {l : Launch} {e : Env} {s : State} {m : MethodId} {args : Array Value} {below : List Frame} {meth : Method} {c : Code} {D : va_G} {cy : Nat → ClassId} {B : Nat} {L : List Nat} {K : KT} {P : PT} {J : IT} {res : Int × IT} (C0 : FC D cy B p s m meth c "RejudgeHallModel" cX8_likeness 11) (hr : meth.sig.returnType = (some .int)) (hWT : WT K P) {k106 : IT → Nat → Int → Int → Int → Int → Option (Int × IT)} (hk106 : G_X8_likeness_106 p l e s m args below meth c D cy B L K P J res k106) : G_X8_likeness_222 p l e s m args below meth c D cy B L K P J res (f_X8_likeness_222 K P k106) := by
  intro I a0 x3 x4 x5 x6 H locs ls ka0 rx3 rx4 rx5 rx6 hF hl hf
  unfold f_X8_likeness_222 at hf
  refine fl_iinc (lv' := [(6, iv (wr (x6 + 1))), (0, .ref a0), (3, iv x3), (4, iv x4), (5, iv x5)]) C0 dX8_likeness_222 hl (k := 4) rfl (by decide) rfl (fun ls hl => ?_)
  refine fl_goto (tgt := 106) C0 dX8_likeness_225 (by decide) ?_
  exact hk106 I a0 x3 x4 x5 ((wr (x6 + 1))) _ _ _ ka0 rx3 rx4 rx5 ((rg_wr _)) hF (lv_sub hl [1, 2, 3, 4, 0] rfl) hf
set_option maxRecDepth 100000 in
set_option maxHeartbeats 4000000 in
theorem b_X8_likeness_123 {p : Program} {l : Launch} {e : Env} {s : State} {m : MethodId} {args : Array Value} {below : List Frame} {meth : Method} {c : Code} {D : va_G} {cy : Nat → ClassId} {B : Nat} {L : List Nat} {K : KT} {P : PT} {J : IT} {res : Int × IT} (C0 : FC D cy B p s m meth c "RejudgeHallModel" cX8_likeness 11) (hr : meth.sig.returnType = (some .int)) (hWT : WT K P) {k106 : IT → Nat → Int → Int → Int → Int → Option (Int × IT)} (hk106 : G_X8_likeness_106 p l e s m args below meth c D cy B L K P J res k106) : ∀ n : Nat, G_X8_likeness_123 p l e s m args below meth c D cy B L K P J res (f_X8_likeness_123 K P k106 n)
  | 0 => by
    intro I a0 x3 x4 x5 x6 x7 x8 H locs ls ka0 rx3 rx4 rx5 rx6 rx7 rx8 hF hl hf
    cases hf
  | n + 1 => by
    have ih : G_X8_likeness_123 p l e s m args below meth c D cy B L K P J res (f_X8_likeness_123 K P k106 n)  := b_X8_likeness_123 C0 hr hWT hk106 n
    intro I a0 x3 x4 x5 x6 x7 x8 H locs ls ka0 rx3 rx4 rx5 rx6 rx7 rx8 hF hl hf
    rw [f_X8_likeness_123] at hf
    refine lv_iload C0.1 C0.2.1 dX8_likeness_123 (lv_at hl 6 rfl) ?_
    refine lv_aload_n C0.1 C0.2.1 dX8_likeness_125 rfl (lv_at hl 0 rfl) ?_
    refine fl_getr (k := 1) (t := 368) ck_9 C0 hF ka0 rfl (wt_at (k := 1) (t := 368) hWT ka0 rfl) rfl ⟨rfl, rfl⟩ aw_875 dX8_likeness_126 ?_
    refine lv_iload C0.1 C0.2.1 dX8_likeness_129 (lv_at hl 2 rfl) ?_
    obtain ⟨hc, hf⟩ := ck_f hf
    refine fl_iald (n := 67) C0 hF (wt_at (k := 1) (t := 368) hWT ka0 rfl) rx4 hc dX8_likeness_131 ?_
    refine fl_icmp_ge (tgt := 222) C0 rx8 (hF.rI _ _) dX8_likeness_132 (by decide) (fun c12 => ?_) (fun c12 => ?_)
    · replace hf := (if_pos c12).symm.trans hf
      exact b_X8_likeness_222 C0 hr hWT hk106 I a0 x3 x4 x5 x6 _ _ _ ka0 rx3 rx4 rx5 rx6 hF (lv_sub hl [0, 1, 2, 3, 4] rfl) hf
    · replace hf := (if_neg c12).symm.trans hf
      refine lv_aload_n C0.1 C0.2.1 dX8_likeness_135 rfl (lv_at hl 0 rfl) ?_
      refine fl_getr (k := 37) (t := 168) ck_9 C0 hF ka0 rfl (wt_at (k := 37) (t := 168) hWT ka0 rfl) rfl ⟨rfl, rfl⟩ aw_911 dX8_likeness_136 ?_
      refine lv_iload C0.1 C0.2.1 dX8_likeness_139 (lv_at hl 6 rfl) ?_
      refine fl_iconst C0 dX8_likeness_141 ?_
      refine fl_iadd C0 dX8_likeness_142 ?_
      obtain ⟨hc, hf⟩ := ck_f hf
      refine fl_iald (n := 17) C0 hF (wt_at (k := 37) (t := 168) hWT ka0 rfl) (rg_wr _) hc dX8_likeness_143 ?_
      refine lv_istore (lv' := [(9, iv (I ((P a0 37)) ((wr (x8 + 1)) : Int).toNat)), (0, .ref a0), (3, iv x3), (4, iv x4), (5, iv x5), (6, iv x6), (7, iv x7), (8, iv x8)]) C0.1 C0.2.1 dX8_likeness_144 hl (by decide) rfl (fun ls hl => ?_)
      refine lv_iload C0.1 C0.2.1 dX8_likeness_146 (lv_at hl 0 rfl) ?_
      refine lv_aload_n C0.1 C0.2.1 dX8_likeness_148 rfl (lv_at hl 1 rfl) ?_
      refine fl_getr (k := 37) (t := 168) ck_9 C0 hF ka0 rfl (wt_at (k := 37) (t := 168) hWT ka0 rfl) rfl ⟨rfl, rfl⟩ aw_911 dX8_likeness_149 ?_
      refine lv_iload C0.1 C0.2.1 dX8_likeness_152 (lv_at hl 7 rfl) ?_
      obtain ⟨hc, hf⟩ := ck_f hf
      refine fl_iald (n := 17) C0 hF (wt_at (k := 37) (t := 168) hWT ka0 rfl) rx8 hc dX8_likeness_154 ?_
      refine fl_icmp_le (tgt := 163) C0 (hF.rI _ _) (hF.rI _ _) dX8_likeness_155 (by decide) (fun c13 => ?_) (fun c13 => ?_)
      · replace hf := (if_pos c13).symm.trans hf
        refine lv_aload_n C0.1 C0.2.1 dX8_likeness_163 rfl (lv_at hl 1 rfl) ?_
        refine fl_getr (k := 37) (t := 168) ck_9 C0 hF ka0 rfl (wt_at (k := 37) (t := 168) hWT ka0 rfl) rfl ⟨rfl, rfl⟩ aw_911 dX8_likeness_164 ?_
        refine lv_iload C0.1 C0.2.1 dX8_likeness_167 (lv_at hl 7 rfl) ?_
        obtain ⟨hc, hf⟩ := ck_f hf
        refine fl_iald (n := 17) C0 hF (wt_at (k := 37) (t := 168) hWT ka0 rfl) rx8 hc dX8_likeness_169 ?_
        exact b_X8_likeness_170 C0 hr hWT hk106 ih I a0 x3 x4 x5 x6 x7 x8 ((I ((P a0 37)) ((wr (x8 + 1)) : Int).toNat)) ((I ((P a0 37)) (x8 : Int).toNat)) _ _ _ ka0 rx3 rx4 rx5 rx6 rx7 rx8 ((hF.rI _ _)) ((hF.rI _ _)) hF (lv_sub hl [1, 2, 3, 4, 5, 6, 7, 0] rfl) hf
      · replace hf := (if_neg c13).symm.trans hf
        refine lv_iload C0.1 C0.2.1 dX8_likeness_158 (lv_at hl 0 rfl) ?_
        refine fl_goto (tgt := 170) C0 dX8_likeness_160 (by decide) ?_
        exact b_X8_likeness_170 C0 hr hWT hk106 ih I a0 x3 x4 x5 x6 x7 x8 ((I ((P a0 37)) ((wr (x8 + 1)) : Int).toNat)) ((I ((P a0 37)) ((wr (x8 + 1)) : Int).toNat)) _ _ _ ka0 rx3 rx4 rx5 rx6 rx7 rx8 ((hF.rI _ _)) ((hF.rI _ _)) hF (lv_sub hl [1, 2, 3, 4, 5, 6, 7, 0] rfl) hf
set_option maxRecDepth 100000 in
set_option maxHeartbeats 4000000 in
theorem b_X8_likeness_228 {p : Program} {l : Launch} {e : Env} {s : State} {m : MethodId} {args : Array Value} {below : List Frame} {meth : Method} {c : Code} {D : va_G} {cy : Nat → ClassId} {B : Nat} {L : List Nat} {K : KT} {P : PT} {J : IT} {res : Int × IT} (C0 : FC D cy B p s m meth c "RejudgeHallModel" cX8_likeness 11) (hr : meth.sig.returnType = (some .int)) (hWT : WT K P) : G_X8_likeness_228 p l e s m args below meth c D cy B L K P J res (f_X8_likeness_228 K P ) := by
  intro I a0 x4 x5 H locs ls ka0 rx4 rx5 hF hl hf
  unfold f_X8_likeness_228 at hf
  refine lv_iload C0.1 C0.2.1 dX8_likeness_228 (lv_at hl 2 rfl) ?_
  refine fl_if_ne (tgt := 238) C0 rx5 dX8_likeness_230 (by decide) (fun c11 => ?_) (fun c11 => ?_)
  · replace hf := (if_neg c11).symm.trans hf
    refine fl_bipush C0 dX8_likeness_238 (by decide) ?_
    refine lv_aload_n C0.1 C0.2.1 dX8_likeness_240 rfl (lv_at hl 0 rfl) ?_
    refine fl_getr (k := 37) (t := 168) ck_9 C0 hF ka0 rfl (wt_at (k := 37) (t := 168) hWT ka0 rfl) rfl ⟨rfl, rfl⟩ aw_911 dX8_likeness_241 ?_
    refine lv_aload_n C0.1 C0.2.1 dX8_likeness_244 rfl (lv_at hl 0 rfl) ?_
    refine fl_getr (k := 1) (t := 368) ck_9 C0 hF ka0 rfl (wt_at (k := 1) (t := 368) hWT ka0 rfl) rfl ⟨rfl, rfl⟩ aw_875 dX8_likeness_245 ?_
    refine lv_iload C0.1 C0.2.1 dX8_likeness_248 (lv_at hl 1 rfl) ?_
    obtain ⟨hc, hf⟩ := ck_f hf
    refine fl_iald (n := 67) C0 hF (wt_at (k := 1) (t := 368) hWT ka0 rfl) rx4 hc dX8_likeness_250 ?_
    obtain ⟨hc, hf⟩ := ck_f hf
    refine fl_iald (n := 17) C0 hF (wt_at (k := 37) (t := 168) hWT ka0 rfl) (hF.rI _ _) hc dX8_likeness_251 ?_
    refine fl_imul C0 dX8_likeness_252 ?_
    refine lv_iload C0.1 C0.2.1 dX8_likeness_253 (lv_at hl 2 rfl) ?_
    obtain ⟨hc, hf⟩ := ck_f hf
    refine fl_idiv C0 rx5 hc dX8_likeness_255 ?_
    cases hf
    exact fl_iret C0 hF hr (rg_idv _ _) rfl dX8_likeness_256
  · replace hf := (if_pos c11).symm.trans hf
    refine fl_bipush C0 dX8_likeness_233 (by decide) ?_
    refine fl_goto (tgt := 256) C0 dX8_likeness_235 (by decide) ?_
    cases hf
    exact fl_iret C0 hF hr (rgk 100 rfl) rfl dX8_likeness_256
set_option maxRecDepth 100000 in
set_option maxHeartbeats 4000000 in
theorem b_X8_likeness_106 {p : Program} {l : Launch} {e : Env} {s : State} {m : MethodId} {args : Array Value} {below : List Frame} {meth : Method} {c : Code} {D : va_G} {cy : Nat → ClassId} {B : Nat} {L : List Nat} {K : KT} {P : PT} {J : IT} {res : Int × IT} (C0 : FC D cy B p s m meth c "RejudgeHallModel" cX8_likeness 11) (hr : meth.sig.returnType = (some .int)) (hWT : WT K P) : ∀ n : Nat, G_X8_likeness_106 p l e s m args below meth c D cy B L K P J res (f_X8_likeness_106 K P  n)
  | 0 => by
    intro I a0 x3 x4 x5 x6 H locs ls ka0 rx3 rx4 rx5 rx6 hF hl hf
    cases hf
  | n + 1 => by
    have ih : G_X8_likeness_106 p l e s m args below meth c D cy B L K P J res (f_X8_likeness_106 K P  n)  := b_X8_likeness_106 C0 hr hWT  n
    intro I a0 x3 x4 x5 x6 H locs ls ka0 rx3 rx4 rx5 rx6 hF hl hf
    rw [f_X8_likeness_106] at hf
    refine lv_iload C0.1 C0.2.1 dX8_likeness_106 (lv_at hl 4 rfl) ?_
    refine lv_aload_n C0.1 C0.2.1 dX8_likeness_108 rfl (lv_at hl 0 rfl) ?_
    refine fl_getr (k := 1) (t := 368) ck_9 C0 hF ka0 rfl (wt_at (k := 1) (t := 368) hWT ka0 rfl) rfl ⟨rfl, rfl⟩ aw_875 dX8_likeness_109 ?_
    refine lv_iload_n C0.1 C0.2.1 dX8_likeness_112 rfl (lv_at hl 1 rfl) ?_
    obtain ⟨hc, hf⟩ := ck_f hf
    refine fl_iald (n := 67) C0 hF (wt_at (k := 1) (t := 368) hWT ka0 rfl) rx3 hc dX8_likeness_113 ?_
    refine fl_icmp_ge (tgt := 228) C0 rx6 (hF.rI _ _) dX8_likeness_114 (by decide) (fun c10 => ?_) (fun c10 => ?_)
    · replace hf := (if_pos c10).symm.trans hf
      exact b_X8_likeness_228 C0 hr hWT  I a0 x4 x5 _ _ _ ka0 rx4 rx5 hF (lv_sub hl [0, 2, 3] rfl) hf
    · replace hf := (if_neg c10).symm.trans hf
      refine fl_iconst C0 dX8_likeness_117 ?_
      refine lv_istore (lv' := [(7, iv 0), (0, .ref a0), (3, iv x3), (4, iv x4), (5, iv x5), (6, iv x6)]) C0.1 C0.2.1 dX8_likeness_118 hl (by decide) rfl (fun ls hl => ?_)
      refine fl_iconst C0 dX8_likeness_120 ?_
      refine lv_istore (lv' := [(8, iv 0), (7, iv 0), (0, .ref a0), (3, iv x3), (4, iv x4), (5, iv x5), (6, iv x6)]) C0.1 C0.2.1 dX8_likeness_121 hl (by decide) rfl (fun ls hl => ?_)
      exact b_X8_likeness_123 C0 hr hWT ih FU I a0 x3 x4 x5 x6 0 0 _ _ _ ka0 rx3 rx4 rx5 rx6 ((rgk 0 rfl)) ((rgk 0 rfl)) hF (lv_sub hl [2, 3, 4, 5, 6, 1, 0] rfl) hf
set_option maxRecDepth 100000 in
set_option maxHeartbeats 4000000 in
theorem b_X8_likeness_103 {p : Program} {l : Launch} {e : Env} {s : State} {m : MethodId} {args : Array Value} {below : List Frame} {meth : Method} {c : Code} {D : va_G} {cy : Nat → ClassId} {B : Nat} {L : List Nat} {K : KT} {P : PT} {J : IT} {res : Int × IT} (C0 : FC D cy B p s m meth c "RejudgeHallModel" cX8_likeness 11) (hr : meth.sig.returnType = (some .int)) (hWT : WT K P) : G_X8_likeness_103 p l e s m args below meth c D cy B L K P J res (f_X8_likeness_103 K P ) := by
  intro I a0 x3 x4 x5 H locs ls ka0 rx3 rx4 rx5 hF hl hf
  unfold f_X8_likeness_103 at hf
  refine fl_iconst C0 dX8_likeness_103 ?_
  refine lv_istore (lv' := [(6, iv 0), (0, .ref a0), (3, iv x3), (4, iv x4), (5, iv x5)]) C0.1 C0.2.1 dX8_likeness_104 hl (by decide) rfl (fun ls hl => ?_)
  exact b_X8_likeness_106 C0 hr hWT  FU I a0 x3 x4 x5 0 _ _ _ ka0 rx3 rx4 rx5 ((rgk 0 rfl)) hF (lv_sub hl [1, 2, 3, 4, 0] rfl) hf
set_option maxRecDepth 100000 in
set_option maxHeartbeats 4000000 in
theorem b_X8_likeness_82 {p : Program} {l : Launch} {e : Env} {s : State} {m : MethodId} {args : Array Value} {below : List Frame} {meth : Method} {c : Code} {D : va_G} {cy : Nat → ClassId} {B : Nat} {L : List Nat} {K : KT} {P : PT} {J : IT} {res : Int × IT} (C0 : FC D cy B p s m meth c "RejudgeHallModel" cX8_likeness 11) (hr : meth.sig.returnType = (some .int)) (hWT : WT K P) : ∀ n : Nat, G_X8_likeness_82 p l e s m args below meth c D cy B L K P J res (f_X8_likeness_82 K P  n)
  | 0 => by
    intro I a0 x3 x4 x5 x6 H locs ls ka0 rx3 rx4 rx5 rx6 hF hl hf
    cases hf
  | n + 1 => by
    have ih : G_X8_likeness_82 p l e s m args below meth c D cy B L K P J res (f_X8_likeness_82 K P  n)  := b_X8_likeness_82 C0 hr hWT  n
    intro I a0 x3 x4 x5 x6 H locs ls ka0 rx3 rx4 rx5 rx6 hF hl hf
    rw [f_X8_likeness_82] at hf
    refine lv_iload C0.1 C0.2.1 dX8_likeness_82 (lv_at hl 4 rfl) ?_
    refine fl_bipush C0 dX8_likeness_84 (by decide) ?_
    refine fl_icmp_ge (tgt := 103) C0 rx6 (rgk 17 rfl) dX8_likeness_86 (by decide) (fun c8 => ?_) (fun c8 => ?_)
    · replace hf := (if_pos c8).symm.trans hf
      exact b_X8_likeness_103 C0 hr hWT  I a0 x3 x4 x5 _ _ _ ka0 rx3 rx4 rx5 hF (lv_sub hl [0, 1, 2, 3] rfl) hf
    · replace hf := (if_neg c8).symm.trans hf
      refine lv_aload_n C0.1 C0.2.1 dX8_likeness_89 rfl (lv_at hl 0 rfl) ?_
      refine fl_getr (k := 37) (t := 168) ck_9 C0 hF ka0 rfl (wt_at (k := 37) (t := 168) hWT ka0 rfl) rfl ⟨rfl, rfl⟩ aw_911 dX8_likeness_90 ?_
      refine lv_iload C0.1 C0.2.1 dX8_likeness_93 (lv_at hl 4 rfl) ?_
      refine fl_iconst C0 dX8_likeness_95 ?_
      obtain ⟨hc, hf⟩ := ck_f hf
      refine fl_iast (n := 17) C0 hF (wt_at (k := 37) (t := 168) hWT ka0 rfl) rx6 (rgk 0 rfl) hc dX8_likeness_96 (fun H locs hF9 => ?_)
      obtain ⟨I9, eI9, hf⟩ := bnd_f hf
      rw [eI9] at hF9
      refine fl_iinc (lv' := [(6, iv (wr (x6 + 1))), (0, .ref a0), (3, iv x3), (4, iv x4), (5, iv x5)]) C0 dX8_likeness_97 hl (k := 4) rfl (by decide) rfl (fun ls hl => ?_)
      refine fl_goto (tgt := 82) C0 dX8_likeness_100 (by decide) ?_
      exact ih I9 a0 x3 x4 x5 ((wr (x6 + 1))) _ _ _ ka0 rx3 rx4 rx5 ((rg_wr _)) hF9 (lv_sub hl [1, 2, 3, 4, 0] rfl) hf
set_option maxRecDepth 100000 in
set_option maxHeartbeats 4000000 in
theorem b_X8_likeness_77 {p : Program} {l : Launch} {e : Env} {s : State} {m : MethodId} {args : Array Value} {below : List Frame} {meth : Method} {c : Code} {D : va_G} {cy : Nat → ClassId} {B : Nat} {L : List Nat} {K : KT} {P : PT} {J : IT} {res : Int × IT} (C0 : FC D cy B p s m meth c "RejudgeHallModel" cX8_likeness 11) (hr : meth.sig.returnType = (some .int)) (hWT : WT K P) : G_X8_likeness_77 p l e s m args below meth c D cy B L K P J res (f_X8_likeness_77 K P ) := by
  intro I a0 x3 x4 t0 H locs ls ka0 rx3 rx4 rt0 hF hl hf
  unfold f_X8_likeness_77 at hf
  refine lv_istore (lv' := [(5, iv t0), (0, .ref a0), (3, iv x3), (4, iv x4)]) C0.1 C0.2.1 dX8_likeness_77 hl (by decide) rfl (fun ls hl => ?_)
  refine fl_iconst C0 dX8_likeness_79 ?_
  refine lv_istore (lv' := [(6, iv 0), (5, iv t0), (0, .ref a0), (3, iv x3), (4, iv x4)]) C0.1 C0.2.1 dX8_likeness_80 hl (by decide) rfl (fun ls hl => ?_)
  exact b_X8_likeness_82 C0 hr hWT  FU I a0 x3 x4 t0 0 _ _ _ ka0 rx3 rx4 rt0 ((rgk 0 rfl)) hF (lv_sub hl [2, 3, 4, 1, 0] rfl) hf
set_option maxRecDepth 100000 in
set_option maxHeartbeats 4000000 in
theorem b_X8_likeness_22 {p : Program} {l : Launch} {e : Env} {s : State} {m : MethodId} {args : Array Value} {below : List Frame} {meth : Method} {c : Code} {D : va_G} {cy : Nat → ClassId} {B : Nat} {L : List Nat} {K : KT} {P : PT} {J : IT} {res : Int × IT} (C0 : FC D cy B p s m meth c "RejudgeHallModel" cX8_likeness 11) (hr : meth.sig.returnType = (some .int)) (hWT : WT K P) : G_X8_likeness_22 p l e s m args below meth c D cy B L K P J res (f_X8_likeness_22 K P ) := by
  intro I a0 x1 x2 t0 b1 H locs ls ka0 rx1 rx2 rt0 kb1 hF hl hf
  unfold f_X8_likeness_22 at hf
  refine fl_puti (k := 38) ck_9 C0 hF kb1 rfl rt0 ⟨rfl, rfl, rfl⟩ aw_912 dX8_likeness_22 (fun H locs hF5 => ?_)
  obtain ⟨I5, eI5, hf⟩ := bnd_f hf
  rw [eI5] at hF5
  refine lv_aload_n C0.1 C0.2.1 dX8_likeness_25 rfl (lv_at hl 0 rfl) ?_
  refine fl_geti (k := 38) ck_9 C0 hF5 ka0 rfl ⟨rfl, rfl⟩ aw_912 dX8_likeness_26 ?_
  refine fl_if_le (tgt := 34) C0 (hF5.rI _ _) dX8_likeness_29 (by decide) (fun c6 => ?_) (fun c6 => ?_)
  · replace hf := (if_pos c6).symm.trans hf
    refine fl_bipush C0 dX8_likeness_34 (by decide) ?_
    refine lv_iload_n C0.1 C0.2.1 dX8_likeness_36 rfl (lv_at hl 1 rfl) ?_
    refine fl_iadd C0 dX8_likeness_37 ?_
    refine lv_istore_n (lv' := [(3, iv (wr (7 + x1))), (0, .ref a0), (1, iv x1), (2, iv x2)]) C0.1 C0.2.1 dX8_likeness_38 rfl hl (by decide) rfl (fun ls hl => ?_)
    refine fl_bipush C0 dX8_likeness_39 (by decide) ?_
    refine lv_iload_n C0.1 C0.2.1 dX8_likeness_41 rfl (lv_at hl 3 rfl) ?_
    refine fl_iadd C0 dX8_likeness_42 ?_
    refine lv_istore (lv' := [(4, iv (wr (7 + x2))), (3, iv (wr (7 + x1))), (0, .ref a0), (1, iv x1), (2, iv x2)]) C0.1 C0.2.1 dX8_likeness_43 hl (by decide) rfl (fun ls hl => ?_)
    refine lv_aload_n C0.1 C0.2.1 dX8_likeness_45 rfl (lv_at hl 2 rfl) ?_
    refine fl_getr (k := 1) (t := 368) ck_9 C0 hF5 ka0 rfl (wt_at (k := 1) (t := 368) hWT ka0 rfl) rfl ⟨rfl, rfl⟩ aw_875 dX8_likeness_46 ?_
    refine lv_iload_n C0.1 C0.2.1 dX8_likeness_49 rfl (lv_at hl 1 rfl) ?_
    obtain ⟨hc, hf⟩ := ck_f hf
    refine fl_iald (n := 67) C0 hF5 (wt_at (k := 1) (t := 368) hWT ka0 rfl) (rg_wr _) hc dX8_likeness_50 ?_
    refine lv_aload_n C0.1 C0.2.1 dX8_likeness_51 rfl (lv_at hl 2 rfl) ?_
    refine fl_getr (k := 1) (t := 368) ck_9 C0 hF5 ka0 rfl (wt_at (k := 1) (t := 368) hWT ka0 rfl) rfl ⟨rfl, rfl⟩ aw_875 dX8_likeness_52 ?_
    refine lv_iload C0.1 C0.2.1 dX8_likeness_55 (lv_at hl 0 rfl) ?_
    obtain ⟨hc, hf⟩ := ck_f hf
    refine fl_iald (n := 67) C0 hF5 (wt_at (k := 1) (t := 368) hWT ka0 rfl) (rg_wr _) hc dX8_likeness_57 ?_
    refine fl_icmp_le (tgt := 70) C0 (hF5.rI _ _) (hF5.rI _ _) dX8_likeness_58 (by decide) (fun c7 => ?_) (fun c7 => ?_)
    · replace hf := (if_pos c7).symm.trans hf
      refine lv_aload_n C0.1 C0.2.1 dX8_likeness_70 rfl (lv_at hl 2 rfl) ?_
      refine fl_getr (k := 1) (t := 368) ck_9 C0 hF5 ka0 rfl (wt_at (k := 1) (t := 368) hWT ka0 rfl) rfl ⟨rfl, rfl⟩ aw_875 dX8_likeness_71 ?_
      refine lv_iload C0.1 C0.2.1 dX8_likeness_74 (lv_at hl 0 rfl) ?_
      obtain ⟨hc, hf⟩ := ck_f hf
      refine fl_iald (n := 67) C0 hF5 (wt_at (k := 1) (t := 368) hWT ka0 rfl) (rg_wr _) hc dX8_likeness_76 ?_
      exact b_X8_likeness_77 C0 hr hWT  I5 a0 ((wr (7 + x1))) ((wr (7 + x2))) ((I5 ((P a0 1)) ((wr (7 + x2)) : Int).toNat)) _ _ _ ka0 ((rg_wr _)) ((rg_wr _)) ((hF5.rI _ _)) hF5 (lv_sub hl [2, 1, 0] rfl) hf
    · replace hf := (if_neg c7).symm.trans hf
      refine lv_aload_n C0.1 C0.2.1 dX8_likeness_61 rfl (lv_at hl 2 rfl) ?_
      refine fl_getr (k := 1) (t := 368) ck_9 C0 hF5 ka0 rfl (wt_at (k := 1) (t := 368) hWT ka0 rfl) rfl ⟨rfl, rfl⟩ aw_875 dX8_likeness_62 ?_
      refine lv_iload_n C0.1 C0.2.1 dX8_likeness_65 rfl (lv_at hl 1 rfl) ?_
      obtain ⟨hc, hf⟩ := ck_f hf
      refine fl_iald (n := 67) C0 hF5 (wt_at (k := 1) (t := 368) hWT ka0 rfl) (rg_wr _) hc dX8_likeness_66 ?_
      refine fl_goto (tgt := 77) C0 dX8_likeness_67 (by decide) ?_
      exact b_X8_likeness_77 C0 hr hWT  I5 a0 ((wr (7 + x1))) ((wr (7 + x2))) ((I5 ((P a0 1)) ((wr (7 + x1)) : Int).toNat)) _ _ _ ka0 ((rg_wr _)) ((rg_wr _)) ((hF5.rI _ _)) hF5 (lv_sub hl [2, 1, 0] rfl) hf
  · replace hf := (if_neg c6).symm.trans hf
    refine fl_iconst C0 dX8_likeness_32 ?_
    cases hf
    exact fl_iret C0 hF5 hr (rgk 0 rfl) rfl dX8_likeness_33
set_option maxRecDepth 100000 in
set_option maxHeartbeats 4000000 in
theorem b_X8_likeness_21 {p : Program} {l : Launch} {e : Env} {s : State} {m : MethodId} {args : Array Value} {below : List Frame} {meth : Method} {c : Code} {D : va_G} {cy : Nat → ClassId} {B : Nat} {L : List Nat} {K : KT} {P : PT} {J : IT} {res : Int × IT} (C0 : FC D cy B p s m meth c "RejudgeHallModel" cX8_likeness 11) (hr : meth.sig.returnType = (some .int)) (hWT : WT K P) : G_X8_likeness_21 p l e s m args below meth c D cy B L K P J res (f_X8_likeness_21 K P ) := by
  intro I a0 x1 x2 b0 H locs ls ka0 rx1 rx2 kb0 hF hl hf
  unfold f_X8_likeness_21 at hf
  refine fl_iconst C0 dX8_likeness_21 ?_
  exact b_X8_likeness_22 C0 hr hWT  I a0 x1 x2 1 b0 _ _ _ ka0 rx1 rx2 ((rgk 1 rfl)) kb0 hF (lv_sub hl [0, 1, 2] rfl) hf
theorem pm_X8_likeness : plainM yX8_likeness 2 := by decide +kernel
set_option maxRecDepth 100000 in
set_option maxHeartbeats 4000000 in
theorem c_X8_likeness (l : Launch) (D : va_G) (cy : Nat → ClassId) (B : Nat) (L : List Nat) (K : KT) (P : PT) (J : IT) (hWT : WT K P) (I : IT) (a0 : Nat) (x1 : Int) (x2 : Int) (ka0 : K a0 = 9) (rx1 : rg x1) (rx2 : rg x2) {r : Int} {I' : IT} (hf : f_X8_likeness K P I a0 x1 x2 = some (r, I')) : Met l yX8_likeness [.code yX8_likeness cX8_likeness 11 (some .int)] rm_X8_likeness (va_Pc [.ref a0, iv x1, iv x2] (FW D cy B L K P J I)) (QI D cy B L K P J (r, I')) 0 0 (fun q => B ≤ q) := by
  refine fl_body (own := "RejudgeHallModel") [.ref a0, iv x1, iv x2] (by decide) rfl (Nat.le_of_ble_eq_true rfl) ?_
  intro p e s m args below meth c ls C0 hr hF hl
  have hl : lv_has ls 11 [(0, .ref a0), (1, iv x1), (2, iv x2)] := hl
  unfold f_X8_likeness at hf
  refine lv_aload_n C0.1 C0.2.1 dX8_likeness_0 rfl (lv_at hl 0 rfl) ?_
  refine lv_aload_n C0.1 C0.2.1 dX8_likeness_1 rfl (lv_at hl 0 rfl) ?_
  refine lv_iload_n C0.1 C0.2.1 dX8_likeness_2 rfl (lv_at hl 1 rfl) ?_
  obtain ⟨r1, hq1, hf⟩ := bp_f hf
  refine fl_ri hF (fl_runV (As := [iv x1]) (rest := [.ref a0]) C0 hF hl.1 ck_9 ka0 rfl (c_X8_isEntry l D cy B L K P J hWT I a0 x1 ka0 rx1 hq1) aw_1115 aw_1117 aw_55 aw_73 aw_1118 rfl rfl pm_X8_isEntry rfl rfl ⟨Nat.le_of_ble_eq_true rfl, Nat.le_of_ble_eq_true rfl⟩ rfl (Nat.le_of_ble_eq_true rfl) dX8_likeness_3 ⟨Nat.le_of_ble_eq_true rfl, Nat.le_of_ble_eq_true rfl⟩) (fun H locs hF1 rr1 => ?_)
  refine fl_if_eq (tgt := 21) C0 rr1 dX8_likeness_6 (by decide) (fun c2 => ?_) (fun c2 => ?_)
  · replace hf := (if_pos c2).symm.trans hf
    exact b_X8_likeness_21 C0 hr hWT  I a0 x1 x2 a0 _ _ _ ka0 rx1 rx2 ka0 hF1 (lv_sub hl [0, 1, 2] rfl) hf
  · replace hf := (if_neg c2).symm.trans hf
    refine lv_aload_n C0.1 C0.2.1 dX8_likeness_9 rfl (lv_at hl 0 rfl) ?_
    refine lv_iload_n C0.1 C0.2.1 dX8_likeness_10 rfl (lv_at hl 2 rfl) ?_
    obtain ⟨r3, hq3, hf⟩ := bp_f hf
    refine fl_ri hF1 (fl_runV (As := [iv x2]) (rest := [.ref a0]) C0 hF1 hl.1 ck_9 ka0 rfl (c_X8_isEntry l D cy B L K P J hWT I a0 x2 ka0 rx2 hq3) aw_1115 aw_1117 aw_55 aw_73 aw_1118 rfl rfl pm_X8_isEntry rfl rfl ⟨Nat.le_of_ble_eq_true rfl, Nat.le_of_ble_eq_true rfl⟩ rfl (Nat.le_of_ble_eq_true rfl) dX8_likeness_11 ⟨Nat.le_of_ble_eq_true rfl, Nat.le_of_ble_eq_true rfl⟩) (fun H locs hF3 rr3 => ?_)
    refine fl_if_eq (tgt := 21) C0 rr3 dX8_likeness_14 (by decide) (fun c4 => ?_) (fun c4 => ?_)
    · replace hf := (if_pos c4).symm.trans hf
      exact b_X8_likeness_21 C0 hr hWT  I a0 x1 x2 a0 _ _ _ ka0 rx1 rx2 ka0 hF3 (lv_sub hl [0, 1, 2] rfl) hf
    · replace hf := (if_neg c4).symm.trans hf
      refine fl_iconst C0 dX8_likeness_17 ?_
      refine fl_goto (tgt := 22) C0 dX8_likeness_18 (by decide) ?_
      exact b_X8_likeness_22 C0 hr hWT  I a0 x1 x2 0 a0 _ _ _ ka0 rx1 rx2 ((rgk 0 rfl)) ka0 hF3 (lv_sub hl [0, 1, 2] rfl) hf
-- RejudgeHallModel.isLate(I)Z
abbrev rm_X8_isLate : Room := { frames := 0, cells := 0, slots := 0, locals := 0 }
def f_X8_isLate (K : KT) (P : PT) (I : IT) (a0 : Nat) (x1 : Int) : Option (Int) := if (I a0 23) = (-1) then (some 0) else (ck (0 ≤ x1 ∧ x1 < 60) <| if (I ((P a0 16)) (x1 : Int).toNat) < (I a0 23) then (some 0) else (some 1))
theorem pm_X8_isLate : plainM yX8_isLate 1 := by decide +kernel
set_option maxRecDepth 100000 in
set_option maxHeartbeats 4000000 in
theorem c_X8_isLate (l : Launch) (D : va_G) (cy : Nat → ClassId) (B : Nat) (L : List Nat) (K : KT) (P : PT) (J : IT) (hWT : WT K P) (I : IT) (a0 : Nat) (x1 : Int) (ka0 : K a0 = 9) (rx1 : rg x1) {r : Int} (hf : f_X8_isLate K P I a0 x1 = some r) : Met l yX8_isLate [.code yX8_isLate cX8_isLate 2 (some .boolean)] rm_X8_isLate (va_Pc [.ref a0, iv x1] (FW D cy B L K P J I)) (QI D cy B L K P J (r, I)) 0 0 (fun q => B ≤ q) := by
  refine fl_body (own := "RejudgeHallModel") [.ref a0, iv x1] (by decide) rfl (Nat.le_of_ble_eq_true rfl) ?_
  intro p e s m args below meth c ls C0 hr hF hl
  have hl : lv_has ls 2 [(0, .ref a0), (1, iv x1)] := hl
  unfold f_X8_isLate at hf
  refine lv_aload_n C0.1 C0.2.1 dX8_isLate_0 rfl (lv_at hl 0 rfl) ?_
  refine fl_geti (k := 23) ck_9 C0 hF ka0 rfl ⟨rfl, rfl⟩ aw_897 dX8_isLate_1 ?_
  refine fl_iconst C0 dX8_isLate_4 ?_
  refine fl_icmp_eq (tgt := 25) C0 (hF.rI _ _) (rgk (-1) rfl) dX8_isLate_5 (by decide) (fun c1 => ?_) (fun c1 => ?_)
  · replace hf := (if_pos c1).symm.trans hf
    refine fl_iconst C0 dX8_isLate_25 ?_
    cases hf
    exact fl_zret C0 hF hr (rgk 0 rfl) (Or.inl rfl) rfl dX8_isLate_26
  · replace hf := (if_neg c1).symm.trans hf
    refine lv_aload_n C0.1 C0.2.1 dX8_isLate_8 rfl (lv_at hl 0 rfl) ?_
    refine fl_getr (k := 16) (t := 340) ck_9 C0 hF ka0 rfl (wt_at (k := 16) (t := 340) hWT ka0 rfl) rfl ⟨rfl, rfl⟩ aw_890 dX8_isLate_9 ?_
    refine lv_iload_n C0.1 C0.2.1 dX8_isLate_12 rfl (lv_at hl 1 rfl) ?_
    obtain ⟨hc, hf⟩ := ck_f hf
    refine fl_iald (n := 60) C0 hF (wt_at (k := 16) (t := 340) hWT ka0 rfl) rx1 hc dX8_isLate_13 ?_
    refine lv_aload_n C0.1 C0.2.1 dX8_isLate_14 rfl (lv_at hl 0 rfl) ?_
    refine fl_geti (k := 23) ck_9 C0 hF ka0 rfl ⟨rfl, rfl⟩ aw_897 dX8_isLate_15 ?_
    refine fl_icmp_lt (tgt := 25) C0 (hF.rI _ _) (hF.rI _ _) dX8_isLate_18 (by decide) (fun c2 => ?_) (fun c2 => ?_)
    · replace hf := (if_pos c2).symm.trans hf
      refine fl_iconst C0 dX8_isLate_25 ?_
      cases hf
      exact fl_zret C0 hF hr (rgk 0 rfl) (Or.inl rfl) rfl dX8_isLate_26
    · replace hf := (if_neg c2).symm.trans hf
      refine fl_iconst C0 dX8_isLate_21 ?_
      refine fl_goto (tgt := 26) C0 dX8_isLate_22 (by decide) ?_
      cases hf
      exact fl_zret C0 hF hr (rgk 1 rfl) (Or.inr rfl) rfl dX8_isLate_26
-- RejudgeHallModel.counts(II)I
abbrev rm_X8_counts : Room := { frames := 0, cells := 0, slots := 0, locals := 0 }
def f_X8_counts_41 (K : KT) (P : PT) (k2 : Nat → Int → Int → Int → Option (Int)) (I : IT) (a0 : Nat) (x1 : Int) (x2 : Int) (x3 : Int) : Option (Int) := k2 a0 x1 x2 ((wr (x3 + 1)))
def f_X8_counts_2 (K : KT) (P : PT) (I : IT) : Nat → Nat → Int → Int → Int → Option (Int)
  | 0, _, _, _, _ => none
  | n + 1, a0, x1, x2, x3 => if (I a0 13) ≤ x3 then (some ((-1))) else (ck (0 ≤ x3 ∧ x3 < 60) <| if (I ((P a0 14)) (x3 : Int).toNat) = x1 then (ck (0 ≤ x3 ∧ x3 < 60) <| if (I ((P a0 15)) (x3 : Int).toNat) = x2 then (ck (0 ≤ x3 ∧ x3 < 60) <| if (I ((P a0 33)) (x3 : Int).toNat) = 0 then (some x3) else (f_X8_counts_41 K P ((f_X8_counts_2 K P  I n)) I a0 x1 x2 x3)) else (f_X8_counts_41 K P ((f_X8_counts_2 K P  I n)) I a0 x1 x2 x3)) else (f_X8_counts_41 K P ((f_X8_counts_2 K P  I n)) I a0 x1 x2 x3))
def f_X8_counts (K : KT) (P : PT) (I : IT) (a0 : Nat) (x1 : Int) (x2 : Int) : Option (Int) := f_X8_counts_2 K P  I FU a0 x1 x2 0
abbrev G_X8_counts_41 (p : Program) (l : Launch) (e : Env) (s : State) (m : MethodId) (args : Array Value) (below : List Frame) (meth : Method) (c : Code) (D : va_G) (cy : Nat → ClassId) (B : Nat) (L : List Nat) (K : KT) (P : PT) (J : IT) (res : Int) (I : IT) (f : Nat → Int → Int → Int → Option (Int)) : Prop := ∀ (a0 : Nat) (x1 : Int) (x2 : Int) (x3 : Int) (H : Heap) (locs : List Loc) (ls : Array Slot), K a0 = 9 → rg x1 → rg x2 → rg x3 → FS D cy B L K P J s.heap I H locs → lv_has ls 4 [(0, .ref a0), (1, iv x1), (2, iv x2), (3, iv x3)] → f a0 x1 x2 x3 = some res → W p l e rm_X8_counts s m args below meth c H locs 0 0 (MQ below (QI D cy B L K P J (res, I)) args s 0 0 (fun q => B ≤ q)) (F0 m 41 ls [])
abbrev G_X8_counts_2 (p : Program) (l : Launch) (e : Env) (s : State) (m : MethodId) (args : Array Value) (below : List Frame) (meth : Method) (c : Code) (D : va_G) (cy : Nat → ClassId) (B : Nat) (L : List Nat) (K : KT) (P : PT) (J : IT) (res : Int) (I : IT) (f : Nat → Int → Int → Int → Option (Int)) : Prop := ∀ (a0 : Nat) (x1 : Int) (x2 : Int) (x3 : Int) (H : Heap) (locs : List Loc) (ls : Array Slot), K a0 = 9 → rg x1 → rg x2 → rg x3 → FS D cy B L K P J s.heap I H locs → lv_has ls 4 [(0, .ref a0), (1, iv x1), (2, iv x2), (3, iv x3)] → f a0 x1 x2 x3 = some res → W p l e rm_X8_counts s m args below meth c H locs 0 0 (MQ below (QI D cy B L K P J (res, I)) args s 0 0 (fun q => B ≤ q)) (F0 m 2 ls [])
set_option maxRecDepth 100000 in
set_option maxHeartbeats 4000000 in
theorem b_X8_counts_41 {p : Program} {l : Launch} {e : Env} {s : State} {m : MethodId} {args : Array Value} {below : List Frame} {meth : Method} {c : Code} {D : va_G} {cy : Nat → ClassId} {B : Nat} {L : List Nat} {K : KT} {P : PT} {J : IT} {res : Int} {I : IT} (C0 : FC D cy B p s m meth c "RejudgeHallModel" cX8_counts 4) (hr : meth.sig.returnType = (some .int)) (hWT : WT K P) {k2 : Nat → Int → Int → Int → Option (Int)} (hk2 : G_X8_counts_2 p l e s m args below meth c D cy B L K P J res I k2) : G_X8_counts_41 p l e s m args below meth c D cy B L K P J res I (f_X8_counts_41 K P k2 I) := by
  intro a0 x1 x2 x3 H locs ls ka0 rx1 rx2 rx3 hF hl hf
  unfold f_X8_counts_41 at hf
  refine fl_iinc (lv' := [(3, iv (wr (x3 + 1))), (0, .ref a0), (1, iv x1), (2, iv x2)]) C0 dX8_counts_41 hl (k := 3) rfl (by decide) rfl (fun ls hl => ?_)
  refine fl_goto (tgt := 2) C0 dX8_counts_44 (by decide) ?_
  exact hk2  a0 x1 x2 ((wr (x3 + 1))) _ _ _ ka0 rx1 rx2 ((rg_wr _)) hF (lv_sub hl [1, 2, 3, 0] rfl) hf
set_option maxRecDepth 100000 in
set_option maxHeartbeats 4000000 in
theorem b_X8_counts_2 {p : Program} {l : Launch} {e : Env} {s : State} {m : MethodId} {args : Array Value} {below : List Frame} {meth : Method} {c : Code} {D : va_G} {cy : Nat → ClassId} {B : Nat} {L : List Nat} {K : KT} {P : PT} {J : IT} {res : Int} {I : IT} (C0 : FC D cy B p s m meth c "RejudgeHallModel" cX8_counts 4) (hr : meth.sig.returnType = (some .int)) (hWT : WT K P) : ∀ n : Nat, G_X8_counts_2 p l e s m args below meth c D cy B L K P J res I (f_X8_counts_2 K P  I n)
  | 0 => by
    intro a0 x1 x2 x3 H locs ls ka0 rx1 rx2 rx3 hF hl hf
    cases hf
  | n + 1 => by
    have ih : G_X8_counts_2 p l e s m args below meth c D cy B L K P J res I (f_X8_counts_2 K P  I n)  := b_X8_counts_2 C0 hr hWT  n
    intro a0 x1 x2 x3 H locs ls ka0 rx1 rx2 rx3 hF hl hf
    rw [f_X8_counts_2] at hf
    refine lv_iload_n C0.1 C0.2.1 dX8_counts_2 rfl (lv_at hl 3 rfl) ?_
    refine lv_aload_n C0.1 C0.2.1 dX8_counts_3 rfl (lv_at hl 0 rfl) ?_
    refine fl_geti (k := 13) ck_9 C0 hF ka0 rfl ⟨rfl, rfl⟩ aw_887 dX8_counts_4 ?_
    refine fl_icmp_ge (tgt := 47) C0 rx3 (hF.rI _ _) dX8_counts_7 (by decide) (fun c1 => ?_) (fun c1 => ?_)
    · replace hf := (if_pos c1).symm.trans hf
      refine fl_iconst C0 dX8_counts_47 ?_
      cases hf
      exact fl_iret C0 hF hr (rgk (-1) rfl) rfl dX8_counts_48
    · replace hf := (if_neg c1).symm.trans hf
      refine lv_aload_n C0.1 C0.2.1 dX8_counts_10 rfl (lv_at hl 0 rfl) ?_
      refine fl_getr (k := 14) (t := 340) ck_9 C0 hF ka0 rfl (wt_at (k := 14) (t := 340) hWT ka0 rfl) rfl ⟨rfl, rfl⟩ aw_888 dX8_counts_11 ?_
      refine lv_iload_n C0.1 C0.2.1 dX8_counts_14 rfl (lv_at hl 3 rfl) ?_
      obtain ⟨hc, hf⟩ := ck_f hf
      refine fl_iald (n := 60) C0 hF (wt_at (k := 14) (t := 340) hWT ka0 rfl) rx3 hc dX8_counts_15 ?_
      refine lv_iload_n C0.1 C0.2.1 dX8_counts_16 rfl (lv_at hl 1 rfl) ?_
      refine fl_icmp_ne (tgt := 41) C0 (hF.rI _ _) rx1 dX8_counts_17 (by decide) (fun c2 => ?_) (fun c2 => ?_)
      · replace hf := (if_neg c2).symm.trans hf
        exact b_X8_counts_41 C0 hr hWT ih  a0 x1 x2 x3 _ _ _ ka0 rx1 rx2 rx3 hF (lv_sub hl [0, 1, 2, 3] rfl) hf
      · replace hf := (if_pos c2).symm.trans hf
        refine lv_aload_n C0.1 C0.2.1 dX8_counts_20 rfl (lv_at hl 0 rfl) ?_
        refine fl_getr (k := 15) (t := 340) ck_9 C0 hF ka0 rfl (wt_at (k := 15) (t := 340) hWT ka0 rfl) rfl ⟨rfl, rfl⟩ aw_889 dX8_counts_21 ?_
        refine lv_iload_n C0.1 C0.2.1 dX8_counts_24 rfl (lv_at hl 3 rfl) ?_
        obtain ⟨hc, hf⟩ := ck_f hf
        refine fl_iald (n := 60) C0 hF (wt_at (k := 15) (t := 340) hWT ka0 rfl) rx3 hc dX8_counts_25 ?_
        refine lv_iload_n C0.1 C0.2.1 dX8_counts_26 rfl (lv_at hl 2 rfl) ?_
        refine fl_icmp_ne (tgt := 41) C0 (hF.rI _ _) rx2 dX8_counts_27 (by decide) (fun c3 => ?_) (fun c3 => ?_)
        · replace hf := (if_neg c3).symm.trans hf
          exact b_X8_counts_41 C0 hr hWT ih  a0 x1 x2 x3 _ _ _ ka0 rx1 rx2 rx3 hF (lv_sub hl [0, 1, 2, 3] rfl) hf
        · replace hf := (if_pos c3).symm.trans hf
          refine lv_aload_n C0.1 C0.2.1 dX8_counts_30 rfl (lv_at hl 0 rfl) ?_
          refine fl_getr (k := 33) (t := 340) ck_9 C0 hF ka0 rfl (wt_at (k := 33) (t := 340) hWT ka0 rfl) rfl ⟨rfl, rfl⟩ aw_907 dX8_counts_31 ?_
          refine lv_iload_n C0.1 C0.2.1 dX8_counts_34 rfl (lv_at hl 3 rfl) ?_
          obtain ⟨hc, hf⟩ := ck_f hf
          refine fl_iald (n := 60) C0 hF (wt_at (k := 33) (t := 340) hWT ka0 rfl) rx3 hc dX8_counts_35 ?_
          refine fl_if_ne (tgt := 41) C0 (hF.rI _ _) dX8_counts_36 (by decide) (fun c4 => ?_) (fun c4 => ?_)
          · replace hf := (if_neg c4).symm.trans hf
            exact b_X8_counts_41 C0 hr hWT ih  a0 x1 x2 x3 _ _ _ ka0 rx1 rx2 rx3 hF (lv_sub hl [0, 1, 2, 3] rfl) hf
          · replace hf := (if_pos c4).symm.trans hf
            refine lv_iload_n C0.1 C0.2.1 dX8_counts_39 rfl (lv_at hl 3 rfl) ?_
            cases hf
            exact fl_iret C0 hF hr rx3 rfl dX8_counts_40
theorem pm_X8_counts : plainM yX8_counts 2 := by decide +kernel
set_option maxRecDepth 100000 in
set_option maxHeartbeats 4000000 in
theorem c_X8_counts (l : Launch) (D : va_G) (cy : Nat → ClassId) (B : Nat) (L : List Nat) (K : KT) (P : PT) (J : IT) (hWT : WT K P) (I : IT) (a0 : Nat) (x1 : Int) (x2 : Int) (ka0 : K a0 = 9) (rx1 : rg x1) (rx2 : rg x2) {r : Int} (hf : f_X8_counts K P I a0 x1 x2 = some r) : Met l yX8_counts [.code yX8_counts cX8_counts 4 (some .int)] rm_X8_counts (va_Pc [.ref a0, iv x1, iv x2] (FW D cy B L K P J I)) (QI D cy B L K P J (r, I)) 0 0 (fun q => B ≤ q) := by
  refine fl_body (own := "RejudgeHallModel") [.ref a0, iv x1, iv x2] (by decide) rfl (Nat.le_of_ble_eq_true rfl) ?_
  intro p e s m args below meth c ls C0 hr hF hl
  have hl : lv_has ls 4 [(0, .ref a0), (1, iv x1), (2, iv x2)] := hl
  unfold f_X8_counts at hf
  refine fl_iconst C0 dX8_counts_0 ?_
  refine lv_istore_n (lv' := [(3, iv 0), (0, .ref a0), (1, iv x1), (2, iv x2)]) C0.1 C0.2.1 dX8_counts_1 rfl hl (by decide) rfl (fun ls hl => ?_)
  exact b_X8_counts_2 C0 hr hWT  FU  a0 x1 x2 0 _ _ _ ka0 rx1 rx2 ((rgk 0 rfl)) hF (lv_sub hl [1, 2, 3, 0] rfl) hf
-- RejudgeHallModel.boards()V
abbrev rm_X8_boards : Room := { frames := 1, cells := 0, slots := 0, locals := 23 }
def f_X8_boards_101 (K : KT) (P : PT) (k2 : IT → Nat → Int → Option (IT)) (k31 : IT → Nat → Int → Int → Option (IT)) (k49 : IT → Nat → Int → Int → Int → Int → Option (IT)) (I : IT) (a0 : Nat) (x1 : Int) (x2 : Int) (x3 : Int) (x4 : Int) (t0 : Int) (t1 : Int) (t2 : Int) (b3 : Nat) : Option (IT) := ck (0 ≤ t2 ∧ t2 < 8) <| bnd (up I b3 (t2 : Int).toNat (wr (t1 + t0))) fun I15 => k49 I15 a0 x1 x2 x3 ((wr (x4 + 1)))
def f_X8_boards_100 (K : KT) (P : PT) (k2 : IT → Nat → Int → Option (IT)) (k31 : IT → Nat → Int → Int → Option (IT)) (k49 : IT → Nat → Int → Int → Int → Int → Option (IT)) (I : IT) (a0 : Nat) (x1 : Int) (x2 : Int) (x3 : Int) (x4 : Int) (t0 : Int) (t1 : Int) (b2 : Nat) : Option (IT) := f_X8_boards_101 K P k2 k31 k49 I a0 x1 x2 x3 x4 0 t0 t1 b2
def f_X8_boards_175 (K : KT) (P : PT) (k2 : IT → Nat → Int → Option (IT)) (k31 : IT → Nat → Int → Int → Option (IT)) (I : IT) (a0 : Nat) (x1 : Int) (x2 : Int) : Option (IT) := k31 I a0 x1 ((wr (x2 + 1)))
def f_X8_boards_174 (K : KT) (P : PT) (k2 : IT → Nat → Int → Option (IT)) (k31 : IT → Nat → Int → Int → Option (IT)) (I : IT) (a0 : Nat) (x1 : Int) (x2 : Int) (t0 : Int) (t1 : Int) (b2 : Nat) : Option (IT) := ck (0 ≤ t1 ∧ t1 < 8) <| bnd (up I b2 (t1 : Int).toNat t0) fun I16 => f_X8_boards_175 K P k2 k31 I16 a0 x1 x2
def f_X8_boards_109 (K : KT) (P : PT) (k2 : IT → Nat → Int → Option (IT)) (k31 : IT → Nat → Int → Int → Option (IT)) (I : IT) (a0 : Nat) (x1 : Int) (x2 : Int) (x3 : Int) : Option (IT) := if x3 = (-1) then (f_X8_boards_175 K P k2 k31 I a0 x1 x2) else (ck (0 ≤ x1 ∧ x1 < 8) <| ck (0 ≤ x1 ∧ x1 < 8) <| bnd (up I ((P a0 34)) (x1 : Int).toNat (wr ((I ((P a0 34)) (x1 : Int).toNat) + 1))) fun I12 => ck (0 ≤ x1 ∧ x1 < 8) <| ck (0 ≤ x3 ∧ x3 < 60) <| ck (0 ≤ x1 ∧ x1 < 8) <| bnd (up I12 ((P a0 35)) (x1 : Int).toNat (wr ((I12 ((P a0 35)) (x1 : Int).toNat) + (I12 ((P a0 16)) (x3 : Int).toNat)))) fun I13 => ck (0 ≤ x3 ∧ x3 < 60) <| ck (0 ≤ x1 ∧ x1 < 8) <| if (I13 ((P a0 16)) (x3 : Int).toNat) ≤ (I13 ((P a0 36)) (x1 : Int).toNat) then (ck (0 ≤ x1 ∧ x1 < 8) <| f_X8_boards_174 K P k2 k31 I13 a0 x1 x2 ((I13 ((P a0 36)) (x1 : Int).toNat)) x1 ((P a0 36))) else (ck (0 ≤ x3 ∧ x3 < 60) <| f_X8_boards_174 K P k2 k31 I13 a0 x1 x2 ((I13 ((P a0 16)) (x3 : Int).toNat)) x1 ((P a0 36))))
def f_X8_boards_49 (K : KT) (P : PT) (k2 : IT → Nat → Int → Option (IT)) (k31 : IT → Nat → Int → Int → Option (IT)) : Nat → IT → Nat → Int → Int → Int → Int → Option (IT)
  | 0, _, _, _, _, _, _ => none
  | n + 1, I, a0, x1, x2, x3, x4 => if x3 ≤ x4 then (f_X8_boards_109 K P k2 k31 I a0 x1 x2 x3) else (ck (0 ≤ x1 ∧ x1 < 8) <| ck (0 ≤ x4 ∧ x4 < 60) <| if (I ((P a0 14)) (x4 : Int).toNat) = x1 then (ck (0 ≤ x4 ∧ x4 < 60) <| if (I ((P a0 15)) (x4 : Int).toNat) = x2 then (ck (0 ≤ x4 ∧ x4 < 60) <| if (I ((P a0 33)) (x4 : Int).toNat) = (-1) then (f_X8_boards_100 K P k2 k31 ((f_X8_boards_49 K P k2 k31 n)) I a0 x1 x2 x3 x4 ((I ((P a0 35)) (x1 : Int).toNat)) x1 ((P a0 35))) else (f_X8_boards_101 K P k2 k31 ((f_X8_boards_49 K P k2 k31 n)) I a0 x1 x2 x3 x4 20 ((I ((P a0 35)) (x1 : Int).toNat)) x1 ((P a0 35)))) else (f_X8_boards_100 K P k2 k31 ((f_X8_boards_49 K P k2 k31 n)) I a0 x1 x2 x3 x4 ((I ((P a0 35)) (x1 : Int).toNat)) x1 ((P a0 35)))) else (f_X8_boards_100 K P k2 k31 ((f_X8_boards_49 K P k2 k31 n)) I a0 x1 x2 x3 x4 ((I ((P a0 35)) (x1 : Int).toNat)) x1 ((P a0 35))))
def f_X8_boards_181 (K : KT) (P : PT) (k2 : IT → Nat → Int → Option (IT)) (I : IT) (a0 : Nat) (x1 : Int) : Option (IT) := k2 I a0 ((wr (x1 + 1)))
def f_X8_boards_31 (K : KT) (P : PT) (k2 : IT → Nat → Int → Option (IT)) : Nat → IT → Nat → Int → Int → Option (IT)
  | 0, _, _, _, _ => none
  | n + 1, I, a0, x1, x2 => if (I a0 6) ≤ x2 then (f_X8_boards_181 K P k2 I a0 x1) else (bp (f_X8_counts K P I a0 x1 x2) fun r6 => f_X8_boards_49 K P k2 ((f_X8_boards_31 K P k2 n)) FU I a0 x1 x2 r6 0)
def f_X8_boards_2 (K : KT) (P : PT) : Nat → IT → Nat → Int → Option (IT)
  | 0, _, _, _ => none
  | n + 1, I, a0, x1 => if 8 ≤ x1 then (some I) else (ck (0 ≤ x1 ∧ x1 < 8) <| bnd (up I ((P a0 34)) (x1 : Int).toNat 0) fun I2 => ck (0 ≤ x1 ∧ x1 < 8) <| bnd (up I2 ((P a0 35)) (x1 : Int).toNat 0) fun I3 => ck (0 ≤ x1 ∧ x1 < 8) <| bnd (up I3 ((P a0 36)) (x1 : Int).toNat 0) fun I4 => f_X8_boards_31 K P ((f_X8_boards_2 K P  n)) FU I4 a0 x1 0)
def f_X8_boards (K : KT) (P : PT) (I : IT) (a0 : Nat) : Option (IT) := f_X8_boards_2 K P  FU I a0 0
abbrev G_X8_boards_101 (p : Program) (l : Launch) (e : Env) (s : State) (m : MethodId) (args : Array Value) (below : List Frame) (meth : Method) (c : Code) (D : va_G) (cy : Nat → ClassId) (B : Nat) (L : List Nat) (K : KT) (P : PT) (J : IT) (res : IT) (f : IT → Nat → Int → Int → Int → Int → Int → Int → Int → Nat → Option (IT)) : Prop := ∀ (I : IT) (a0 : Nat) (x1 : Int) (x2 : Int) (x3 : Int) (x4 : Int) (t0 : Int) (t1 : Int) (t2 : Int) (b3 : Nat) (H : Heap) (locs : List Loc) (ls : Array Slot), K a0 = 9 → rg x1 → rg x2 → rg x3 → rg x4 → rg t0 → rg t1 → rg t2 → K b3 = 132 → FS D cy B L K P J s.heap I H locs → lv_has ls 5 [(0, .ref a0), (1, iv x1), (2, iv x2), (3, iv x3), (4, iv x4)] → f I a0 x1 x2 x3 x4 t0 t1 t2 b3 = some res → W p l e rm_X8_boards s m args below meth c H locs 0 0 (MQ below (QV D cy B L K P J res) args s 0 0 (fun q => B ≤ q)) (F0 m 101 ls [iv t0, iv t1, iv t2, .ref b3])
abbrev G_X8_boards_100 (p : Program) (l : Launch) (e : Env) (s : State) (m : MethodId) (args : Array Value) (below : List Frame) (meth : Method) (c : Code) (D : va_G) (cy : Nat → ClassId) (B : Nat) (L : List Nat) (K : KT) (P : PT) (J : IT) (res : IT) (f : IT → Nat → Int → Int → Int → Int → Int → Int → Nat → Option (IT)) : Prop := ∀ (I : IT) (a0 : Nat) (x1 : Int) (x2 : Int) (x3 : Int) (x4 : Int) (t0 : Int) (t1 : Int) (b2 : Nat) (H : Heap) (locs : List Loc) (ls : Array Slot), K a0 = 9 → rg x1 → rg x2 → rg x3 → rg x4 → rg t0 → rg t1 → K b2 = 132 → FS D cy B L K P J s.heap I H locs → lv_has ls 5 [(0, .ref a0), (1, iv x1), (2, iv x2), (3, iv x3), (4, iv x4)] → f I a0 x1 x2 x3 x4 t0 t1 b2 = some res → W p l e rm_X8_boards s m args below meth c H locs 0 0 (MQ below (QV D cy B L K P J res) args s 0 0 (fun q => B ≤ q)) (F0 m 100 ls [iv t0, iv t1, .ref b2])
abbrev G_X8_boards_175 (p : Program) (l : Launch) (e : Env) (s : State) (m : MethodId) (args : Array Value) (below : List Frame) (meth : Method) (c : Code) (D : va_G) (cy : Nat → ClassId) (B : Nat) (L : List Nat) (K : KT) (P : PT) (J : IT) (res : IT) (f : IT → Nat → Int → Int → Option (IT)) : Prop := ∀ (I : IT) (a0 : Nat) (x1 : Int) (x2 : Int) (H : Heap) (locs : List Loc) (ls : Array Slot), K a0 = 9 → rg x1 → rg x2 → FS D cy B L K P J s.heap I H locs → lv_has ls 5 [(0, .ref a0), (1, iv x1), (2, iv x2)] → f I a0 x1 x2 = some res → W p l e rm_X8_boards s m args below meth c H locs 0 0 (MQ below (QV D cy B L K P J res) args s 0 0 (fun q => B ≤ q)) (F0 m 175 ls [])
abbrev G_X8_boards_174 (p : Program) (l : Launch) (e : Env) (s : State) (m : MethodId) (args : Array Value) (below : List Frame) (meth : Method) (c : Code) (D : va_G) (cy : Nat → ClassId) (B : Nat) (L : List Nat) (K : KT) (P : PT) (J : IT) (res : IT) (f : IT → Nat → Int → Int → Int → Int → Nat → Option (IT)) : Prop := ∀ (I : IT) (a0 : Nat) (x1 : Int) (x2 : Int) (t0 : Int) (t1 : Int) (b2 : Nat) (H : Heap) (locs : List Loc) (ls : Array Slot), K a0 = 9 → rg x1 → rg x2 → rg t0 → rg t1 → K b2 = 132 → FS D cy B L K P J s.heap I H locs → lv_has ls 5 [(0, .ref a0), (1, iv x1), (2, iv x2)] → f I a0 x1 x2 t0 t1 b2 = some res → W p l e rm_X8_boards s m args below meth c H locs 0 0 (MQ below (QV D cy B L K P J res) args s 0 0 (fun q => B ≤ q)) (F0 m 174 ls [iv t0, iv t1, .ref b2])
abbrev G_X8_boards_109 (p : Program) (l : Launch) (e : Env) (s : State) (m : MethodId) (args : Array Value) (below : List Frame) (meth : Method) (c : Code) (D : va_G) (cy : Nat → ClassId) (B : Nat) (L : List Nat) (K : KT) (P : PT) (J : IT) (res : IT) (f : IT → Nat → Int → Int → Int → Option (IT)) : Prop := ∀ (I : IT) (a0 : Nat) (x1 : Int) (x2 : Int) (x3 : Int) (H : Heap) (locs : List Loc) (ls : Array Slot), K a0 = 9 → rg x1 → rg x2 → rg x3 → FS D cy B L K P J s.heap I H locs → lv_has ls 5 [(0, .ref a0), (1, iv x1), (2, iv x2), (3, iv x3)] → f I a0 x1 x2 x3 = some res → W p l e rm_X8_boards s m args below meth c H locs 0 0 (MQ below (QV D cy B L K P J res) args s 0 0 (fun q => B ≤ q)) (F0 m 109 ls [])
abbrev G_X8_boards_49 (p : Program) (l : Launch) (e : Env) (s : State) (m : MethodId) (args : Array Value) (below : List Frame) (meth : Method) (c : Code) (D : va_G) (cy : Nat → ClassId) (B : Nat) (L : List Nat) (K : KT) (P : PT) (J : IT) (res : IT) (f : IT → Nat → Int → Int → Int → Int → Option (IT)) : Prop := ∀ (I : IT) (a0 : Nat) (x1 : Int) (x2 : Int) (x3 : Int) (x4 : Int) (H : Heap) (locs : List Loc) (ls : Array Slot), K a0 = 9 → rg x1 → rg x2 → rg x3 → rg x4 → FS D cy B L K P J s.heap I H locs → lv_has ls 5 [(0, .ref a0), (1, iv x1), (2, iv x2), (3, iv x3), (4, iv x4)] → f I a0 x1 x2 x3 x4 = some res → W p l e rm_X8_boards s m args below meth c H locs 0 0 (MQ below (QV D cy B L K P J res) args s 0 0 (fun q => B ≤ q)) (F0 m 49 ls [])
abbrev G_X8_boards_181 (p : Program) (l : Launch) (e : Env) (s : State) (m : MethodId) (args : Array Value) (below : List Frame) (meth : Method) (c : Code) (D : va_G) (cy : Nat → ClassId) (B : Nat) (L : List Nat) (K : KT) (P : PT) (J : IT) (res : IT) (f : IT → Nat → Int → Option (IT)) : Prop := ∀ (I : IT) (a0 : Nat) (x1 : Int) (H : Heap) (locs : List Loc) (ls : Array Slot), K a0 = 9 → rg x1 → FS D cy B L K P J s.heap I H locs → lv_has ls 5 [(0, .ref a0), (1, iv x1)] → f I a0 x1 = some res → W p l e rm_X8_boards s m args below meth c H locs 0 0 (MQ below (QV D cy B L K P J res) args s 0 0 (fun q => B ≤ q)) (F0 m 181 ls [])
abbrev G_X8_boards_31 (p : Program) (l : Launch) (e : Env) (s : State) (m : MethodId) (args : Array Value) (below : List Frame) (meth : Method) (c : Code) (D : va_G) (cy : Nat → ClassId) (B : Nat) (L : List Nat) (K : KT) (P : PT) (J : IT) (res : IT) (f : IT → Nat → Int → Int → Option (IT)) : Prop := ∀ (I : IT) (a0 : Nat) (x1 : Int) (x2 : Int) (H : Heap) (locs : List Loc) (ls : Array Slot), K a0 = 9 → rg x1 → rg x2 → FS D cy B L K P J s.heap I H locs → lv_has ls 5 [(0, .ref a0), (1, iv x1), (2, iv x2)] → f I a0 x1 x2 = some res → W p l e rm_X8_boards s m args below meth c H locs 0 0 (MQ below (QV D cy B L K P J res) args s 0 0 (fun q => B ≤ q)) (F0 m 31 ls [])
abbrev G_X8_boards_2 (p : Program) (l : Launch) (e : Env) (s : State) (m : MethodId) (args : Array Value) (below : List Frame) (meth : Method) (c : Code) (D : va_G) (cy : Nat → ClassId) (B : Nat) (L : List Nat) (K : KT) (P : PT) (J : IT) (res : IT) (f : IT → Nat → Int → Option (IT)) : Prop := ∀ (I : IT) (a0 : Nat) (x1 : Int) (H : Heap) (locs : List Loc) (ls : Array Slot), K a0 = 9 → rg x1 → FS D cy B L K P J s.heap I H locs → lv_has ls 5 [(0, .ref a0), (1, iv x1)] → f I a0 x1 = some res → W p l e rm_X8_boards s m args below meth c H locs 0 0 (MQ below (QV D cy B L K P J res) args s 0 0 (fun q => B ≤ q)) (F0 m 2 ls [])
set_option maxRecDepth 100000 in
set_option maxHeartbeats 4000000 in
theorem b_X8_boards_101 {p : Program} {l : Launch} {e : Env} {s : State} {m : MethodId} {args : Array Value} {below : List Frame} {meth : Method} {c : Code} {D : va_G} {cy : Nat → ClassId} {B : Nat} {L : List Nat} {K : KT} {P : PT} {J : IT} {res : IT} (C0 : FC D cy B p s m meth c "RejudgeHallModel" cX8_boards 5) (hr : meth.sig.returnType = none) (hWT : WT K P) {k2 : IT → Nat → Int → Option (IT)} (hk2 : G_X8_boards_2 p l e s m args below meth c D cy B L K P J res k2) {k31 : IT → Nat → Int → Int → Option (IT)} (hk31 : G_X8_boards_31 p l e s m args below meth c D cy B L K P J res k31) {k49 : IT → Nat → Int → Int → Int → Int → Option (IT)} (hk49 : G_X8_boards_49 p l e s m args below meth c D cy B L K P J res k49) : G_X8_boards_101 p l e s m args below meth c D cy B L K P J res (f_X8_boards_101 K P k2 k31 k49) := by
  intro I a0 x1 x2 x3 x4 t0 t1 t2 b3 H locs ls ka0 rx1 rx2 rx3 rx4 rt0 rt1 rt2 kb3 hF hl hf
  unfold f_X8_boards_101 at hf
  refine fl_iadd C0 dX8_boards_101 ?_
  obtain ⟨hc, hf⟩ := ck_f hf
  refine fl_iast (n := 8) C0 hF kb3 rt2 (rg_wr _) hc dX8_boards_102 (fun H locs hF15 => ?_)
  obtain ⟨I15, eI15, hf⟩ := bnd_f hf
  rw [eI15] at hF15
  refine fl_iinc (lv' := [(4, iv (wr (x4 + 1))), (0, .ref a0), (1, iv x1), (2, iv x2), (3, iv x3)]) C0 dX8_boards_103 hl (k := 4) rfl (by decide) rfl (fun ls hl => ?_)
  refine fl_goto (tgt := 49) C0 dX8_boards_106 (by decide) ?_
  exact hk49 I15 a0 x1 x2 x3 ((wr (x4 + 1))) _ _ _ ka0 rx1 rx2 rx3 ((rg_wr _)) hF15 (lv_sub hl [1, 2, 3, 4, 0] rfl) hf
set_option maxRecDepth 100000 in
set_option maxHeartbeats 4000000 in
theorem b_X8_boards_100 {p : Program} {l : Launch} {e : Env} {s : State} {m : MethodId} {args : Array Value} {below : List Frame} {meth : Method} {c : Code} {D : va_G} {cy : Nat → ClassId} {B : Nat} {L : List Nat} {K : KT} {P : PT} {J : IT} {res : IT} (C0 : FC D cy B p s m meth c "RejudgeHallModel" cX8_boards 5) (hr : meth.sig.returnType = none) (hWT : WT K P) {k2 : IT → Nat → Int → Option (IT)} (hk2 : G_X8_boards_2 p l e s m args below meth c D cy B L K P J res k2) {k31 : IT → Nat → Int → Int → Option (IT)} (hk31 : G_X8_boards_31 p l e s m args below meth c D cy B L K P J res k31) {k49 : IT → Nat → Int → Int → Int → Int → Option (IT)} (hk49 : G_X8_boards_49 p l e s m args below meth c D cy B L K P J res k49) : G_X8_boards_100 p l e s m args below meth c D cy B L K P J res (f_X8_boards_100 K P k2 k31 k49) := by
  intro I a0 x1 x2 x3 x4 t0 t1 b2 H locs ls ka0 rx1 rx2 rx3 rx4 rt0 rt1 kb2 hF hl hf
  unfold f_X8_boards_100 at hf
  refine fl_iconst C0 dX8_boards_100 ?_
  exact b_X8_boards_101 C0 hr hWT hk2 hk31 hk49 I a0 x1 x2 x3 x4 0 t0 t1 b2 _ _ _ ka0 rx1 rx2 rx3 rx4 ((rgk 0 rfl)) rt0 rt1 kb2 hF (lv_sub hl [0, 1, 2, 3, 4] rfl) hf
set_option maxRecDepth 100000 in
set_option maxHeartbeats 4000000 in
theorem b_X8_boards_175 {p : Program} {l : Launch} {e : Env} {s : State} {m : MethodId} {args : Array Value} {below : List Frame} {meth : Method} {c : Code} {D : va_G} {cy : Nat → ClassId} {B : Nat} {L : List Nat} {K : KT} {P : PT} {J : IT} {res : IT} (C0 : FC D cy B p s m meth c "RejudgeHallModel" cX8_boards 5) (hr : meth.sig.returnType = none) (hWT : WT K P) {k2 : IT → Nat → Int → Option (IT)} (hk2 : G_X8_boards_2 p l e s m args below meth c D cy B L K P J res k2) {k31 : IT → Nat → Int → Int → Option (IT)} (hk31 : G_X8_boards_31 p l e s m args below meth c D cy B L K P J res k31) : G_X8_boards_175 p l e s m args below meth c D cy B L K P J res (f_X8_boards_175 K P k2 k31) := by
  intro I a0 x1 x2 H locs ls ka0 rx1 rx2 hF hl hf
  unfold f_X8_boards_175 at hf
  refine fl_iinc (lv' := [(2, iv (wr (x2 + 1))), (0, .ref a0), (1, iv x1)]) C0 dX8_boards_175 hl (k := 2) rfl (by decide) rfl (fun ls hl => ?_)
  refine fl_goto (tgt := 31) C0 dX8_boards_178 (by decide) ?_
  exact hk31 I a0 x1 ((wr (x2 + 1))) _ _ _ ka0 rx1 ((rg_wr _)) hF (lv_sub hl [1, 2, 0] rfl) hf
set_option maxRecDepth 100000 in
set_option maxHeartbeats 4000000 in
theorem b_X8_boards_174 {p : Program} {l : Launch} {e : Env} {s : State} {m : MethodId} {args : Array Value} {below : List Frame} {meth : Method} {c : Code} {D : va_G} {cy : Nat → ClassId} {B : Nat} {L : List Nat} {K : KT} {P : PT} {J : IT} {res : IT} (C0 : FC D cy B p s m meth c "RejudgeHallModel" cX8_boards 5) (hr : meth.sig.returnType = none) (hWT : WT K P) {k2 : IT → Nat → Int → Option (IT)} (hk2 : G_X8_boards_2 p l e s m args below meth c D cy B L K P J res k2) {k31 : IT → Nat → Int → Int → Option (IT)} (hk31 : G_X8_boards_31 p l e s m args below meth c D cy B L K P J res k31) : G_X8_boards_174 p l e s m args below meth c D cy B L K P J res (f_X8_boards_174 K P k2 k31) := by
  intro I a0 x1 x2 t0 t1 b2 H locs ls ka0 rx1 rx2 rt0 rt1 kb2 hF hl hf
  unfold f_X8_boards_174 at hf
  obtain ⟨hc, hf⟩ := ck_f hf
  refine fl_iast (n := 8) C0 hF kb2 rt1 rt0 hc dX8_boards_174 (fun H locs hF16 => ?_)
  obtain ⟨I16, eI16, hf⟩ := bnd_f hf
  rw [eI16] at hF16
  exact b_X8_boards_175 C0 hr hWT hk2 hk31 I16 a0 x1 x2 _ _ _ ka0 rx1 rx2 hF16 (lv_sub hl [0, 1, 2] rfl) hf
set_option maxRecDepth 100000 in
set_option maxHeartbeats 4000000 in
theorem b_X8_boards_109 {p : Program} {l : Launch} {e : Env} {s : State} {m : MethodId} {args : Array Value} {below : List Frame} {meth : Method} {c : Code} {D : va_G} {cy : Nat → ClassId} {B : Nat} {L : List Nat} {K : KT} {P : PT} {J : IT} {res : IT} (C0 : FC D cy B p s m meth c "RejudgeHallModel" cX8_boards 5) (hr : meth.sig.returnType = none) (hWT : WT K P) {k2 : IT → Nat → Int → Option (IT)} (hk2 : G_X8_boards_2 p l e s m args below meth c D cy B L K P J res k2) {k31 : IT → Nat → Int → Int → Option (IT)} (hk31 : G_X8_boards_31 p l e s m args below meth c D cy B L K P J res k31) : G_X8_boards_109 p l e s m args below meth c D cy B L K P J res (f_X8_boards_109 K P k2 k31) := by
  intro I a0 x1 x2 x3 H locs ls ka0 rx1 rx2 rx3 hF hl hf
  unfold f_X8_boards_109 at hf
  refine lv_iload_n C0.1 C0.2.1 dX8_boards_109 rfl (lv_at hl 3 rfl) ?_
  refine fl_iconst C0 dX8_boards_110 ?_
  refine fl_icmp_eq (tgt := 175) C0 rx3 (rgk (-1) rfl) dX8_boards_111 (by decide) (fun c11 => ?_) (fun c11 => ?_)
  · replace hf := (if_pos c11).symm.trans hf
    exact b_X8_boards_175 C0 hr hWT hk2 hk31 I a0 x1 x2 _ _ _ ka0 rx1 rx2 hF (lv_sub hl [0, 1, 2] rfl) hf
  · replace hf := (if_neg c11).symm.trans hf
    refine lv_aload_n C0.1 C0.2.1 dX8_boards_114 rfl (lv_at hl 0 rfl) ?_
    refine fl_getr (k := 34) (t := 132) ck_9 C0 hF ka0 rfl (wt_at (k := 34) (t := 132) hWT ka0 rfl) rfl ⟨rfl, rfl⟩ aw_908 dX8_boards_115 ?_
    refine lv_iload_n C0.1 C0.2.1 dX8_boards_118 rfl (lv_at hl 1 rfl) ?_
    refine lv_dup2_11 C0.1 C0.2.1 dX8_boards_119 rfl rfl ?_
    obtain ⟨hc, hf⟩ := ck_f hf
    refine fl_iald (n := 8) C0 hF (wt_at (k := 34) (t := 132) hWT ka0 rfl) rx1 hc dX8_boards_120 ?_
    refine fl_iconst C0 dX8_boards_121 ?_
    refine fl_iadd C0 dX8_boards_122 ?_
    obtain ⟨hc, hf⟩ := ck_f hf
    refine fl_iast (n := 8) C0 hF (wt_at (k := 34) (t := 132) hWT ka0 rfl) rx1 (rg_wr _) hc dX8_boards_123 (fun H locs hF12 => ?_)
    obtain ⟨I12, eI12, hf⟩ := bnd_f hf
    rw [eI12] at hF12
    refine lv_aload_n C0.1 C0.2.1 dX8_boards_124 rfl (lv_at hl 0 rfl) ?_
    refine fl_getr (k := 35) (t := 132) ck_9 C0 hF12 ka0 rfl (wt_at (k := 35) (t := 132) hWT ka0 rfl) rfl ⟨rfl, rfl⟩ aw_909 dX8_boards_125 ?_
    refine lv_iload_n C0.1 C0.2.1 dX8_boards_128 rfl (lv_at hl 1 rfl) ?_
    refine lv_dup2_11 C0.1 C0.2.1 dX8_boards_129 rfl rfl ?_
    obtain ⟨hc, hf⟩ := ck_f hf
    refine fl_iald (n := 8) C0 hF12 (wt_at (k := 35) (t := 132) hWT ka0 rfl) rx1 hc dX8_boards_130 ?_
    refine lv_aload_n C0.1 C0.2.1 dX8_boards_131 rfl (lv_at hl 0 rfl) ?_
    refine fl_getr (k := 16) (t := 340) ck_9 C0 hF12 ka0 rfl (wt_at (k := 16) (t := 340) hWT ka0 rfl) rfl ⟨rfl, rfl⟩ aw_890 dX8_boards_132 ?_
    refine lv_iload_n C0.1 C0.2.1 dX8_boards_135 rfl (lv_at hl 3 rfl) ?_
    obtain ⟨hc, hf⟩ := ck_f hf
    refine fl_iald (n := 60) C0 hF12 (wt_at (k := 16) (t := 340) hWT ka0 rfl) rx3 hc dX8_boards_136 ?_
    refine fl_iadd C0 dX8_boards_137 ?_
    obtain ⟨hc, hf⟩ := ck_f hf
    refine fl_iast (n := 8) C0 hF12 (wt_at (k := 35) (t := 132) hWT ka0 rfl) rx1 (rg_wr _) hc dX8_boards_138 (fun H locs hF13 => ?_)
    obtain ⟨I13, eI13, hf⟩ := bnd_f hf
    rw [eI13] at hF13
    refine lv_aload_n C0.1 C0.2.1 dX8_boards_139 rfl (lv_at hl 0 rfl) ?_
    refine fl_getr (k := 36) (t := 132) ck_9 C0 hF13 ka0 rfl (wt_at (k := 36) (t := 132) hWT ka0 rfl) rfl ⟨rfl, rfl⟩ aw_910 dX8_boards_140 ?_
    refine lv_iload_n C0.1 C0.2.1 dX8_boards_143 rfl (lv_at hl 1 rfl) ?_
    refine lv_aload_n C0.1 C0.2.1 dX8_boards_144 rfl (lv_at hl 0 rfl) ?_
    refine fl_getr (k := 16) (t := 340) ck_9 C0 hF13 ka0 rfl (wt_at (k := 16) (t := 340) hWT ka0 rfl) rfl ⟨rfl, rfl⟩ aw_890 dX8_boards_145 ?_
    refine lv_iload_n C0.1 C0.2.1 dX8_boards_148 rfl (lv_at hl 3 rfl) ?_
    obtain ⟨hc, hf⟩ := ck_f hf
    refine fl_iald (n := 60) C0 hF13 (wt_at (k := 16) (t := 340) hWT ka0 rfl) rx3 hc dX8_boards_149 ?_
    refine lv_aload_n C0.1 C0.2.1 dX8_boards_150 rfl (lv_at hl 0 rfl) ?_
    refine fl_getr (k := 36) (t := 132) ck_9 C0 hF13 ka0 rfl (wt_at (k := 36) (t := 132) hWT ka0 rfl) rfl ⟨rfl, rfl⟩ aw_910 dX8_boards_151 ?_
    refine lv_iload_n C0.1 C0.2.1 dX8_boards_154 rfl (lv_at hl 1 rfl) ?_
    obtain ⟨hc, hf⟩ := ck_f hf
    refine fl_iald (n := 8) C0 hF13 (wt_at (k := 36) (t := 132) hWT ka0 rfl) rx1 hc dX8_boards_155 ?_
    refine fl_icmp_le (tgt := 168) C0 (hF13.rI _ _) (hF13.rI _ _) dX8_boards_156 (by decide) (fun c14 => ?_) (fun c14 => ?_)
    · replace hf := (if_pos c14).symm.trans hf
      refine lv_aload_n C0.1 C0.2.1 dX8_boards_168 rfl (lv_at hl 0 rfl) ?_
      refine fl_getr (k := 36) (t := 132) ck_9 C0 hF13 ka0 rfl (wt_at (k := 36) (t := 132) hWT ka0 rfl) rfl ⟨rfl, rfl⟩ aw_910 dX8_boards_169 ?_
      refine lv_iload_n C0.1 C0.2.1 dX8_boards_172 rfl (lv_at hl 1 rfl) ?_
      obtain ⟨hc, hf⟩ := ck_f hf
      refine fl_iald (n := 8) C0 hF13 (wt_at (k := 36) (t := 132) hWT ka0 rfl) rx1 hc dX8_boards_173 ?_
      exact b_X8_boards_174 C0 hr hWT hk2 hk31 I13 a0 x1 x2 ((I13 ((P a0 36)) (x1 : Int).toNat)) x1 ((P a0 36)) _ _ _ ka0 rx1 rx2 ((hF13.rI _ _)) rx1 ((wt_at (k := 36) (t := 132) hWT ka0 rfl)) hF13 (lv_sub hl [0, 1, 2] rfl) hf
    · replace hf := (if_neg c14).symm.trans hf
      refine lv_aload_n C0.1 C0.2.1 dX8_boards_159 rfl (lv_at hl 0 rfl) ?_
      refine fl_getr (k := 16) (t := 340) ck_9 C0 hF13 ka0 rfl (wt_at (k := 16) (t := 340) hWT ka0 rfl) rfl ⟨rfl, rfl⟩ aw_890 dX8_boards_160 ?_
      refine lv_iload_n C0.1 C0.2.1 dX8_boards_163 rfl (lv_at hl 3 rfl) ?_
      obtain ⟨hc, hf⟩ := ck_f hf
      refine fl_iald (n := 60) C0 hF13 (wt_at (k := 16) (t := 340) hWT ka0 rfl) rx3 hc dX8_boards_164 ?_
      refine fl_goto (tgt := 174) C0 dX8_boards_165 (by decide) ?_
      exact b_X8_boards_174 C0 hr hWT hk2 hk31 I13 a0 x1 x2 ((I13 ((P a0 16)) (x3 : Int).toNat)) x1 ((P a0 36)) _ _ _ ka0 rx1 rx2 ((hF13.rI _ _)) rx1 ((wt_at (k := 36) (t := 132) hWT ka0 rfl)) hF13 (lv_sub hl [0, 1, 2] rfl) hf
set_option maxRecDepth 100000 in
set_option maxHeartbeats 4000000 in
theorem b_X8_boards_49 {p : Program} {l : Launch} {e : Env} {s : State} {m : MethodId} {args : Array Value} {below : List Frame} {meth : Method} {c : Code} {D : va_G} {cy : Nat → ClassId} {B : Nat} {L : List Nat} {K : KT} {P : PT} {J : IT} {res : IT} (C0 : FC D cy B p s m meth c "RejudgeHallModel" cX8_boards 5) (hr : meth.sig.returnType = none) (hWT : WT K P) {k2 : IT → Nat → Int → Option (IT)} (hk2 : G_X8_boards_2 p l e s m args below meth c D cy B L K P J res k2) {k31 : IT → Nat → Int → Int → Option (IT)} (hk31 : G_X8_boards_31 p l e s m args below meth c D cy B L K P J res k31) : ∀ n : Nat, G_X8_boards_49 p l e s m args below meth c D cy B L K P J res (f_X8_boards_49 K P k2 k31 n)
  | 0 => by
    intro I a0 x1 x2 x3 x4 H locs ls ka0 rx1 rx2 rx3 rx4 hF hl hf
    cases hf
  | n + 1 => by
    have ih : G_X8_boards_49 p l e s m args below meth c D cy B L K P J res (f_X8_boards_49 K P k2 k31 n)  := b_X8_boards_49 C0 hr hWT hk2 hk31 n
    intro I a0 x1 x2 x3 x4 H locs ls ka0 rx1 rx2 rx3 rx4 hF hl hf
    rw [f_X8_boards_49] at hf
    refine lv_iload C0.1 C0.2.1 dX8_boards_49 (lv_at hl 4 rfl) ?_
    refine lv_iload_n C0.1 C0.2.1 dX8_boards_51 rfl (lv_at hl 3 rfl) ?_
    refine fl_icmp_ge (tgt := 109) C0 rx4 rx3 dX8_boards_52 (by decide) (fun c7 => ?_) (fun c7 => ?_)
    · replace hf := (if_pos c7).symm.trans hf
      exact b_X8_boards_109 C0 hr hWT hk2 hk31 I a0 x1 x2 x3 _ _ _ ka0 rx1 rx2 rx3 hF (lv_sub hl [0, 1, 2, 3] rfl) hf
    · replace hf := (if_neg c7).symm.trans hf
      refine lv_aload_n C0.1 C0.2.1 dX8_boards_55 rfl (lv_at hl 0 rfl) ?_
      refine fl_getr (k := 35) (t := 132) ck_9 C0 hF ka0 rfl (wt_at (k := 35) (t := 132) hWT ka0 rfl) rfl ⟨rfl, rfl⟩ aw_909 dX8_boards_56 ?_
      refine lv_iload_n C0.1 C0.2.1 dX8_boards_59 rfl (lv_at hl 1 rfl) ?_
      refine lv_dup2_11 C0.1 C0.2.1 dX8_boards_60 rfl rfl ?_
      obtain ⟨hc, hf⟩ := ck_f hf
      refine fl_iald (n := 8) C0 hF (wt_at (k := 35) (t := 132) hWT ka0 rfl) rx1 hc dX8_boards_61 ?_
      refine lv_aload_n C0.1 C0.2.1 dX8_boards_62 rfl (lv_at hl 0 rfl) ?_
      refine fl_getr (k := 14) (t := 340) ck_9 C0 hF ka0 rfl (wt_at (k := 14) (t := 340) hWT ka0 rfl) rfl ⟨rfl, rfl⟩ aw_888 dX8_boards_63 ?_
      refine lv_iload C0.1 C0.2.1 dX8_boards_66 (lv_at hl 4 rfl) ?_
      obtain ⟨hc, hf⟩ := ck_f hf
      refine fl_iald (n := 60) C0 hF (wt_at (k := 14) (t := 340) hWT ka0 rfl) rx4 hc dX8_boards_68 ?_
      refine lv_iload_n C0.1 C0.2.1 dX8_boards_69 rfl (lv_at hl 1 rfl) ?_
      refine fl_icmp_ne (tgt := 100) C0 (hF.rI _ _) rx1 dX8_boards_70 (by decide) (fun c8 => ?_) (fun c8 => ?_)
      · replace hf := (if_neg c8).symm.trans hf
        exact b_X8_boards_100 C0 hr hWT hk2 hk31 ih I a0 x1 x2 x3 x4 ((I ((P a0 35)) (x1 : Int).toNat)) x1 ((P a0 35)) _ _ _ ka0 rx1 rx2 rx3 rx4 ((hF.rI _ _)) rx1 ((wt_at (k := 35) (t := 132) hWT ka0 rfl)) hF (lv_sub hl [0, 1, 2, 3, 4] rfl) hf
      · replace hf := (if_pos c8).symm.trans hf
        refine lv_aload_n C0.1 C0.2.1 dX8_boards_73 rfl (lv_at hl 0 rfl) ?_
        refine fl_getr (k := 15) (t := 340) ck_9 C0 hF ka0 rfl (wt_at (k := 15) (t := 340) hWT ka0 rfl) rfl ⟨rfl, rfl⟩ aw_889 dX8_boards_74 ?_
        refine lv_iload C0.1 C0.2.1 dX8_boards_77 (lv_at hl 4 rfl) ?_
        obtain ⟨hc, hf⟩ := ck_f hf
        refine fl_iald (n := 60) C0 hF (wt_at (k := 15) (t := 340) hWT ka0 rfl) rx4 hc dX8_boards_79 ?_
        refine lv_iload_n C0.1 C0.2.1 dX8_boards_80 rfl (lv_at hl 2 rfl) ?_
        refine fl_icmp_ne (tgt := 100) C0 (hF.rI _ _) rx2 dX8_boards_81 (by decide) (fun c9 => ?_) (fun c9 => ?_)
        · replace hf := (if_neg c9).symm.trans hf
          exact b_X8_boards_100 C0 hr hWT hk2 hk31 ih I a0 x1 x2 x3 x4 ((I ((P a0 35)) (x1 : Int).toNat)) x1 ((P a0 35)) _ _ _ ka0 rx1 rx2 rx3 rx4 ((hF.rI _ _)) rx1 ((wt_at (k := 35) (t := 132) hWT ka0 rfl)) hF (lv_sub hl [0, 1, 2, 3, 4] rfl) hf
        · replace hf := (if_pos c9).symm.trans hf
          refine lv_aload_n C0.1 C0.2.1 dX8_boards_84 rfl (lv_at hl 0 rfl) ?_
          refine fl_getr (k := 33) (t := 340) ck_9 C0 hF ka0 rfl (wt_at (k := 33) (t := 340) hWT ka0 rfl) rfl ⟨rfl, rfl⟩ aw_907 dX8_boards_85 ?_
          refine lv_iload C0.1 C0.2.1 dX8_boards_88 (lv_at hl 4 rfl) ?_
          obtain ⟨hc, hf⟩ := ck_f hf
          refine fl_iald (n := 60) C0 hF (wt_at (k := 33) (t := 340) hWT ka0 rfl) rx4 hc dX8_boards_90 ?_
          refine fl_iconst C0 dX8_boards_91 ?_
          refine fl_icmp_eq (tgt := 100) C0 (hF.rI _ _) (rgk (-1) rfl) dX8_boards_92 (by decide) (fun c10 => ?_) (fun c10 => ?_)
          · replace hf := (if_pos c10).symm.trans hf
            exact b_X8_boards_100 C0 hr hWT hk2 hk31 ih I a0 x1 x2 x3 x4 ((I ((P a0 35)) (x1 : Int).toNat)) x1 ((P a0 35)) _ _ _ ka0 rx1 rx2 rx3 rx4 ((hF.rI _ _)) rx1 ((wt_at (k := 35) (t := 132) hWT ka0 rfl)) hF (lv_sub hl [0, 1, 2, 3, 4] rfl) hf
          · replace hf := (if_neg c10).symm.trans hf
            refine fl_bipush C0 dX8_boards_95 (by decide) ?_
            refine fl_goto (tgt := 101) C0 dX8_boards_97 (by decide) ?_
            exact b_X8_boards_101 C0 hr hWT hk2 hk31 ih I a0 x1 x2 x3 x4 20 ((I ((P a0 35)) (x1 : Int).toNat)) x1 ((P a0 35)) _ _ _ ka0 rx1 rx2 rx3 rx4 ((rgk 20 rfl)) ((hF.rI _ _)) rx1 ((wt_at (k := 35) (t := 132) hWT ka0 rfl)) hF (lv_sub hl [0, 1, 2, 3, 4] rfl) hf
set_option maxRecDepth 100000 in
set_option maxHeartbeats 4000000 in
theorem b_X8_boards_181 {p : Program} {l : Launch} {e : Env} {s : State} {m : MethodId} {args : Array Value} {below : List Frame} {meth : Method} {c : Code} {D : va_G} {cy : Nat → ClassId} {B : Nat} {L : List Nat} {K : KT} {P : PT} {J : IT} {res : IT} (C0 : FC D cy B p s m meth c "RejudgeHallModel" cX8_boards 5) (hr : meth.sig.returnType = none) (hWT : WT K P) {k2 : IT → Nat → Int → Option (IT)} (hk2 : G_X8_boards_2 p l e s m args below meth c D cy B L K P J res k2) : G_X8_boards_181 p l e s m args below meth c D cy B L K P J res (f_X8_boards_181 K P k2) := by
  intro I a0 x1 H locs ls ka0 rx1 hF hl hf
  unfold f_X8_boards_181 at hf
  refine fl_iinc (lv' := [(1, iv (wr (x1 + 1))), (0, .ref a0)]) C0 dX8_boards_181 hl (k := 1) rfl (by decide) rfl (fun ls hl => ?_)
  refine fl_goto (tgt := 2) C0 dX8_boards_184 (by decide) ?_
  exact hk2 I a0 ((wr (x1 + 1))) _ _ _ ka0 ((rg_wr _)) hF (lv_sub hl [1, 0] rfl) hf
set_option maxRecDepth 100000 in
set_option maxHeartbeats 4000000 in
theorem b_X8_boards_31 {p : Program} {l : Launch} {e : Env} {s : State} {m : MethodId} {args : Array Value} {below : List Frame} {meth : Method} {c : Code} {D : va_G} {cy : Nat → ClassId} {B : Nat} {L : List Nat} {K : KT} {P : PT} {J : IT} {res : IT} (C0 : FC D cy B p s m meth c "RejudgeHallModel" cX8_boards 5) (hr : meth.sig.returnType = none) (hWT : WT K P) {k2 : IT → Nat → Int → Option (IT)} (hk2 : G_X8_boards_2 p l e s m args below meth c D cy B L K P J res k2) : ∀ n : Nat, G_X8_boards_31 p l e s m args below meth c D cy B L K P J res (f_X8_boards_31 K P k2 n)
  | 0 => by
    intro I a0 x1 x2 H locs ls ka0 rx1 rx2 hF hl hf
    cases hf
  | n + 1 => by
    have ih : G_X8_boards_31 p l e s m args below meth c D cy B L K P J res (f_X8_boards_31 K P k2 n)  := b_X8_boards_31 C0 hr hWT hk2 n
    intro I a0 x1 x2 H locs ls ka0 rx1 rx2 hF hl hf
    rw [f_X8_boards_31] at hf
    refine lv_iload_n C0.1 C0.2.1 dX8_boards_31 rfl (lv_at hl 2 rfl) ?_
    refine lv_aload_n C0.1 C0.2.1 dX8_boards_32 rfl (lv_at hl 0 rfl) ?_
    refine fl_geti (k := 6) ck_9 C0 hF ka0 rfl ⟨rfl, rfl⟩ aw_880 dX8_boards_33 ?_
    refine fl_icmp_ge (tgt := 181) C0 rx2 (hF.rI _ _) dX8_boards_36 (by decide) (fun c5 => ?_) (fun c5 => ?_)
    · replace hf := (if_pos c5).symm.trans hf
      exact b_X8_boards_181 C0 hr hWT hk2 I a0 x1 _ _ _ ka0 rx1 hF (lv_sub hl [0, 1] rfl) hf
    · replace hf := (if_neg c5).symm.trans hf
      refine lv_aload_n C0.1 C0.2.1 dX8_boards_39 rfl (lv_at hl 0 rfl) ?_
      refine lv_iload_n C0.1 C0.2.1 dX8_boards_40 rfl (lv_at hl 1 rfl) ?_
      refine lv_iload_n C0.1 C0.2.1 dX8_boards_41 rfl (lv_at hl 2 rfl) ?_
      obtain ⟨r6, hq6, hf⟩ := bp_f hf
      refine fl_ri hF (fl_runV (As := [iv x1, iv x2]) (rest := []) C0 hF hl.1 ck_9 ka0 rfl (c_X8_counts l D cy B L K P J hWT I a0 x1 x2 ka0 rx1 rx2 hq6) aw_1147 aw_1149 aw_60 aw_73 aw_1150 rfl rfl pm_X8_counts rfl rfl ⟨Nat.le_of_ble_eq_true rfl, Nat.le_of_ble_eq_true rfl⟩ rfl (Nat.le_of_ble_eq_true rfl) dX8_boards_42 ⟨Nat.le_of_ble_eq_true rfl, Nat.le_of_ble_eq_true rfl⟩) (fun H locs hF6 rr6 => ?_)
      refine lv_istore_n (lv' := [(3, iv r6), (0, .ref a0), (1, iv x1), (2, iv x2)]) C0.1 C0.2.1 dX8_boards_45 rfl hl (by decide) rfl (fun ls hl => ?_)
      refine fl_iconst C0 dX8_boards_46 ?_
      refine lv_istore (lv' := [(4, iv 0), (3, iv r6), (0, .ref a0), (1, iv x1), (2, iv x2)]) C0.1 C0.2.1 dX8_boards_47 hl (by decide) rfl (fun ls hl => ?_)
      exact b_X8_boards_49 C0 hr hWT hk2 ih FU I a0 x1 x2 r6 0 _ _ _ ka0 rx1 rx2 rr6 ((rgk 0 rfl)) hF6 (lv_sub hl [2, 3, 4, 1, 0] rfl) hf
set_option maxRecDepth 100000 in
set_option maxHeartbeats 4000000 in
theorem b_X8_boards_2 {p : Program} {l : Launch} {e : Env} {s : State} {m : MethodId} {args : Array Value} {below : List Frame} {meth : Method} {c : Code} {D : va_G} {cy : Nat → ClassId} {B : Nat} {L : List Nat} {K : KT} {P : PT} {J : IT} {res : IT} (C0 : FC D cy B p s m meth c "RejudgeHallModel" cX8_boards 5) (hr : meth.sig.returnType = none) (hWT : WT K P) : ∀ n : Nat, G_X8_boards_2 p l e s m args below meth c D cy B L K P J res (f_X8_boards_2 K P  n)
  | 0 => by
    intro I a0 x1 H locs ls ka0 rx1 hF hl hf
    cases hf
  | n + 1 => by
    have ih : G_X8_boards_2 p l e s m args below meth c D cy B L K P J res (f_X8_boards_2 K P  n)  := b_X8_boards_2 C0 hr hWT  n
    intro I a0 x1 H locs ls ka0 rx1 hF hl hf
    rw [f_X8_boards_2] at hf
    refine lv_iload_n C0.1 C0.2.1 dX8_boards_2 rfl (lv_at hl 1 rfl) ?_
    refine fl_bipush C0 dX8_boards_3 (by decide) ?_
    refine fl_icmp_ge (tgt := 187) C0 rx1 (rgk 8 rfl) dX8_boards_5 (by decide) (fun c1 => ?_) (fun c1 => ?_)
    · replace hf := (if_pos c1).symm.trans hf
      cases hf
      exact fl_vret C0 hF hr rfl dX8_boards_187
    · replace hf := (if_neg c1).symm.trans hf
      refine lv_aload_n C0.1 C0.2.1 dX8_boards_8 rfl (lv_at hl 0 rfl) ?_
      refine fl_getr (k := 34) (t := 132) ck_9 C0 hF ka0 rfl (wt_at (k := 34) (t := 132) hWT ka0 rfl) rfl ⟨rfl, rfl⟩ aw_908 dX8_boards_9 ?_
      refine lv_iload_n C0.1 C0.2.1 dX8_boards_12 rfl (lv_at hl 1 rfl) ?_
      refine fl_iconst C0 dX8_boards_13 ?_
      obtain ⟨hc, hf⟩ := ck_f hf
      refine fl_iast (n := 8) C0 hF (wt_at (k := 34) (t := 132) hWT ka0 rfl) rx1 (rgk 0 rfl) hc dX8_boards_14 (fun H locs hF2 => ?_)
      obtain ⟨I2, eI2, hf⟩ := bnd_f hf
      rw [eI2] at hF2
      refine lv_aload_n C0.1 C0.2.1 dX8_boards_15 rfl (lv_at hl 0 rfl) ?_
      refine fl_getr (k := 35) (t := 132) ck_9 C0 hF2 ka0 rfl (wt_at (k := 35) (t := 132) hWT ka0 rfl) rfl ⟨rfl, rfl⟩ aw_909 dX8_boards_16 ?_
      refine lv_iload_n C0.1 C0.2.1 dX8_boards_19 rfl (lv_at hl 1 rfl) ?_
      refine fl_iconst C0 dX8_boards_20 ?_
      obtain ⟨hc, hf⟩ := ck_f hf
      refine fl_iast (n := 8) C0 hF2 (wt_at (k := 35) (t := 132) hWT ka0 rfl) rx1 (rgk 0 rfl) hc dX8_boards_21 (fun H locs hF3 => ?_)
      obtain ⟨I3, eI3, hf⟩ := bnd_f hf
      rw [eI3] at hF3
      refine lv_aload_n C0.1 C0.2.1 dX8_boards_22 rfl (lv_at hl 0 rfl) ?_
      refine fl_getr (k := 36) (t := 132) ck_9 C0 hF3 ka0 rfl (wt_at (k := 36) (t := 132) hWT ka0 rfl) rfl ⟨rfl, rfl⟩ aw_910 dX8_boards_23 ?_
      refine lv_iload_n C0.1 C0.2.1 dX8_boards_26 rfl (lv_at hl 1 rfl) ?_
      refine fl_iconst C0 dX8_boards_27 ?_
      obtain ⟨hc, hf⟩ := ck_f hf
      refine fl_iast (n := 8) C0 hF3 (wt_at (k := 36) (t := 132) hWT ka0 rfl) rx1 (rgk 0 rfl) hc dX8_boards_28 (fun H locs hF4 => ?_)
      obtain ⟨I4, eI4, hf⟩ := bnd_f hf
      rw [eI4] at hF4
      refine fl_iconst C0 dX8_boards_29 ?_
      refine lv_istore_n (lv' := [(2, iv 0), (0, .ref a0), (1, iv x1)]) C0.1 C0.2.1 dX8_boards_30 rfl hl (by decide) rfl (fun ls hl => ?_)
      exact b_X8_boards_31 C0 hr hWT ih FU I4 a0 x1 0 _ _ _ ka0 rx1 ((rgk 0 rfl)) hF4 (lv_sub hl [1, 2, 0] rfl) hf
theorem pm_X8_boards : plainM yX8_boards 0 := by decide +kernel
set_option maxRecDepth 100000 in
set_option maxHeartbeats 4000000 in
theorem c_X8_boards (l : Launch) (D : va_G) (cy : Nat → ClassId) (B : Nat) (L : List Nat) (K : KT) (P : PT) (J : IT) (hWT : WT K P) (I : IT) (a0 : Nat) (ka0 : K a0 = 9) {I' : IT} (hf : f_X8_boards K P I a0 = some I') : Met l yX8_boards [.code yX8_boards cX8_boards 5 none] rm_X8_boards (va_Pc [.ref a0] (FW D cy B L K P J I)) (QV D cy B L K P J I') 0 0 (fun q => B ≤ q) := by
  refine fl_body (own := "RejudgeHallModel") [.ref a0] (by decide) rfl (Nat.le_of_ble_eq_true rfl) ?_
  intro p e s m args below meth c ls C0 hr hF hl
  have hl : lv_has ls 5 [(0, .ref a0)] := hl
  unfold f_X8_boards at hf
  refine fl_iconst C0 dX8_boards_0 ?_
  refine lv_istore_n (lv' := [(1, iv 0), (0, .ref a0)]) C0.1 C0.2.1 dX8_boards_1 rfl hl (by decide) rfl (fun ls hl => ?_)
  exact b_X8_boards_2 C0 hr hWT  FU I a0 0 _ _ _ ka0 ((rgk 0 rfl)) hF (lv_sub hl [1, 0] rfl) hf
-- RejudgeHallModel.tells(Z)V
abbrev rm_X8_tells : Room := { frames := 2, cells := 0, slots := 0, locals := 47 }
def f_X8_tells_71 (K : KT) (P : PT) (k2 : IT → Nat → Int → Int → Option (IT)) (I : IT) (a0 : Nat) (x1 : Int) (x2 : Int) (t0 : Int) (t1 : Int) (b2 : Nat) : Option (IT) := ck (0 ≤ t1 ∧ t1 < 60) <| bnd (up I b2 (t1 : Int).toNat t0) fun I8 => k2 I8 a0 x1 ((wr (x2 + 1)))
def f_X8_tells_51 (K : KT) (P : PT) (k2 : IT → Nat → Int → Int → Option (IT)) (I : IT) (a0 : Nat) (x1 : Int) (x2 : Int) (t0 : Int) : Option (IT) := if t0 = 0 then (ck (0 ≤ x2 ∧ x2 < 60) <| f_X8_tells_71 K P k2 I a0 x1 x2 ((I ((P a0 17)) (x2 : Int).toNat)) x2 ((P a0 33))) else (f_X8_tells_71 K P k2 I a0 x1 x2 ((-1)) x2 ((P a0 33)))
def f_X8_tells_50 (K : KT) (P : PT) (k2 : IT → Nat → Int → Int → Option (IT)) (I : IT) (a0 : Nat) (x1 : Int) (x2 : Int) : Option (IT) := f_X8_tells_51 K P k2 I a0 x1 x2 0
def f_X8_tells_2 (K : KT) (P : PT) : Nat → IT → Nat → Int → Int → Option (IT)
  | 0, _, _, _, _ => none
  | n + 1, I, a0, x1, x2 => if (I a0 13) ≤ x2 then (bp (f_X8_boards K P I a0) fun I2 => some I2) else (if x1 = 0 then (f_X8_tells_50 K P ((f_X8_tells_2 K P  n)) I a0 x1 x2) else (bp (f_X8_isLate K P I a0 x2) fun r4 => if r4 = 0 then (f_X8_tells_50 K P ((f_X8_tells_2 K P  n)) I a0 x1 x2) else (ck (0 ≤ x2 ∧ x2 < 60) <| ck (0 ≤ x2 ∧ x2 < 60) <| ck (0 ≤ (wr ((wr (6 * (I ((P a0 14)) (x2 : Int).toNat))) + (I ((P a0 15)) (x2 : Int).toNat))) ∧ (wr ((wr (6 * (I ((P a0 14)) (x2 : Int).toNat))) + (I ((P a0 15)) (x2 : Int).toNat))) < 48) <| if (I ((P a0 24)) ((wr ((wr (6 * (I ((P a0 14)) (x2 : Int).toNat))) + (I ((P a0 15)) (x2 : Int).toNat))) : Int).toNat) = 0 then (f_X8_tells_51 K P ((f_X8_tells_2 K P  n)) I a0 x1 x2 1) else (f_X8_tells_50 K P ((f_X8_tells_2 K P  n)) I a0 x1 x2))))
def f_X8_tells (K : KT) (P : PT) (I : IT) (a0 : Nat) (x1 : Int) : Option (IT) := f_X8_tells_2 K P  FU I a0 x1 0
abbrev G_X8_tells_71 (p : Program) (l : Launch) (e : Env) (s : State) (m : MethodId) (args : Array Value) (below : List Frame) (meth : Method) (c : Code) (D : va_G) (cy : Nat → ClassId) (B : Nat) (L : List Nat) (K : KT) (P : PT) (J : IT) (res : IT) (f : IT → Nat → Int → Int → Int → Int → Nat → Option (IT)) : Prop := ∀ (I : IT) (a0 : Nat) (x1 : Int) (x2 : Int) (t0 : Int) (t1 : Int) (b2 : Nat) (H : Heap) (locs : List Loc) (ls : Array Slot), K a0 = 9 → rg x1 → rg x2 → rg t0 → rg t1 → K b2 = 340 → FS D cy B L K P J s.heap I H locs → lv_has ls 4 [(0, .ref a0), (1, iv x1), (2, iv x2)] → f I a0 x1 x2 t0 t1 b2 = some res → W p l e rm_X8_tells s m args below meth c H locs 0 0 (MQ below (QV D cy B L K P J res) args s 0 0 (fun q => B ≤ q)) (F0 m 71 ls [iv t0, iv t1, .ref b2])
abbrev G_X8_tells_51 (p : Program) (l : Launch) (e : Env) (s : State) (m : MethodId) (args : Array Value) (below : List Frame) (meth : Method) (c : Code) (D : va_G) (cy : Nat → ClassId) (B : Nat) (L : List Nat) (K : KT) (P : PT) (J : IT) (res : IT) (f : IT → Nat → Int → Int → Int → Option (IT)) : Prop := ∀ (I : IT) (a0 : Nat) (x1 : Int) (x2 : Int) (t0 : Int) (H : Heap) (locs : List Loc) (ls : Array Slot), K a0 = 9 → rg x1 → rg x2 → rg t0 → FS D cy B L K P J s.heap I H locs → lv_has ls 4 [(0, .ref a0), (1, iv x1), (2, iv x2)] → f I a0 x1 x2 t0 = some res → W p l e rm_X8_tells s m args below meth c H locs 0 0 (MQ below (QV D cy B L K P J res) args s 0 0 (fun q => B ≤ q)) (F0 m 51 ls [iv t0])
abbrev G_X8_tells_50 (p : Program) (l : Launch) (e : Env) (s : State) (m : MethodId) (args : Array Value) (below : List Frame) (meth : Method) (c : Code) (D : va_G) (cy : Nat → ClassId) (B : Nat) (L : List Nat) (K : KT) (P : PT) (J : IT) (res : IT) (f : IT → Nat → Int → Int → Option (IT)) : Prop := ∀ (I : IT) (a0 : Nat) (x1 : Int) (x2 : Int) (H : Heap) (locs : List Loc) (ls : Array Slot), K a0 = 9 → rg x1 → rg x2 → FS D cy B L K P J s.heap I H locs → lv_has ls 4 [(0, .ref a0), (1, iv x1), (2, iv x2)] → f I a0 x1 x2 = some res → W p l e rm_X8_tells s m args below meth c H locs 0 0 (MQ below (QV D cy B L K P J res) args s 0 0 (fun q => B ≤ q)) (F0 m 50 ls [])
abbrev G_X8_tells_2 (p : Program) (l : Launch) (e : Env) (s : State) (m : MethodId) (args : Array Value) (below : List Frame) (meth : Method) (c : Code) (D : va_G) (cy : Nat → ClassId) (B : Nat) (L : List Nat) (K : KT) (P : PT) (J : IT) (res : IT) (f : IT → Nat → Int → Int → Option (IT)) : Prop := ∀ (I : IT) (a0 : Nat) (x1 : Int) (x2 : Int) (H : Heap) (locs : List Loc) (ls : Array Slot), K a0 = 9 → rg x1 → rg x2 → FS D cy B L K P J s.heap I H locs → lv_has ls 4 [(0, .ref a0), (1, iv x1), (2, iv x2)] → f I a0 x1 x2 = some res → W p l e rm_X8_tells s m args below meth c H locs 0 0 (MQ below (QV D cy B L K P J res) args s 0 0 (fun q => B ≤ q)) (F0 m 2 ls [])
set_option maxRecDepth 100000 in
set_option maxHeartbeats 4000000 in
theorem b_X8_tells_71 {p : Program} {l : Launch} {e : Env} {s : State} {m : MethodId} {args : Array Value} {below : List Frame} {meth : Method} {c : Code} {D : va_G} {cy : Nat → ClassId} {B : Nat} {L : List Nat} {K : KT} {P : PT} {J : IT} {res : IT} (C0 : FC D cy B p s m meth c "RejudgeHallModel" cX8_tells 4) (hr : meth.sig.returnType = none) (hWT : WT K P) {k2 : IT → Nat → Int → Int → Option (IT)} (hk2 : G_X8_tells_2 p l e s m args below meth c D cy B L K P J res k2) : G_X8_tells_71 p l e s m args below meth c D cy B L K P J res (f_X8_tells_71 K P k2) := by
  intro I a0 x1 x2 t0 t1 b2 H locs ls ka0 rx1 rx2 rt0 rt1 kb2 hF hl hf
  unfold f_X8_tells_71 at hf
  obtain ⟨hc, hf⟩ := ck_f hf
  refine fl_iast (n := 60) C0 hF kb2 rt1 rt0 hc dX8_tells_71 (fun H locs hF8 => ?_)
  obtain ⟨I8, eI8, hf⟩ := bnd_f hf
  rw [eI8] at hF8
  refine fl_iinc (lv' := [(2, iv (wr (x2 + 1))), (0, .ref a0), (1, iv x1)]) C0 dX8_tells_72 hl (k := 2) rfl (by decide) rfl (fun ls hl => ?_)
  refine fl_goto (tgt := 2) C0 dX8_tells_75 (by decide) ?_
  exact hk2 I8 a0 x1 ((wr (x2 + 1))) _ _ _ ka0 rx1 ((rg_wr _)) hF8 (lv_sub hl [1, 2, 0] rfl) hf
set_option maxRecDepth 100000 in
set_option maxHeartbeats 4000000 in
theorem b_X8_tells_51 {p : Program} {l : Launch} {e : Env} {s : State} {m : MethodId} {args : Array Value} {below : List Frame} {meth : Method} {c : Code} {D : va_G} {cy : Nat → ClassId} {B : Nat} {L : List Nat} {K : KT} {P : PT} {J : IT} {res : IT} (C0 : FC D cy B p s m meth c "RejudgeHallModel" cX8_tells 4) (hr : meth.sig.returnType = none) (hWT : WT K P) {k2 : IT → Nat → Int → Int → Option (IT)} (hk2 : G_X8_tells_2 p l e s m args below meth c D cy B L K P J res k2) : G_X8_tells_51 p l e s m args below meth c D cy B L K P J res (f_X8_tells_51 K P k2) := by
  intro I a0 x1 x2 t0 H locs ls ka0 rx1 rx2 rt0 hF hl hf
  unfold f_X8_tells_51 at hf
  refine lv_istore_n (lv' := [(3, iv t0), (0, .ref a0), (1, iv x1), (2, iv x2)]) C0.1 C0.2.1 dX8_tells_51 rfl hl (by decide) rfl (fun ls hl => ?_)
  refine lv_aload_n C0.1 C0.2.1 dX8_tells_52 rfl (lv_at hl 1 rfl) ?_
  refine fl_getr (k := 33) (t := 340) ck_9 C0 hF ka0 rfl (wt_at (k := 33) (t := 340) hWT ka0 rfl) rfl ⟨rfl, rfl⟩ aw_907 dX8_tells_53 ?_
  refine lv_iload_n C0.1 C0.2.1 dX8_tells_56 rfl (lv_at hl 3 rfl) ?_
  refine lv_iload_n C0.1 C0.2.1 dX8_tells_57 rfl (lv_at hl 0 rfl) ?_
  refine fl_if_eq (tgt := 65) C0 rt0 dX8_tells_58 (by decide) (fun c7 => ?_) (fun c7 => ?_)
  · replace hf := (if_pos c7).symm.trans hf
    refine lv_aload_n C0.1 C0.2.1 dX8_tells_65 rfl (lv_at hl 1 rfl) ?_
    refine fl_getr (k := 17) (t := 340) ck_9 C0 hF ka0 rfl (wt_at (k := 17) (t := 340) hWT ka0 rfl) rfl ⟨rfl, rfl⟩ aw_891 dX8_tells_66 ?_
    refine lv_iload_n C0.1 C0.2.1 dX8_tells_69 rfl (lv_at hl 3 rfl) ?_
    obtain ⟨hc, hf⟩ := ck_f hf
    refine fl_iald (n := 60) C0 hF (wt_at (k := 17) (t := 340) hWT ka0 rfl) rx2 hc dX8_tells_70 ?_
    exact b_X8_tells_71 C0 hr hWT hk2 I a0 x1 x2 ((I ((P a0 17)) (x2 : Int).toNat)) x2 ((P a0 33)) _ _ _ ka0 rx1 rx2 ((hF.rI _ _)) rx2 ((wt_at (k := 33) (t := 340) hWT ka0 rfl)) hF (lv_sub hl [1, 2, 3] rfl) hf
  · replace hf := (if_neg c7).symm.trans hf
    refine fl_iconst C0 dX8_tells_61 ?_
    refine fl_goto (tgt := 71) C0 dX8_tells_62 (by decide) ?_
    exact b_X8_tells_71 C0 hr hWT hk2 I a0 x1 x2 ((-1)) x2 ((P a0 33)) _ _ _ ka0 rx1 rx2 ((rgk (-1) rfl)) rx2 ((wt_at (k := 33) (t := 340) hWT ka0 rfl)) hF (lv_sub hl [1, 2, 3] rfl) hf
set_option maxRecDepth 100000 in
set_option maxHeartbeats 4000000 in
theorem b_X8_tells_50 {p : Program} {l : Launch} {e : Env} {s : State} {m : MethodId} {args : Array Value} {below : List Frame} {meth : Method} {c : Code} {D : va_G} {cy : Nat → ClassId} {B : Nat} {L : List Nat} {K : KT} {P : PT} {J : IT} {res : IT} (C0 : FC D cy B p s m meth c "RejudgeHallModel" cX8_tells 4) (hr : meth.sig.returnType = none) (hWT : WT K P) {k2 : IT → Nat → Int → Int → Option (IT)} (hk2 : G_X8_tells_2 p l e s m args below meth c D cy B L K P J res k2) : G_X8_tells_50 p l e s m args below meth c D cy B L K P J res (f_X8_tells_50 K P k2) := by
  intro I a0 x1 x2 H locs ls ka0 rx1 rx2 hF hl hf
  unfold f_X8_tells_50 at hf
  refine fl_iconst C0 dX8_tells_50 ?_
  exact b_X8_tells_51 C0 hr hWT hk2 I a0 x1 x2 0 _ _ _ ka0 rx1 rx2 ((rgk 0 rfl)) hF (lv_sub hl [0, 1, 2] rfl) hf
set_option maxRecDepth 100000 in
set_option maxHeartbeats 4000000 in
theorem b_X8_tells_2 {p : Program} {l : Launch} {e : Env} {s : State} {m : MethodId} {args : Array Value} {below : List Frame} {meth : Method} {c : Code} {D : va_G} {cy : Nat → ClassId} {B : Nat} {L : List Nat} {K : KT} {P : PT} {J : IT} {res : IT} (C0 : FC D cy B p s m meth c "RejudgeHallModel" cX8_tells 4) (hr : meth.sig.returnType = none) (hWT : WT K P) : ∀ n : Nat, G_X8_tells_2 p l e s m args below meth c D cy B L K P J res (f_X8_tells_2 K P  n)
  | 0 => by
    intro I a0 x1 x2 H locs ls ka0 rx1 rx2 hF hl hf
    cases hf
  | n + 1 => by
    have ih : G_X8_tells_2 p l e s m args below meth c D cy B L K P J res (f_X8_tells_2 K P  n)  := b_X8_tells_2 C0 hr hWT  n
    intro I a0 x1 x2 H locs ls ka0 rx1 rx2 hF hl hf
    rw [f_X8_tells_2] at hf
    refine lv_iload_n C0.1 C0.2.1 dX8_tells_2 rfl (lv_at hl 2 rfl) ?_
    refine lv_aload_n C0.1 C0.2.1 dX8_tells_3 rfl (lv_at hl 0 rfl) ?_
    refine fl_geti (k := 13) ck_9 C0 hF ka0 rfl ⟨rfl, rfl⟩ aw_887 dX8_tells_4 ?_
    refine fl_icmp_ge (tgt := 78) C0 rx2 (hF.rI _ _) dX8_tells_7 (by decide) (fun c1 => ?_) (fun c1 => ?_)
    · replace hf := (if_pos c1).symm.trans hf
      refine lv_aload_n C0.1 C0.2.1 dX8_tells_78 rfl (lv_at hl 0 rfl) ?_
      obtain ⟨I2, hq2, hf⟩ := bp_f hf
      refine fl_rv hF (fl_runV (As := []) (rest := []) C0 hF hl.1 ck_9 ka0 rfl (c_X8_boards l D cy B L K P J hWT I a0 ka0 hq2) aw_1143 aw_1145 aw_59 aw_73 aw_1146 rfl rfl pm_X8_boards rfl rfl ⟨Nat.le_of_ble_eq_true rfl, Nat.le_of_ble_eq_true rfl⟩ rfl (Nat.le_of_ble_eq_true rfl) dX8_tells_79 ⟨Nat.le_of_ble_eq_true rfl, Nat.le_of_ble_eq_true rfl⟩) (fun H locs hF2 => ?_)
      cases hf
      exact fl_vret C0 hF2 hr rfl dX8_tells_82
    · replace hf := (if_neg c1).symm.trans hf
      refine lv_iload_n C0.1 C0.2.1 dX8_tells_10 rfl (lv_at hl 1 rfl) ?_
      refine fl_if_eq (tgt := 50) C0 rx1 dX8_tells_11 (by decide) (fun c3 => ?_) (fun c3 => ?_)
      · replace hf := (if_pos c3).symm.trans hf
        exact b_X8_tells_50 C0 hr hWT ih I a0 x1 x2 _ _ _ ka0 rx1 rx2 hF (lv_sub hl [0, 1, 2] rfl) hf
      · replace hf := (if_neg c3).symm.trans hf
        refine lv_aload_n C0.1 C0.2.1 dX8_tells_14 rfl (lv_at hl 0 rfl) ?_
        refine lv_iload_n C0.1 C0.2.1 dX8_tells_15 rfl (lv_at hl 2 rfl) ?_
        obtain ⟨r4, hq4, hf⟩ := bp_f hf
        refine fl_ri hF (fl_runV (As := [iv x2]) (rest := []) C0 hF hl.1 ck_9 ka0 rfl (c_X8_isLate l D cy B L K P J hWT I a0 x2 ka0 rx2 hq4) aw_1139 aw_1141 aw_58 aw_73 aw_1142 rfl rfl pm_X8_isLate rfl rfl ⟨Nat.le_of_ble_eq_true rfl, Nat.le_of_ble_eq_true rfl⟩ rfl (Nat.le_of_ble_eq_true rfl) dX8_tells_16 ⟨Nat.le_of_ble_eq_true rfl, Nat.le_of_ble_eq_true rfl⟩) (fun H locs hF4 rr4 => ?_)
        refine fl_if_eq (tgt := 50) C0 rr4 dX8_tells_19 (by decide) (fun c5 => ?_) (fun c5 => ?_)
        · replace hf := (if_pos c5).symm.trans hf
          exact b_X8_tells_50 C0 hr hWT ih I a0 x1 x2 _ _ _ ka0 rx1 rx2 hF4 (lv_sub hl [0, 1, 2] rfl) hf
        · replace hf := (if_neg c5).symm.trans hf
          refine lv_aload_n C0.1 C0.2.1 dX8_tells_22 rfl (lv_at hl 0 rfl) ?_
          refine fl_getr (k := 24) (t := 293) ck_9 C0 hF4 ka0 rfl (wt_at (k := 24) (t := 293) hWT ka0 rfl) rfl ⟨rfl, rfl⟩ aw_898 dX8_tells_23 ?_
          refine fl_bipush C0 dX8_tells_26 (by decide) ?_
          refine lv_aload_n C0.1 C0.2.1 dX8_tells_28 rfl (lv_at hl 0 rfl) ?_
          refine fl_getr (k := 14) (t := 340) ck_9 C0 hF4 ka0 rfl (wt_at (k := 14) (t := 340) hWT ka0 rfl) rfl ⟨rfl, rfl⟩ aw_888 dX8_tells_29 ?_
          refine lv_iload_n C0.1 C0.2.1 dX8_tells_32 rfl (lv_at hl 2 rfl) ?_
          obtain ⟨hc, hf⟩ := ck_f hf
          refine fl_iald (n := 60) C0 hF4 (wt_at (k := 14) (t := 340) hWT ka0 rfl) rx2 hc dX8_tells_33 ?_
          refine fl_imul C0 dX8_tells_34 ?_
          refine lv_aload_n C0.1 C0.2.1 dX8_tells_35 rfl (lv_at hl 0 rfl) ?_
          refine fl_getr (k := 15) (t := 340) ck_9 C0 hF4 ka0 rfl (wt_at (k := 15) (t := 340) hWT ka0 rfl) rfl ⟨rfl, rfl⟩ aw_889 dX8_tells_36 ?_
          refine lv_iload_n C0.1 C0.2.1 dX8_tells_39 rfl (lv_at hl 2 rfl) ?_
          obtain ⟨hc, hf⟩ := ck_f hf
          refine fl_iald (n := 60) C0 hF4 (wt_at (k := 15) (t := 340) hWT ka0 rfl) rx2 hc dX8_tells_40 ?_
          refine fl_iadd C0 dX8_tells_41 ?_
          obtain ⟨hc, hf⟩ := ck_f hf
          refine fl_zald (n := 48) C0 hF4 (wt_at (k := 24) (t := 293) hWT ka0 rfl) (rg_wr _) hc dX8_tells_42 ?_
          refine fl_if_ne (tgt := 50) C0 (hF4.rI _ _) dX8_tells_43 (by decide) (fun c6 => ?_) (fun c6 => ?_)
          · replace hf := (if_neg c6).symm.trans hf
            exact b_X8_tells_50 C0 hr hWT ih I a0 x1 x2 _ _ _ ka0 rx1 rx2 hF4 (lv_sub hl [0, 1, 2] rfl) hf
          · replace hf := (if_pos c6).symm.trans hf
            refine fl_iconst C0 dX8_tells_46 ?_
            refine fl_goto (tgt := 51) C0 dX8_tells_47 (by decide) ?_
            exact b_X8_tells_51 C0 hr hWT ih I a0 x1 x2 1 _ _ _ ka0 rx1 rx2 ((rgk 1 rfl)) hF4 (lv_sub hl [0, 1, 2] rfl) hf
theorem pm_X8_tells : plainM yX8_tells 1 := by decide +kernel
set_option maxRecDepth 100000 in
set_option maxHeartbeats 4000000 in
theorem c_X8_tells (l : Launch) (D : va_G) (cy : Nat → ClassId) (B : Nat) (L : List Nat) (K : KT) (P : PT) (J : IT) (hWT : WT K P) (I : IT) (a0 : Nat) (x1 : Int) (ka0 : K a0 = 9) (rx1 : rg x1) {I' : IT} (hf : f_X8_tells K P I a0 x1 = some I') : Met l yX8_tells [.code yX8_tells cX8_tells 4 none] rm_X8_tells (va_Pc [.ref a0, iv x1] (FW D cy B L K P J I)) (QV D cy B L K P J I') 0 0 (fun q => B ≤ q) := by
  refine fl_body (own := "RejudgeHallModel") [.ref a0, iv x1] (by decide) rfl (Nat.le_of_ble_eq_true rfl) ?_
  intro p e s m args below meth c ls C0 hr hF hl
  have hl : lv_has ls 4 [(0, .ref a0), (1, iv x1)] := hl
  unfold f_X8_tells at hf
  refine fl_iconst C0 dX8_tells_0 ?_
  refine lv_istore_n (lv' := [(2, iv 0), (0, .ref a0), (1, iv x1)]) C0.1 C0.2.1 dX8_tells_1 rfl hl (by decide) rfl (fun ls hl => ?_)
  exact b_X8_tells_2 C0 hr hWT  FU I a0 x1 0 _ _ _ ka0 rx1 ((rgk 0 rfl)) hF (lv_sub hl [1, 2, 0] rfl) hf
-- RejudgeHallModel.isAhead(II)Z
abbrev rm_X8_isAhead : Room := { frames := 0, cells := 0, slots := 0, locals := 0 }
def f_X8_isAhead (K : KT) (P : PT) (I : IT) (a0 : Nat) (x1 : Int) (x2 : Int) : Option (Int) := ck (0 ≤ x1 ∧ x1 < 8) <| ck (0 ≤ x2 ∧ x2 < 8) <| if (I ((P a0 34)) (x1 : Int).toNat) = (I ((P a0 34)) (x2 : Int).toNat) then (ck (0 ≤ x1 ∧ x1 < 8) <| ck (0 ≤ x2 ∧ x2 < 8) <| if (I ((P a0 35)) (x1 : Int).toNat) = (I ((P a0 35)) (x2 : Int).toNat) then (ck (0 ≤ x1 ∧ x1 < 8) <| ck (0 ≤ x2 ∧ x2 < 8) <| if (I ((P a0 36)) (x1 : Int).toNat) = (I ((P a0 36)) (x2 : Int).toNat) then (if x2 ≤ x1 then (some 0) else (some 1)) else (ck (0 ≤ x1 ∧ x1 < 8) <| ck (0 ≤ x2 ∧ x2 < 8) <| if (I ((P a0 36)) (x2 : Int).toNat) ≤ (I ((P a0 36)) (x1 : Int).toNat) then (some 0) else (some 1))) else (ck (0 ≤ x1 ∧ x1 < 8) <| ck (0 ≤ x2 ∧ x2 < 8) <| if (I ((P a0 35)) (x2 : Int).toNat) ≤ (I ((P a0 35)) (x1 : Int).toNat) then (some 0) else (some 1))) else (ck (0 ≤ x1 ∧ x1 < 8) <| ck (0 ≤ x2 ∧ x2 < 8) <| if (I ((P a0 34)) (x1 : Int).toNat) ≤ (I ((P a0 34)) (x2 : Int).toNat) then (some 0) else (some 1))
theorem pm_X8_isAhead : plainM yX8_isAhead 2 := by decide +kernel
set_option maxRecDepth 100000 in
set_option maxHeartbeats 4000000 in
theorem c_X8_isAhead (l : Launch) (D : va_G) (cy : Nat → ClassId) (B : Nat) (L : List Nat) (K : KT) (P : PT) (J : IT) (hWT : WT K P) (I : IT) (a0 : Nat) (x1 : Int) (x2 : Int) (ka0 : K a0 = 9) (rx1 : rg x1) (rx2 : rg x2) {r : Int} (hf : f_X8_isAhead K P I a0 x1 x2 = some r) : Met l yX8_isAhead [.code yX8_isAhead cX8_isAhead 3 (some .boolean)] rm_X8_isAhead (va_Pc [.ref a0, iv x1, iv x2] (FW D cy B L K P J I)) (QI D cy B L K P J (r, I)) 0 0 (fun q => B ≤ q) := by
  refine fl_body (own := "RejudgeHallModel") [.ref a0, iv x1, iv x2] (by decide) rfl (Nat.le_of_ble_eq_true rfl) ?_
  intro p e s m args below meth c ls C0 hr hF hl
  have hl : lv_has ls 3 [(0, .ref a0), (1, iv x1), (2, iv x2)] := hl
  unfold f_X8_isAhead at hf
  refine lv_aload_n C0.1 C0.2.1 dX8_isAhead_0 rfl (lv_at hl 0 rfl) ?_
  refine fl_getr (k := 34) (t := 132) ck_9 C0 hF ka0 rfl (wt_at (k := 34) (t := 132) hWT ka0 rfl) rfl ⟨rfl, rfl⟩ aw_908 dX8_isAhead_1 ?_
  refine lv_iload_n C0.1 C0.2.1 dX8_isAhead_4 rfl (lv_at hl 1 rfl) ?_
  obtain ⟨hc, hf⟩ := ck_f hf
  refine fl_iald (n := 8) C0 hF (wt_at (k := 34) (t := 132) hWT ka0 rfl) rx1 hc dX8_isAhead_5 ?_
  refine lv_aload_n C0.1 C0.2.1 dX8_isAhead_6 rfl (lv_at hl 0 rfl) ?_
  refine fl_getr (k := 34) (t := 132) ck_9 C0 hF ka0 rfl (wt_at (k := 34) (t := 132) hWT ka0 rfl) rfl ⟨rfl, rfl⟩ aw_908 dX8_isAhead_7 ?_
  refine lv_iload_n C0.1 C0.2.1 dX8_isAhead_10 rfl (lv_at hl 2 rfl) ?_
  obtain ⟨hc, hf⟩ := ck_f hf
  refine fl_iald (n := 8) C0 hF (wt_at (k := 34) (t := 132) hWT ka0 rfl) rx2 hc dX8_isAhead_11 ?_
  refine fl_icmp_eq (tgt := 36) C0 (hF.rI _ _) (hF.rI _ _) dX8_isAhead_12 (by decide) (fun c1 => ?_) (fun c1 => ?_)
  · replace hf := (if_pos c1).symm.trans hf
    refine lv_aload_n C0.1 C0.2.1 dX8_isAhead_36 rfl (lv_at hl 0 rfl) ?_
    refine fl_getr (k := 35) (t := 132) ck_9 C0 hF ka0 rfl (wt_at (k := 35) (t := 132) hWT ka0 rfl) rfl ⟨rfl, rfl⟩ aw_909 dX8_isAhead_37 ?_
    refine lv_iload_n C0.1 C0.2.1 dX8_isAhead_40 rfl (lv_at hl 1 rfl) ?_
    obtain ⟨hc, hf⟩ := ck_f hf
    refine fl_iald (n := 8) C0 hF (wt_at (k := 35) (t := 132) hWT ka0 rfl) rx1 hc dX8_isAhead_41 ?_
    refine lv_aload_n C0.1 C0.2.1 dX8_isAhead_42 rfl (lv_at hl 0 rfl) ?_
    refine fl_getr (k := 35) (t := 132) ck_9 C0 hF ka0 rfl (wt_at (k := 35) (t := 132) hWT ka0 rfl) rfl ⟨rfl, rfl⟩ aw_909 dX8_isAhead_43 ?_
    refine lv_iload_n C0.1 C0.2.1 dX8_isAhead_46 rfl (lv_at hl 2 rfl) ?_
    obtain ⟨hc, hf⟩ := ck_f hf
    refine fl_iald (n := 8) C0 hF (wt_at (k := 35) (t := 132) hWT ka0 rfl) rx2 hc dX8_isAhead_47 ?_
    refine fl_icmp_eq (tgt := 72) C0 (hF.rI _ _) (hF.rI _ _) dX8_isAhead_48 (by decide) (fun c2 => ?_) (fun c2 => ?_)
    · replace hf := (if_pos c2).symm.trans hf
      refine lv_aload_n C0.1 C0.2.1 dX8_isAhead_72 rfl (lv_at hl 0 rfl) ?_
      refine fl_getr (k := 36) (t := 132) ck_9 C0 hF ka0 rfl (wt_at (k := 36) (t := 132) hWT ka0 rfl) rfl ⟨rfl, rfl⟩ aw_910 dX8_isAhead_73 ?_
      refine lv_iload_n C0.1 C0.2.1 dX8_isAhead_76 rfl (lv_at hl 1 rfl) ?_
      obtain ⟨hc, hf⟩ := ck_f hf
      refine fl_iald (n := 8) C0 hF (wt_at (k := 36) (t := 132) hWT ka0 rfl) rx1 hc dX8_isAhead_77 ?_
      refine lv_aload_n C0.1 C0.2.1 dX8_isAhead_78 rfl (lv_at hl 0 rfl) ?_
      refine fl_getr (k := 36) (t := 132) ck_9 C0 hF ka0 rfl (wt_at (k := 36) (t := 132) hWT ka0 rfl) rfl ⟨rfl, rfl⟩ aw_910 dX8_isAhead_79 ?_
      refine lv_iload_n C0.1 C0.2.1 dX8_isAhead_82 rfl (lv_at hl 2 rfl) ?_
      obtain ⟨hc, hf⟩ := ck_f hf
      refine fl_iald (n := 8) C0 hF (wt_at (k := 36) (t := 132) hWT ka0 rfl) rx2 hc dX8_isAhead_83 ?_
      refine fl_icmp_eq (tgt := 110) C0 (hF.rI _ _) (hF.rI _ _) dX8_isAhead_84 (by decide) (fun c3 => ?_) (fun c3 => ?_)
      · replace hf := (if_pos c3).symm.trans hf
        refine lv_iload_n C0.1 C0.2.1 dX8_isAhead_110 rfl (lv_at hl 1 rfl) ?_
        refine lv_iload_n C0.1 C0.2.1 dX8_isAhead_111 rfl (lv_at hl 2 rfl) ?_
        refine fl_icmp_ge (tgt := 119) C0 rx1 rx2 dX8_isAhead_112 (by decide) (fun c4 => ?_) (fun c4 => ?_)
        · replace hf := (if_pos c4).symm.trans hf
          refine fl_iconst C0 dX8_isAhead_119 ?_
          cases hf
          exact fl_zret C0 hF hr (rgk 0 rfl) (Or.inl rfl) rfl dX8_isAhead_120
        · replace hf := (if_neg c4).symm.trans hf
          refine fl_iconst C0 dX8_isAhead_115 ?_
          refine fl_goto (tgt := 120) C0 dX8_isAhead_116 (by decide) ?_
          cases hf
          exact fl_zret C0 hF hr (rgk 1 rfl) (Or.inr rfl) rfl dX8_isAhead_120
      · replace hf := (if_neg c3).symm.trans hf
        refine lv_aload_n C0.1 C0.2.1 dX8_isAhead_87 rfl (lv_at hl 0 rfl) ?_
        refine fl_getr (k := 36) (t := 132) ck_9 C0 hF ka0 rfl (wt_at (k := 36) (t := 132) hWT ka0 rfl) rfl ⟨rfl, rfl⟩ aw_910 dX8_isAhead_88 ?_
        refine lv_iload_n C0.1 C0.2.1 dX8_isAhead_91 rfl (lv_at hl 1 rfl) ?_
        obtain ⟨hc, hf⟩ := ck_f hf
        refine fl_iald (n := 8) C0 hF (wt_at (k := 36) (t := 132) hWT ka0 rfl) rx1 hc dX8_isAhead_92 ?_
        refine lv_aload_n C0.1 C0.2.1 dX8_isAhead_93 rfl (lv_at hl 0 rfl) ?_
        refine fl_getr (k := 36) (t := 132) ck_9 C0 hF ka0 rfl (wt_at (k := 36) (t := 132) hWT ka0 rfl) rfl ⟨rfl, rfl⟩ aw_910 dX8_isAhead_94 ?_
        refine lv_iload_n C0.1 C0.2.1 dX8_isAhead_97 rfl (lv_at hl 2 rfl) ?_
        obtain ⟨hc, hf⟩ := ck_f hf
        refine fl_iald (n := 8) C0 hF (wt_at (k := 36) (t := 132) hWT ka0 rfl) rx2 hc dX8_isAhead_98 ?_
        refine fl_icmp_ge (tgt := 106) C0 (hF.rI _ _) (hF.rI _ _) dX8_isAhead_99 (by decide) (fun c5 => ?_) (fun c5 => ?_)
        · replace hf := (if_pos c5).symm.trans hf
          refine fl_iconst C0 dX8_isAhead_106 ?_
          refine fl_goto (tgt := 120) C0 dX8_isAhead_107 (by decide) ?_
          cases hf
          exact fl_zret C0 hF hr (rgk 0 rfl) (Or.inl rfl) rfl dX8_isAhead_120
        · replace hf := (if_neg c5).symm.trans hf
          refine fl_iconst C0 dX8_isAhead_102 ?_
          refine fl_goto (tgt := 120) C0 dX8_isAhead_103 (by decide) ?_
          cases hf
          exact fl_zret C0 hF hr (rgk 1 rfl) (Or.inr rfl) rfl dX8_isAhead_120
    · replace hf := (if_neg c2).symm.trans hf
      refine lv_aload_n C0.1 C0.2.1 dX8_isAhead_51 rfl (lv_at hl 0 rfl) ?_
      refine fl_getr (k := 35) (t := 132) ck_9 C0 hF ka0 rfl (wt_at (k := 35) (t := 132) hWT ka0 rfl) rfl ⟨rfl, rfl⟩ aw_909 dX8_isAhead_52 ?_
      refine lv_iload_n C0.1 C0.2.1 dX8_isAhead_55 rfl (lv_at hl 1 rfl) ?_
      obtain ⟨hc, hf⟩ := ck_f hf
      refine fl_iald (n := 8) C0 hF (wt_at (k := 35) (t := 132) hWT ka0 rfl) rx1 hc dX8_isAhead_56 ?_
      refine lv_aload_n C0.1 C0.2.1 dX8_isAhead_57 rfl (lv_at hl 0 rfl) ?_
      refine fl_getr (k := 35) (t := 132) ck_9 C0 hF ka0 rfl (wt_at (k := 35) (t := 132) hWT ka0 rfl) rfl ⟨rfl, rfl⟩ aw_909 dX8_isAhead_58 ?_
      refine lv_iload_n C0.1 C0.2.1 dX8_isAhead_61 rfl (lv_at hl 2 rfl) ?_
      obtain ⟨hc, hf⟩ := ck_f hf
      refine fl_iald (n := 8) C0 hF (wt_at (k := 35) (t := 132) hWT ka0 rfl) rx2 hc dX8_isAhead_62 ?_
      refine fl_icmp_ge (tgt := 70) C0 (hF.rI _ _) (hF.rI _ _) dX8_isAhead_63 (by decide) (fun c6 => ?_) (fun c6 => ?_)
      · replace hf := (if_pos c6).symm.trans hf
        refine fl_iconst C0 dX8_isAhead_70 ?_
        cases hf
        exact fl_zret C0 hF hr (rgk 0 rfl) (Or.inl rfl) rfl dX8_isAhead_71
      · replace hf := (if_neg c6).symm.trans hf
        refine fl_iconst C0 dX8_isAhead_66 ?_
        refine fl_goto (tgt := 71) C0 dX8_isAhead_67 (by decide) ?_
        cases hf
        exact fl_zret C0 hF hr (rgk 1 rfl) (Or.inr rfl) rfl dX8_isAhead_71
  · replace hf := (if_neg c1).symm.trans hf
    refine lv_aload_n C0.1 C0.2.1 dX8_isAhead_15 rfl (lv_at hl 0 rfl) ?_
    refine fl_getr (k := 34) (t := 132) ck_9 C0 hF ka0 rfl (wt_at (k := 34) (t := 132) hWT ka0 rfl) rfl ⟨rfl, rfl⟩ aw_908 dX8_isAhead_16 ?_
    refine lv_iload_n C0.1 C0.2.1 dX8_isAhead_19 rfl (lv_at hl 1 rfl) ?_
    obtain ⟨hc, hf⟩ := ck_f hf
    refine fl_iald (n := 8) C0 hF (wt_at (k := 34) (t := 132) hWT ka0 rfl) rx1 hc dX8_isAhead_20 ?_
    refine lv_aload_n C0.1 C0.2.1 dX8_isAhead_21 rfl (lv_at hl 0 rfl) ?_
    refine fl_getr (k := 34) (t := 132) ck_9 C0 hF ka0 rfl (wt_at (k := 34) (t := 132) hWT ka0 rfl) rfl ⟨rfl, rfl⟩ aw_908 dX8_isAhead_22 ?_
    refine lv_iload_n C0.1 C0.2.1 dX8_isAhead_25 rfl (lv_at hl 2 rfl) ?_
    obtain ⟨hc, hf⟩ := ck_f hf
    refine fl_iald (n := 8) C0 hF (wt_at (k := 34) (t := 132) hWT ka0 rfl) rx2 hc dX8_isAhead_26 ?_
    refine fl_icmp_le (tgt := 34) C0 (hF.rI _ _) (hF.rI _ _) dX8_isAhead_27 (by decide) (fun c7 => ?_) (fun c7 => ?_)
    · replace hf := (if_pos c7).symm.trans hf
      refine fl_iconst C0 dX8_isAhead_34 ?_
      cases hf
      exact fl_zret C0 hF hr (rgk 0 rfl) (Or.inl rfl) rfl dX8_isAhead_35
    · replace hf := (if_neg c7).symm.trans hf
      refine fl_iconst C0 dX8_isAhead_30 ?_
      refine fl_goto (tgt := 35) C0 dX8_isAhead_31 (by decide) ?_
      cases hf
      exact fl_zret C0 hF hr (rgk 1 rfl) (Or.inr rfl) rfl dX8_isAhead_35
-- RejudgeHallModel.placeOf(I)I
abbrev rm_X8_placeOf : Room := { frames := 1, cells := 0, slots := 0, locals := 22 }
def f_X8_placeOf_30 (K : KT) (P : PT) (k4 : Nat → Int → Int → Int → Option (Int)) (I : IT) (a0 : Nat) (x1 : Int) (x3 : Int) (t0 : Int) (t1 : Int) : Option (Int) := k4 a0 x1 ((wr (t1 + t0))) ((wr (x3 + 1)))
def f_X8_placeOf_29 (K : KT) (P : PT) (k4 : Nat → Int → Int → Int → Option (Int)) (I : IT) (a0 : Nat) (x1 : Int) (x3 : Int) (t0 : Int) : Option (Int) := f_X8_placeOf_30 K P k4 I a0 x1 x3 0 t0
def f_X8_placeOf_4 (K : KT) (P : PT) (I : IT) : Nat → Nat → Int → Int → Int → Option (Int)
  | 0, _, _, _, _ => none
  | n + 1, a0, x1, x2, x3 => if 8 ≤ x3 then (some x2) else (if x3 = x1 then (f_X8_placeOf_29 K P ((f_X8_placeOf_4 K P  I n)) I a0 x1 x3 x2) else (bp (f_X8_isAhead K P I a0 x3 x1) fun r3 => if r3 = 0 then (f_X8_placeOf_29 K P ((f_X8_placeOf_4 K P  I n)) I a0 x1 x3 x2) else (f_X8_placeOf_30 K P ((f_X8_placeOf_4 K P  I n)) I a0 x1 x3 1 x2)))
def f_X8_placeOf (K : KT) (P : PT) (I : IT) (a0 : Nat) (x1 : Int) : Option (Int) := f_X8_placeOf_4 K P  I FU a0 x1 0 0
abbrev G_X8_placeOf_30 (p : Program) (l : Launch) (e : Env) (s : State) (m : MethodId) (args : Array Value) (below : List Frame) (meth : Method) (c : Code) (D : va_G) (cy : Nat → ClassId) (B : Nat) (L : List Nat) (K : KT) (P : PT) (J : IT) (res : Int) (I : IT) (f : Nat → Int → Int → Int → Int → Option (Int)) : Prop := ∀ (a0 : Nat) (x1 : Int) (x3 : Int) (t0 : Int) (t1 : Int) (H : Heap) (locs : List Loc) (ls : Array Slot), K a0 = 9 → rg x1 → rg x3 → rg t0 → rg t1 → FS D cy B L K P J s.heap I H locs → lv_has ls 4 [(0, .ref a0), (1, iv x1), (3, iv x3)] → f a0 x1 x3 t0 t1 = some res → W p l e rm_X8_placeOf s m args below meth c H locs 0 0 (MQ below (QI D cy B L K P J (res, I)) args s 0 0 (fun q => B ≤ q)) (F0 m 30 ls [iv t0, iv t1])
abbrev G_X8_placeOf_29 (p : Program) (l : Launch) (e : Env) (s : State) (m : MethodId) (args : Array Value) (below : List Frame) (meth : Method) (c : Code) (D : va_G) (cy : Nat → ClassId) (B : Nat) (L : List Nat) (K : KT) (P : PT) (J : IT) (res : Int) (I : IT) (f : Nat → Int → Int → Int → Option (Int)) : Prop := ∀ (a0 : Nat) (x1 : Int) (x3 : Int) (t0 : Int) (H : Heap) (locs : List Loc) (ls : Array Slot), K a0 = 9 → rg x1 → rg x3 → rg t0 → FS D cy B L K P J s.heap I H locs → lv_has ls 4 [(0, .ref a0), (1, iv x1), (3, iv x3)] → f a0 x1 x3 t0 = some res → W p l e rm_X8_placeOf s m args below meth c H locs 0 0 (MQ below (QI D cy B L K P J (res, I)) args s 0 0 (fun q => B ≤ q)) (F0 m 29 ls [iv t0])
abbrev G_X8_placeOf_4 (p : Program) (l : Launch) (e : Env) (s : State) (m : MethodId) (args : Array Value) (below : List Frame) (meth : Method) (c : Code) (D : va_G) (cy : Nat → ClassId) (B : Nat) (L : List Nat) (K : KT) (P : PT) (J : IT) (res : Int) (I : IT) (f : Nat → Int → Int → Int → Option (Int)) : Prop := ∀ (a0 : Nat) (x1 : Int) (x2 : Int) (x3 : Int) (H : Heap) (locs : List Loc) (ls : Array Slot), K a0 = 9 → rg x1 → rg x2 → rg x3 → FS D cy B L K P J s.heap I H locs → lv_has ls 4 [(0, .ref a0), (1, iv x1), (2, iv x2), (3, iv x3)] → f a0 x1 x2 x3 = some res → W p l e rm_X8_placeOf s m args below meth c H locs 0 0 (MQ below (QI D cy B L K P J (res, I)) args s 0 0 (fun q => B ≤ q)) (F0 m 4 ls [])
set_option maxRecDepth 100000 in
set_option maxHeartbeats 4000000 in
theorem b_X8_placeOf_30 {p : Program} {l : Launch} {e : Env} {s : State} {m : MethodId} {args : Array Value} {below : List Frame} {meth : Method} {c : Code} {D : va_G} {cy : Nat → ClassId} {B : Nat} {L : List Nat} {K : KT} {P : PT} {J : IT} {res : Int} {I : IT} (C0 : FC D cy B p s m meth c "RejudgeHallModel" cX8_placeOf 4) (hr : meth.sig.returnType = (some .int)) (hWT : WT K P) {k4 : Nat → Int → Int → Int → Option (Int)} (hk4 : G_X8_placeOf_4 p l e s m args below meth c D cy B L K P J res I k4) : G_X8_placeOf_30 p l e s m args below meth c D cy B L K P J res I (f_X8_placeOf_30 K P k4 I) := by
  intro a0 x1 x3 t0 t1 H locs ls ka0 rx1 rx3 rt0 rt1 hF hl hf
  unfold f_X8_placeOf_30 at hf
  refine fl_iadd C0 dX8_placeOf_30 ?_
  refine lv_istore_n (lv' := [(2, iv (wr (t1 + t0))), (0, .ref a0), (1, iv x1), (3, iv x3)]) C0.1 C0.2.1 dX8_placeOf_31 rfl hl (by decide) rfl (fun ls hl => ?_)
  refine fl_iinc (lv' := [(3, iv (wr (x3 + 1))), (2, iv (wr (t1 + t0))), (0, .ref a0), (1, iv x1)]) C0 dX8_placeOf_32 hl (k := 3) rfl (by decide) rfl (fun ls hl => ?_)
  refine fl_goto (tgt := 4) C0 dX8_placeOf_35 (by decide) ?_
  exact hk4  a0 x1 ((wr (t1 + t0))) ((wr (x3 + 1))) _ _ _ ka0 rx1 ((rg_wr _)) ((rg_wr _)) hF (lv_sub hl [2, 3, 1, 0] rfl) hf
set_option maxRecDepth 100000 in
set_option maxHeartbeats 4000000 in
theorem b_X8_placeOf_29 {p : Program} {l : Launch} {e : Env} {s : State} {m : MethodId} {args : Array Value} {below : List Frame} {meth : Method} {c : Code} {D : va_G} {cy : Nat → ClassId} {B : Nat} {L : List Nat} {K : KT} {P : PT} {J : IT} {res : Int} {I : IT} (C0 : FC D cy B p s m meth c "RejudgeHallModel" cX8_placeOf 4) (hr : meth.sig.returnType = (some .int)) (hWT : WT K P) {k4 : Nat → Int → Int → Int → Option (Int)} (hk4 : G_X8_placeOf_4 p l e s m args below meth c D cy B L K P J res I k4) : G_X8_placeOf_29 p l e s m args below meth c D cy B L K P J res I (f_X8_placeOf_29 K P k4 I) := by
  intro a0 x1 x3 t0 H locs ls ka0 rx1 rx3 rt0 hF hl hf
  unfold f_X8_placeOf_29 at hf
  refine fl_iconst C0 dX8_placeOf_29 ?_
  exact b_X8_placeOf_30 C0 hr hWT hk4  a0 x1 x3 0 t0 _ _ _ ka0 rx1 rx3 ((rgk 0 rfl)) rt0 hF (lv_sub hl [0, 1, 2] rfl) hf
set_option maxRecDepth 100000 in
set_option maxHeartbeats 4000000 in
theorem b_X8_placeOf_4 {p : Program} {l : Launch} {e : Env} {s : State} {m : MethodId} {args : Array Value} {below : List Frame} {meth : Method} {c : Code} {D : va_G} {cy : Nat → ClassId} {B : Nat} {L : List Nat} {K : KT} {P : PT} {J : IT} {res : Int} {I : IT} (C0 : FC D cy B p s m meth c "RejudgeHallModel" cX8_placeOf 4) (hr : meth.sig.returnType = (some .int)) (hWT : WT K P) : ∀ n : Nat, G_X8_placeOf_4 p l e s m args below meth c D cy B L K P J res I (f_X8_placeOf_4 K P  I n)
  | 0 => by
    intro a0 x1 x2 x3 H locs ls ka0 rx1 rx2 rx3 hF hl hf
    cases hf
  | n + 1 => by
    have ih : G_X8_placeOf_4 p l e s m args below meth c D cy B L K P J res I (f_X8_placeOf_4 K P  I n)  := b_X8_placeOf_4 C0 hr hWT  n
    intro a0 x1 x2 x3 H locs ls ka0 rx1 rx2 rx3 hF hl hf
    rw [f_X8_placeOf_4] at hf
    refine lv_iload_n C0.1 C0.2.1 dX8_placeOf_4 rfl (lv_at hl 3 rfl) ?_
    refine fl_bipush C0 dX8_placeOf_5 (by decide) ?_
    refine fl_icmp_ge (tgt := 38) C0 rx3 (rgk 8 rfl) dX8_placeOf_7 (by decide) (fun c1 => ?_) (fun c1 => ?_)
    · replace hf := (if_pos c1).symm.trans hf
      refine lv_iload_n C0.1 C0.2.1 dX8_placeOf_38 rfl (lv_at hl 2 rfl) ?_
      cases hf
      exact fl_iret C0 hF hr rx2 rfl dX8_placeOf_39
    · replace hf := (if_neg c1).symm.trans hf
      refine lv_iload_n C0.1 C0.2.1 dX8_placeOf_10 rfl (lv_at hl 2 rfl) ?_
      refine lv_iload_n C0.1 C0.2.1 dX8_placeOf_11 rfl (lv_at hl 3 rfl) ?_
      refine lv_iload_n C0.1 C0.2.1 dX8_placeOf_12 rfl (lv_at hl 1 rfl) ?_
      refine fl_icmp_eq (tgt := 29) C0 rx3 rx1 dX8_placeOf_13 (by decide) (fun c2 => ?_) (fun c2 => ?_)
      · replace hf := (if_pos c2).symm.trans hf
        exact b_X8_placeOf_29 C0 hr hWT ih  a0 x1 x3 x2 _ _ _ ka0 rx1 rx3 rx2 hF (lv_sub hl [0, 1, 3] rfl) hf
      · replace hf := (if_neg c2).symm.trans hf
        refine lv_aload_n C0.1 C0.2.1 dX8_placeOf_16 rfl (lv_at hl 0 rfl) ?_
        refine lv_iload_n C0.1 C0.2.1 dX8_placeOf_17 rfl (lv_at hl 3 rfl) ?_
        refine lv_iload_n C0.1 C0.2.1 dX8_placeOf_18 rfl (lv_at hl 1 rfl) ?_
        obtain ⟨r3, hq3, hf⟩ := bp_f hf
        refine fl_ri hF (fl_runV (As := [iv x3, iv x1]) (rest := [iv x2]) C0 hF hl.1 ck_9 ka0 rfl (c_X8_isAhead l D cy B L K P J hWT I a0 x3 x1 ka0 rx3 rx1 hq3) aw_1155 aw_1157 aw_62 aw_73 aw_1158 rfl rfl pm_X8_isAhead rfl rfl ⟨Nat.le_of_ble_eq_true rfl, Nat.le_of_ble_eq_true rfl⟩ rfl (Nat.le_of_ble_eq_true rfl) dX8_placeOf_19 ⟨Nat.le_of_ble_eq_true rfl, Nat.le_of_ble_eq_true rfl⟩) (fun H locs hF3 rr3 => ?_)
        refine fl_if_eq (tgt := 29) C0 rr3 dX8_placeOf_22 (by decide) (fun c4 => ?_) (fun c4 => ?_)
        · replace hf := (if_pos c4).symm.trans hf
          exact b_X8_placeOf_29 C0 hr hWT ih  a0 x1 x3 x2 _ _ _ ka0 rx1 rx3 rx2 hF3 (lv_sub hl [0, 1, 3] rfl) hf
        · replace hf := (if_neg c4).symm.trans hf
          refine fl_iconst C0 dX8_placeOf_25 ?_
          refine fl_goto (tgt := 30) C0 dX8_placeOf_26 (by decide) ?_
          exact b_X8_placeOf_30 C0 hr hWT ih  a0 x1 x3 1 x2 _ _ _ ka0 rx1 rx3 ((rgk 1 rfl)) rx2 hF3 (lv_sub hl [0, 1, 3] rfl) hf
theorem pm_X8_placeOf : plainM yX8_placeOf 1 := by decide +kernel
set_option maxRecDepth 100000 in
set_option maxHeartbeats 4000000 in
theorem c_X8_placeOf (l : Launch) (D : va_G) (cy : Nat → ClassId) (B : Nat) (L : List Nat) (K : KT) (P : PT) (J : IT) (hWT : WT K P) (I : IT) (a0 : Nat) (x1 : Int) (ka0 : K a0 = 9) (rx1 : rg x1) {r : Int} (hf : f_X8_placeOf K P I a0 x1 = some r) : Met l yX8_placeOf [.code yX8_placeOf cX8_placeOf 4 (some .int)] rm_X8_placeOf (va_Pc [.ref a0, iv x1] (FW D cy B L K P J I)) (QI D cy B L K P J (r, I)) 0 0 (fun q => B ≤ q) := by
  refine fl_body (own := "RejudgeHallModel") [.ref a0, iv x1] (by decide) rfl (Nat.le_of_ble_eq_true rfl) ?_
  intro p e s m args below meth c ls C0 hr hF hl
  have hl : lv_has ls 4 [(0, .ref a0), (1, iv x1)] := hl
  unfold f_X8_placeOf at hf
  refine fl_iconst C0 dX8_placeOf_0 ?_
  refine lv_istore_n (lv' := [(2, iv 0), (0, .ref a0), (1, iv x1)]) C0.1 C0.2.1 dX8_placeOf_1 rfl hl (by decide) rfl (fun ls hl => ?_)
  refine fl_iconst C0 dX8_placeOf_2 ?_
  refine lv_istore_n (lv' := [(3, iv 0), (2, iv 0), (0, .ref a0), (1, iv x1)]) C0.1 C0.2.1 dX8_placeOf_3 rfl hl (by decide) rfl (fun ls hl => ?_)
  exact b_X8_placeOf_4 C0 hr hWT  FU  a0 x1 0 0 _ _ _ ka0 rx1 ((rgk 0 rfl)) ((rgk 0 rfl)) hF (lv_sub hl [2, 3, 1, 0] rfl) hf
-- RejudgeHallModel.freeze(I)V
abbrev rm_X8_freeze : Room := { frames := 1, cells := 0, slots := 0, locals := 22 }
def f_X8_freeze_34 (K : KT) (P : PT) : Nat → IT → Nat → Int → Option (IT)
  | 0, _, _, _ => none
  | n + 1, I, a0, x2 => if 48 ≤ x2 then (some I) else (ck (0 ≤ x2 ∧ x2 < 48) <| bnd (up I ((P a0 24)) (x2 : Int).toNat 0) fun I7 => (f_X8_freeze_34 K P  n) I7 a0 ((wr (x2 + 1))))
def f_X8_freeze_17 (K : KT) (P : PT) (I : IT) (a0 : Nat) (x1 : Int) (t0 : Int) (b1 : Nat) : Option (IT) := bnd (up I b1 38 t0) fun I3 => if (I3 a0 38) = 0 then (bnd (up I3 a0 23 x1) fun I5 => f_X8_freeze_34 K P  FU I5 a0 0) else (some I3)
def f_X8_freeze (K : KT) (P : PT) (I : IT) (a0 : Nat) (x1 : Int) : Option (IT) := bp (f_X8_isIn K P I x1 ((-1)) 9999) fun r1 => if r1 = 0 then (f_X8_freeze_17 K P  I a0 x1 1 a0) else (f_X8_freeze_17 K P  I a0 x1 0 a0)
abbrev G_X8_freeze_34 (p : Program) (l : Launch) (e : Env) (s : State) (m : MethodId) (args : Array Value) (below : List Frame) (meth : Method) (c : Code) (D : va_G) (cy : Nat → ClassId) (B : Nat) (L : List Nat) (K : KT) (P : PT) (J : IT) (res : IT) (f : IT → Nat → Int → Option (IT)) : Prop := ∀ (I : IT) (a0 : Nat) (x2 : Int) (H : Heap) (locs : List Loc) (ls : Array Slot), K a0 = 9 → rg x2 → FS D cy B L K P J s.heap I H locs → lv_has ls 3 [(0, .ref a0), (2, iv x2)] → f I a0 x2 = some res → W p l e rm_X8_freeze s m args below meth c H locs 0 0 (MQ below (QV D cy B L K P J res) args s 0 0 (fun q => B ≤ q)) (F0 m 34 ls [])
abbrev G_X8_freeze_17 (p : Program) (l : Launch) (e : Env) (s : State) (m : MethodId) (args : Array Value) (below : List Frame) (meth : Method) (c : Code) (D : va_G) (cy : Nat → ClassId) (B : Nat) (L : List Nat) (K : KT) (P : PT) (J : IT) (res : IT) (f : IT → Nat → Int → Int → Nat → Option (IT)) : Prop := ∀ (I : IT) (a0 : Nat) (x1 : Int) (t0 : Int) (b1 : Nat) (H : Heap) (locs : List Loc) (ls : Array Slot), K a0 = 9 → rg x1 → rg t0 → K b1 = 9 → FS D cy B L K P J s.heap I H locs → lv_has ls 3 [(0, .ref a0), (1, iv x1)] → f I a0 x1 t0 b1 = some res → W p l e rm_X8_freeze s m args below meth c H locs 0 0 (MQ below (QV D cy B L K P J res) args s 0 0 (fun q => B ≤ q)) (F0 m 17 ls [iv t0, .ref b1])
set_option maxRecDepth 100000 in
set_option maxHeartbeats 4000000 in
theorem b_X8_freeze_34 {p : Program} {l : Launch} {e : Env} {s : State} {m : MethodId} {args : Array Value} {below : List Frame} {meth : Method} {c : Code} {D : va_G} {cy : Nat → ClassId} {B : Nat} {L : List Nat} {K : KT} {P : PT} {J : IT} {res : IT} (C0 : FC D cy B p s m meth c "RejudgeHallModel" cX8_freeze 3) (hr : meth.sig.returnType = none) (hWT : WT K P) : ∀ n : Nat, G_X8_freeze_34 p l e s m args below meth c D cy B L K P J res (f_X8_freeze_34 K P  n)
  | 0 => by
    intro I a0 x2 H locs ls ka0 rx2 hF hl hf
    cases hf
  | n + 1 => by
    have ih : G_X8_freeze_34 p l e s m args below meth c D cy B L K P J res (f_X8_freeze_34 K P  n)  := b_X8_freeze_34 C0 hr hWT  n
    intro I a0 x2 H locs ls ka0 rx2 hF hl hf
    rw [f_X8_freeze_34] at hf
    refine lv_iload_n C0.1 C0.2.1 dX8_freeze_34 rfl (lv_at hl 1 rfl) ?_
    refine fl_bipush C0 dX8_freeze_35 (by decide) ?_
    refine fl_icmp_ge (tgt := 53) C0 rx2 (rgk 48 rfl) dX8_freeze_37 (by decide) (fun c6 => ?_) (fun c6 => ?_)
    · replace hf := (if_pos c6).symm.trans hf
      cases hf
      exact fl_vret C0 hF hr rfl dX8_freeze_53
    · replace hf := (if_neg c6).symm.trans hf
      refine lv_aload_n C0.1 C0.2.1 dX8_freeze_40 rfl (lv_at hl 0 rfl) ?_
      refine fl_getr (k := 24) (t := 293) ck_9 C0 hF ka0 rfl (wt_at (k := 24) (t := 293) hWT ka0 rfl) rfl ⟨rfl, rfl⟩ aw_898 dX8_freeze_41 ?_
      refine lv_iload_n C0.1 C0.2.1 dX8_freeze_44 rfl (lv_at hl 1 rfl) ?_
      refine fl_iconst C0 dX8_freeze_45 ?_
      obtain ⟨hc, hf⟩ := ck_f hf
      refine fl_zast (n := 48) C0 hF (wt_at (k := 24) (t := 293) hWT ka0 rfl) rx2 (Or.inl rfl) hc dX8_freeze_46 (fun H locs hF7 => ?_)
      obtain ⟨I7, eI7, hf⟩ := bnd_f hf
      rw [eI7] at hF7
      refine fl_iinc (lv' := [(2, iv (wr (x2 + 1))), (0, .ref a0)]) C0 dX8_freeze_47 hl (k := 1) rfl (by decide) rfl (fun ls hl => ?_)
      refine fl_goto (tgt := 34) C0 dX8_freeze_50 (by decide) ?_
      exact ih I7 a0 ((wr (x2 + 1))) _ _ _ ka0 ((rg_wr _)) hF7 (lv_sub hl [1, 0] rfl) hf
set_option maxRecDepth 100000 in
set_option maxHeartbeats 4000000 in
theorem b_X8_freeze_17 {p : Program} {l : Launch} {e : Env} {s : State} {m : MethodId} {args : Array Value} {below : List Frame} {meth : Method} {c : Code} {D : va_G} {cy : Nat → ClassId} {B : Nat} {L : List Nat} {K : KT} {P : PT} {J : IT} {res : IT} (C0 : FC D cy B p s m meth c "RejudgeHallModel" cX8_freeze 3) (hr : meth.sig.returnType = none) (hWT : WT K P) : G_X8_freeze_17 p l e s m args below meth c D cy B L K P J res (f_X8_freeze_17 K P ) := by
  intro I a0 x1 t0 b1 H locs ls ka0 rx1 rt0 kb1 hF hl hf
  unfold f_X8_freeze_17 at hf
  refine fl_puti (k := 38) ck_9 C0 hF kb1 rfl rt0 ⟨rfl, rfl, rfl⟩ aw_912 dX8_freeze_17 (fun H locs hF3 => ?_)
  obtain ⟨I3, eI3, hf⟩ := bnd_f hf
  rw [eI3] at hF3
  refine lv_aload_n C0.1 C0.2.1 dX8_freeze_20 rfl (lv_at hl 0 rfl) ?_
  refine fl_geti (k := 38) ck_9 C0 hF3 ka0 rfl ⟨rfl, rfl⟩ aw_912 dX8_freeze_21 ?_
  refine fl_if_ne (tgt := 53) C0 (hF3.rI _ _) dX8_freeze_24 (by decide) (fun c4 => ?_) (fun c4 => ?_)
  · replace hf := (if_neg c4).symm.trans hf
    cases hf
    exact fl_vret C0 hF3 hr rfl dX8_freeze_53
  · replace hf := (if_pos c4).symm.trans hf
    refine lv_aload_n C0.1 C0.2.1 dX8_freeze_27 rfl (lv_at hl 0 rfl) ?_
    refine lv_iload_n C0.1 C0.2.1 dX8_freeze_28 rfl (lv_at hl 1 rfl) ?_
    refine fl_puti (k := 23) ck_9 C0 hF3 ka0 rfl rx1 ⟨rfl, rfl, rfl⟩ aw_897 dX8_freeze_29 (fun H locs hF5 => ?_)
    obtain ⟨I5, eI5, hf⟩ := bnd_f hf
    rw [eI5] at hF5
    refine fl_iconst C0 dX8_freeze_32 ?_
    refine lv_istore_n (lv' := [(2, iv 0), (0, .ref a0), (1, iv x1)]) C0.1 C0.2.1 dX8_freeze_33 rfl hl (by decide) rfl (fun ls hl => ?_)
    exact b_X8_freeze_34 C0 hr hWT  FU I5 a0 0 _ _ _ ka0 ((rgk 0 rfl)) hF5 (lv_sub hl [1, 0] rfl) hf
theorem pm_X8_freeze : plainM yX8_freeze 1 := by decide +kernel
set_option maxRecDepth 100000 in
set_option maxHeartbeats 4000000 in
theorem c_X8_freeze (l : Launch) (D : va_G) (cy : Nat → ClassId) (B : Nat) (L : List Nat) (K : KT) (P : PT) (J : IT) (hWT : WT K P) (I : IT) (a0 : Nat) (x1 : Int) (ka0 : K a0 = 9) (rx1 : rg x1) {I' : IT} (hf : f_X8_freeze K P I a0 x1 = some I') : Met l yX8_freeze [.code yX8_freeze cX8_freeze 3 none] rm_X8_freeze (va_Pc [.ref a0, iv x1] (FW D cy B L K P J I)) (QV D cy B L K P J I') 0 0 (fun q => B ≤ q) := by
  refine fl_body (own := "RejudgeHallModel") [.ref a0, iv x1] (by decide) rfl (Nat.le_of_ble_eq_true rfl) ?_
  intro p e s m args below meth c ls C0 hr hF hl
  have hl : lv_has ls 3 [(0, .ref a0), (1, iv x1)] := hl
  unfold f_X8_freeze at hf
  refine lv_aload_n C0.1 C0.2.1 dX8_freeze_0 rfl (lv_at hl 0 rfl) ?_
  refine lv_iload_n C0.1 C0.2.1 dX8_freeze_1 rfl (lv_at hl 1 rfl) ?_
  refine fl_iconst C0 dX8_freeze_2 ?_
  refine fl_sipush C0 dX8_freeze_3 (by decide) ?_
  obtain ⟨r1, hq1, hf⟩ := bp_f hf
  refine fl_ri hF (fl_runSG (As := [iv x1, iv (-1), iv 9999]) (rest := [.ref a0]) C0 hF hl.1 (c_X8_isIn l D cy B L K P J hWT I x1 ((-1)) 9999 rx1 ((rgk (-1) rfl)) ((rgk 9999 rfl)) hq1) aw_1000 aw_1001 aw_73 aw_1002 rfl pm_X8_isIn rfl rfl ⟨Nat.le_of_ble_eq_true rfl, Nat.le_of_ble_eq_true rfl⟩ rfl (Nat.le_of_ble_eq_true rfl) dX8_freeze_6 ⟨Nat.le_of_ble_eq_true rfl, Nat.le_of_ble_eq_true rfl⟩) (fun H locs hF1 rr1 => ?_)
  refine fl_if_eq (tgt := 16) C0 rr1 dX8_freeze_9 (by decide) (fun c2 => ?_) (fun c2 => ?_)
  · replace hf := (if_pos c2).symm.trans hf
    refine fl_iconst C0 dX8_freeze_16 ?_
    exact b_X8_freeze_17 C0 hr hWT  I a0 x1 1 a0 _ _ _ ka0 rx1 ((rgk 1 rfl)) ka0 hF1 (lv_sub hl [0, 1] rfl) hf
  · replace hf := (if_neg c2).symm.trans hf
    refine fl_iconst C0 dX8_freeze_12 ?_
    refine fl_goto (tgt := 17) C0 dX8_freeze_13 (by decide) ?_
    exact b_X8_freeze_17 C0 hr hWT  I a0 x1 0 a0 _ _ _ ka0 rx1 ((rgk 0 rfl)) ka0 hF1 (lv_sub hl [0, 1] rfl) hf
-- RejudgeHallModel.toReveal(I)I
abbrev rm_X8_toReveal : Room := { frames := 1, cells := 0, slots := 0, locals := 21 }
def f_X8_toReveal_96 (K : KT) (P : PT) (k4 : Nat → Int → Int → Int → Option (Int)) (I : IT) (a0 : Nat) (x1 : Int) (x3 : Int) (t0 : Int) : Option (Int) := k4 a0 x1 t0 ((wr (x3 + 1)))
def f_X8_toReveal_86 (K : KT) (P : PT) (k4 : Nat → Int → Int → Int → Option (Int)) (I : IT) (a0 : Nat) (x1 : Int) (x3 : Int) : Option (Int) := ck (0 ≤ x3 ∧ x3 < 60) <| f_X8_toReveal_96 K P k4 I a0 x1 x3 ((I ((P a0 15)) (x3 : Int).toNat))
def f_X8_toReveal_95 (K : KT) (P : PT) (k4 : Nat → Int → Int → Int → Option (Int)) (I : IT) (a0 : Nat) (x1 : Int) (x2 : Int) (x3 : Int) : Option (Int) := f_X8_toReveal_96 K P k4 I a0 x1 x3 x2
def f_X8_toReveal_64 (K : KT) (P : PT) (k4 : Nat → Int → Int → Int → Option (Int)) (I : IT) (a0 : Nat) (x1 : Int) (x2 : Int) (x3 : Int) (t0 : Int) : Option (Int) := if t0 = 0 then (f_X8_toReveal_95 K P k4 I a0 x1 x2 x3) else (if x2 = (-1) then (f_X8_toReveal_86 K P k4 I a0 x1 x3) else (ck (0 ≤ x3 ∧ x3 < 60) <| if x2 ≤ (I ((P a0 15)) (x3 : Int).toNat) then (f_X8_toReveal_95 K P k4 I a0 x1 x2 x3) else (f_X8_toReveal_86 K P k4 I a0 x1 x3)))
def f_X8_toReveal_63 (K : KT) (P : PT) (k4 : Nat → Int → Int → Int → Option (Int)) (I : IT) (a0 : Nat) (x1 : Int) (x2 : Int) (x3 : Int) : Option (Int) := f_X8_toReveal_64 K P k4 I a0 x1 x2 x3 0
def f_X8_toReveal_4 (K : KT) (P : PT) (I : IT) : Nat → Nat → Int → Int → Int → Option (Int)
  | 0, _, _, _, _ => none
  | n + 1, a0, x1, x2, x3 => if (I a0 13) ≤ x3 then (some x2) else (ck (0 ≤ x3 ∧ x3 < 60) <| if (I ((P a0 14)) (x3 : Int).toNat) = x1 then (bp (f_X8_isLate K P I a0 x3) fun r3 => if r3 = 0 then (f_X8_toReveal_63 K P ((f_X8_toReveal_4 K P  I n)) I a0 x1 x2 x3) else (ck (0 ≤ x3 ∧ x3 < 60) <| if (I ((P a0 17)) (x3 : Int).toNat) = (-1) then (f_X8_toReveal_63 K P ((f_X8_toReveal_4 K P  I n)) I a0 x1 x2 x3) else (ck (0 ≤ x3 ∧ x3 < 60) <| ck (0 ≤ (wr ((wr (6 * x1)) + (I ((P a0 15)) (x3 : Int).toNat))) ∧ (wr ((wr (6 * x1)) + (I ((P a0 15)) (x3 : Int).toNat))) < 48) <| if (I ((P a0 24)) ((wr ((wr (6 * x1)) + (I ((P a0 15)) (x3 : Int).toNat))) : Int).toNat) = 0 then (f_X8_toReveal_64 K P ((f_X8_toReveal_4 K P  I n)) I a0 x1 x2 x3 1) else (f_X8_toReveal_63 K P ((f_X8_toReveal_4 K P  I n)) I a0 x1 x2 x3)))) else (f_X8_toReveal_63 K P ((f_X8_toReveal_4 K P  I n)) I a0 x1 x2 x3))
def f_X8_toReveal (K : KT) (P : PT) (I : IT) (a0 : Nat) (x1 : Int) : Option (Int) := f_X8_toReveal_4 K P  I FU a0 x1 ((-1)) 0
abbrev G_X8_toReveal_96 (p : Program) (l : Launch) (e : Env) (s : State) (m : MethodId) (args : Array Value) (below : List Frame) (meth : Method) (c : Code) (D : va_G) (cy : Nat → ClassId) (B : Nat) (L : List Nat) (K : KT) (P : PT) (J : IT) (res : Int) (I : IT) (f : Nat → Int → Int → Int → Option (Int)) : Prop := ∀ (a0 : Nat) (x1 : Int) (x3 : Int) (t0 : Int) (H : Heap) (locs : List Loc) (ls : Array Slot), K a0 = 9 → rg x1 → rg x3 → rg t0 → FS D cy B L K P J s.heap I H locs → lv_has ls 5 [(0, .ref a0), (1, iv x1), (3, iv x3)] → f a0 x1 x3 t0 = some res → W p l e rm_X8_toReveal s m args below meth c H locs 0 0 (MQ below (QI D cy B L K P J (res, I)) args s 0 0 (fun q => B ≤ q)) (F0 m 96 ls [iv t0])
abbrev G_X8_toReveal_86 (p : Program) (l : Launch) (e : Env) (s : State) (m : MethodId) (args : Array Value) (below : List Frame) (meth : Method) (c : Code) (D : va_G) (cy : Nat → ClassId) (B : Nat) (L : List Nat) (K : KT) (P : PT) (J : IT) (res : Int) (I : IT) (f : Nat → Int → Int → Option (Int)) : Prop := ∀ (a0 : Nat) (x1 : Int) (x3 : Int) (H : Heap) (locs : List Loc) (ls : Array Slot), K a0 = 9 → rg x1 → rg x3 → FS D cy B L K P J s.heap I H locs → lv_has ls 5 [(0, .ref a0), (1, iv x1), (3, iv x3)] → f a0 x1 x3 = some res → W p l e rm_X8_toReveal s m args below meth c H locs 0 0 (MQ below (QI D cy B L K P J (res, I)) args s 0 0 (fun q => B ≤ q)) (F0 m 86 ls [])
abbrev G_X8_toReveal_95 (p : Program) (l : Launch) (e : Env) (s : State) (m : MethodId) (args : Array Value) (below : List Frame) (meth : Method) (c : Code) (D : va_G) (cy : Nat → ClassId) (B : Nat) (L : List Nat) (K : KT) (P : PT) (J : IT) (res : Int) (I : IT) (f : Nat → Int → Int → Int → Option (Int)) : Prop := ∀ (a0 : Nat) (x1 : Int) (x2 : Int) (x3 : Int) (H : Heap) (locs : List Loc) (ls : Array Slot), K a0 = 9 → rg x1 → rg x2 → rg x3 → FS D cy B L K P J s.heap I H locs → lv_has ls 5 [(0, .ref a0), (1, iv x1), (2, iv x2), (3, iv x3)] → f a0 x1 x2 x3 = some res → W p l e rm_X8_toReveal s m args below meth c H locs 0 0 (MQ below (QI D cy B L K P J (res, I)) args s 0 0 (fun q => B ≤ q)) (F0 m 95 ls [])
abbrev G_X8_toReveal_64 (p : Program) (l : Launch) (e : Env) (s : State) (m : MethodId) (args : Array Value) (below : List Frame) (meth : Method) (c : Code) (D : va_G) (cy : Nat → ClassId) (B : Nat) (L : List Nat) (K : KT) (P : PT) (J : IT) (res : Int) (I : IT) (f : Nat → Int → Int → Int → Int → Option (Int)) : Prop := ∀ (a0 : Nat) (x1 : Int) (x2 : Int) (x3 : Int) (t0 : Int) (H : Heap) (locs : List Loc) (ls : Array Slot), K a0 = 9 → rg x1 → rg x2 → rg x3 → rg t0 → FS D cy B L K P J s.heap I H locs → lv_has ls 5 [(0, .ref a0), (1, iv x1), (2, iv x2), (3, iv x3)] → f a0 x1 x2 x3 t0 = some res → W p l e rm_X8_toReveal s m args below meth c H locs 0 0 (MQ below (QI D cy B L K P J (res, I)) args s 0 0 (fun q => B ≤ q)) (F0 m 64 ls [iv t0])
abbrev G_X8_toReveal_63 (p : Program) (l : Launch) (e : Env) (s : State) (m : MethodId) (args : Array Value) (below : List Frame) (meth : Method) (c : Code) (D : va_G) (cy : Nat → ClassId) (B : Nat) (L : List Nat) (K : KT) (P : PT) (J : IT) (res : Int) (I : IT) (f : Nat → Int → Int → Int → Option (Int)) : Prop := ∀ (a0 : Nat) (x1 : Int) (x2 : Int) (x3 : Int) (H : Heap) (locs : List Loc) (ls : Array Slot), K a0 = 9 → rg x1 → rg x2 → rg x3 → FS D cy B L K P J s.heap I H locs → lv_has ls 5 [(0, .ref a0), (1, iv x1), (2, iv x2), (3, iv x3)] → f a0 x1 x2 x3 = some res → W p l e rm_X8_toReveal s m args below meth c H locs 0 0 (MQ below (QI D cy B L K P J (res, I)) args s 0 0 (fun q => B ≤ q)) (F0 m 63 ls [])
abbrev G_X8_toReveal_4 (p : Program) (l : Launch) (e : Env) (s : State) (m : MethodId) (args : Array Value) (below : List Frame) (meth : Method) (c : Code) (D : va_G) (cy : Nat → ClassId) (B : Nat) (L : List Nat) (K : KT) (P : PT) (J : IT) (res : Int) (I : IT) (f : Nat → Int → Int → Int → Option (Int)) : Prop := ∀ (a0 : Nat) (x1 : Int) (x2 : Int) (x3 : Int) (H : Heap) (locs : List Loc) (ls : Array Slot), K a0 = 9 → rg x1 → rg x2 → rg x3 → FS D cy B L K P J s.heap I H locs → lv_has ls 5 [(0, .ref a0), (1, iv x1), (2, iv x2), (3, iv x3)] → f a0 x1 x2 x3 = some res → W p l e rm_X8_toReveal s m args below meth c H locs 0 0 (MQ below (QI D cy B L K P J (res, I)) args s 0 0 (fun q => B ≤ q)) (F0 m 4 ls [])
set_option maxRecDepth 100000 in
set_option maxHeartbeats 4000000 in
theorem b_X8_toReveal_96 {p : Program} {l : Launch} {e : Env} {s : State} {m : MethodId} {args : Array Value} {below : List Frame} {meth : Method} {c : Code} {D : va_G} {cy : Nat → ClassId} {B : Nat} {L : List Nat} {K : KT} {P : PT} {J : IT} {res : Int} {I : IT} (C0 : FC D cy B p s m meth c "RejudgeHallModel" cX8_toReveal 5) (hr : meth.sig.returnType = (some .int)) (hWT : WT K P) {k4 : Nat → Int → Int → Int → Option (Int)} (hk4 : G_X8_toReveal_4 p l e s m args below meth c D cy B L K P J res I k4) : G_X8_toReveal_96 p l e s m args below meth c D cy B L K P J res I (f_X8_toReveal_96 K P k4 I) := by
  intro a0 x1 x3 t0 H locs ls ka0 rx1 rx3 rt0 hF hl hf
  unfold f_X8_toReveal_96 at hf
  refine lv_istore_n (lv' := [(2, iv t0), (0, .ref a0), (1, iv x1), (3, iv x3)]) C0.1 C0.2.1 dX8_toReveal_96 rfl hl (by decide) rfl (fun ls hl => ?_)
  refine fl_iinc (lv' := [(3, iv (wr (x3 + 1))), (2, iv t0), (0, .ref a0), (1, iv x1)]) C0 dX8_toReveal_97 hl (k := 3) rfl (by decide) rfl (fun ls hl => ?_)
  refine fl_goto (tgt := 4) C0 dX8_toReveal_100 (by decide) ?_
  exact hk4  a0 x1 t0 ((wr (x3 + 1))) _ _ _ ka0 rx1 rt0 ((rg_wr _)) hF (lv_sub hl [2, 3, 1, 0] rfl) hf
set_option maxRecDepth 100000 in
set_option maxHeartbeats 4000000 in
theorem b_X8_toReveal_86 {p : Program} {l : Launch} {e : Env} {s : State} {m : MethodId} {args : Array Value} {below : List Frame} {meth : Method} {c : Code} {D : va_G} {cy : Nat → ClassId} {B : Nat} {L : List Nat} {K : KT} {P : PT} {J : IT} {res : Int} {I : IT} (C0 : FC D cy B p s m meth c "RejudgeHallModel" cX8_toReveal 5) (hr : meth.sig.returnType = (some .int)) (hWT : WT K P) {k4 : Nat → Int → Int → Int → Option (Int)} (hk4 : G_X8_toReveal_4 p l e s m args below meth c D cy B L K P J res I k4) : G_X8_toReveal_86 p l e s m args below meth c D cy B L K P J res I (f_X8_toReveal_86 K P k4 I) := by
  intro a0 x1 x3 H locs ls ka0 rx1 rx3 hF hl hf
  unfold f_X8_toReveal_86 at hf
  refine lv_aload_n C0.1 C0.2.1 dX8_toReveal_86 rfl (lv_at hl 0 rfl) ?_
  refine fl_getr (k := 15) (t := 340) ck_9 C0 hF ka0 rfl (wt_at (k := 15) (t := 340) hWT ka0 rfl) rfl ⟨rfl, rfl⟩ aw_889 dX8_toReveal_87 ?_
  refine lv_iload_n C0.1 C0.2.1 dX8_toReveal_90 rfl (lv_at hl 2 rfl) ?_
  obtain ⟨hc, hf⟩ := ck_f hf
  refine fl_iald (n := 60) C0 hF (wt_at (k := 15) (t := 340) hWT ka0 rfl) rx3 hc dX8_toReveal_91 ?_
  refine fl_goto (tgt := 96) C0 dX8_toReveal_92 (by decide) ?_
  exact b_X8_toReveal_96 C0 hr hWT hk4  a0 x1 x3 ((I ((P a0 15)) (x3 : Int).toNat)) _ _ _ ka0 rx1 rx3 ((hF.rI _ _)) hF (lv_sub hl [0, 1, 2] rfl) hf
set_option maxRecDepth 100000 in
set_option maxHeartbeats 4000000 in
theorem b_X8_toReveal_95 {p : Program} {l : Launch} {e : Env} {s : State} {m : MethodId} {args : Array Value} {below : List Frame} {meth : Method} {c : Code} {D : va_G} {cy : Nat → ClassId} {B : Nat} {L : List Nat} {K : KT} {P : PT} {J : IT} {res : Int} {I : IT} (C0 : FC D cy B p s m meth c "RejudgeHallModel" cX8_toReveal 5) (hr : meth.sig.returnType = (some .int)) (hWT : WT K P) {k4 : Nat → Int → Int → Int → Option (Int)} (hk4 : G_X8_toReveal_4 p l e s m args below meth c D cy B L K P J res I k4) : G_X8_toReveal_95 p l e s m args below meth c D cy B L K P J res I (f_X8_toReveal_95 K P k4 I) := by
  intro a0 x1 x2 x3 H locs ls ka0 rx1 rx2 rx3 hF hl hf
  unfold f_X8_toReveal_95 at hf
  refine lv_iload_n C0.1 C0.2.1 dX8_toReveal_95 rfl (lv_at hl 2 rfl) ?_
  exact b_X8_toReveal_96 C0 hr hWT hk4  a0 x1 x3 x2 _ _ _ ka0 rx1 rx3 rx2 hF (lv_sub hl [0, 1, 3] rfl) hf
set_option maxRecDepth 100000 in
set_option maxHeartbeats 4000000 in
theorem b_X8_toReveal_64 {p : Program} {l : Launch} {e : Env} {s : State} {m : MethodId} {args : Array Value} {below : List Frame} {meth : Method} {c : Code} {D : va_G} {cy : Nat → ClassId} {B : Nat} {L : List Nat} {K : KT} {P : PT} {J : IT} {res : Int} {I : IT} (C0 : FC D cy B p s m meth c "RejudgeHallModel" cX8_toReveal 5) (hr : meth.sig.returnType = (some .int)) (hWT : WT K P) {k4 : Nat → Int → Int → Int → Option (Int)} (hk4 : G_X8_toReveal_4 p l e s m args below meth c D cy B L K P J res I k4) : G_X8_toReveal_64 p l e s m args below meth c D cy B L K P J res I (f_X8_toReveal_64 K P k4 I) := by
  intro a0 x1 x2 x3 t0 H locs ls ka0 rx1 rx2 rx3 rt0 hF hl hf
  unfold f_X8_toReveal_64 at hf
  refine lv_istore (lv' := [(4, iv t0), (0, .ref a0), (1, iv x1), (2, iv x2), (3, iv x3)]) C0.1 C0.2.1 dX8_toReveal_64 hl (by decide) rfl (fun ls hl => ?_)
  refine lv_iload C0.1 C0.2.1 dX8_toReveal_66 (lv_at hl 0 rfl) ?_
  refine fl_if_eq (tgt := 95) C0 rt0 dX8_toReveal_68 (by decide) (fun c7 => ?_) (fun c7 => ?_)
  · replace hf := (if_pos c7).symm.trans hf
    exact b_X8_toReveal_95 C0 hr hWT hk4  a0 x1 x2 x3 _ _ _ ka0 rx1 rx2 rx3 hF (lv_sub hl [1, 2, 3, 4] rfl) hf
  · replace hf := (if_neg c7).symm.trans hf
    refine lv_iload_n C0.1 C0.2.1 dX8_toReveal_71 rfl (lv_at hl 3 rfl) ?_
    refine fl_iconst C0 dX8_toReveal_72 ?_
    refine fl_icmp_eq (tgt := 86) C0 rx2 (rgk (-1) rfl) dX8_toReveal_73 (by decide) (fun c8 => ?_) (fun c8 => ?_)
    · replace hf := (if_pos c8).symm.trans hf
      exact b_X8_toReveal_86 C0 hr hWT hk4  a0 x1 x3 _ _ _ ka0 rx1 rx3 hF (lv_sub hl [1, 2, 4] rfl) hf
    · replace hf := (if_neg c8).symm.trans hf
      refine lv_aload_n C0.1 C0.2.1 dX8_toReveal_76 rfl (lv_at hl 1 rfl) ?_
      refine fl_getr (k := 15) (t := 340) ck_9 C0 hF ka0 rfl (wt_at (k := 15) (t := 340) hWT ka0 rfl) rfl ⟨rfl, rfl⟩ aw_889 dX8_toReveal_77 ?_
      refine lv_iload_n C0.1 C0.2.1 dX8_toReveal_80 rfl (lv_at hl 4 rfl) ?_
      obtain ⟨hc, hf⟩ := ck_f hf
      refine fl_iald (n := 60) C0 hF (wt_at (k := 15) (t := 340) hWT ka0 rfl) rx3 hc dX8_toReveal_81 ?_
      refine lv_iload_n C0.1 C0.2.1 dX8_toReveal_82 rfl (lv_at hl 3 rfl) ?_
      refine fl_icmp_ge (tgt := 95) C0 (hF.rI _ _) rx2 dX8_toReveal_83 (by decide) (fun c9 => ?_) (fun c9 => ?_)
      · replace hf := (if_pos c9).symm.trans hf
        exact b_X8_toReveal_95 C0 hr hWT hk4  a0 x1 x2 x3 _ _ _ ka0 rx1 rx2 rx3 hF (lv_sub hl [1, 2, 3, 4] rfl) hf
      · replace hf := (if_neg c9).symm.trans hf
        exact b_X8_toReveal_86 C0 hr hWT hk4  a0 x1 x3 _ _ _ ka0 rx1 rx3 hF (lv_sub hl [1, 2, 4] rfl) hf
set_option maxRecDepth 100000 in
set_option maxHeartbeats 4000000 in
theorem b_X8_toReveal_63 {p : Program} {l : Launch} {e : Env} {s : State} {m : MethodId} {args : Array Value} {below : List Frame} {meth : Method} {c : Code} {D : va_G} {cy : Nat → ClassId} {B : Nat} {L : List Nat} {K : KT} {P : PT} {J : IT} {res : Int} {I : IT} (C0 : FC D cy B p s m meth c "RejudgeHallModel" cX8_toReveal 5) (hr : meth.sig.returnType = (some .int)) (hWT : WT K P) {k4 : Nat → Int → Int → Int → Option (Int)} (hk4 : G_X8_toReveal_4 p l e s m args below meth c D cy B L K P J res I k4) : G_X8_toReveal_63 p l e s m args below meth c D cy B L K P J res I (f_X8_toReveal_63 K P k4 I) := by
  intro a0 x1 x2 x3 H locs ls ka0 rx1 rx2 rx3 hF hl hf
  unfold f_X8_toReveal_63 at hf
  refine fl_iconst C0 dX8_toReveal_63 ?_
  exact b_X8_toReveal_64 C0 hr hWT hk4  a0 x1 x2 x3 0 _ _ _ ka0 rx1 rx2 rx3 ((rgk 0 rfl)) hF (lv_sub hl [0, 1, 2, 3] rfl) hf
set_option maxRecDepth 100000 in
set_option maxHeartbeats 4000000 in
theorem b_X8_toReveal_4 {p : Program} {l : Launch} {e : Env} {s : State} {m : MethodId} {args : Array Value} {below : List Frame} {meth : Method} {c : Code} {D : va_G} {cy : Nat → ClassId} {B : Nat} {L : List Nat} {K : KT} {P : PT} {J : IT} {res : Int} {I : IT} (C0 : FC D cy B p s m meth c "RejudgeHallModel" cX8_toReveal 5) (hr : meth.sig.returnType = (some .int)) (hWT : WT K P) : ∀ n : Nat, G_X8_toReveal_4 p l e s m args below meth c D cy B L K P J res I (f_X8_toReveal_4 K P  I n)
  | 0 => by
    intro a0 x1 x2 x3 H locs ls ka0 rx1 rx2 rx3 hF hl hf
    cases hf
  | n + 1 => by
    have ih : G_X8_toReveal_4 p l e s m args below meth c D cy B L K P J res I (f_X8_toReveal_4 K P  I n)  := b_X8_toReveal_4 C0 hr hWT  n
    intro a0 x1 x2 x3 H locs ls ka0 rx1 rx2 rx3 hF hl hf
    rw [f_X8_toReveal_4] at hf
    refine lv_iload_n C0.1 C0.2.1 dX8_toReveal_4 rfl (lv_at hl 3 rfl) ?_
    refine lv_aload_n C0.1 C0.2.1 dX8_toReveal_5 rfl (lv_at hl 0 rfl) ?_
    refine fl_geti (k := 13) ck_9 C0 hF ka0 rfl ⟨rfl, rfl⟩ aw_887 dX8_toReveal_6 ?_
    refine fl_icmp_ge (tgt := 103) C0 rx3 (hF.rI _ _) dX8_toReveal_9 (by decide) (fun c1 => ?_) (fun c1 => ?_)
    · replace hf := (if_pos c1).symm.trans hf
      refine lv_iload_n C0.1 C0.2.1 dX8_toReveal_103 rfl (lv_at hl 2 rfl) ?_
      cases hf
      exact fl_iret C0 hF hr rx2 rfl dX8_toReveal_104
    · replace hf := (if_neg c1).symm.trans hf
      refine lv_aload_n C0.1 C0.2.1 dX8_toReveal_12 rfl (lv_at hl 0 rfl) ?_
      refine fl_getr (k := 14) (t := 340) ck_9 C0 hF ka0 rfl (wt_at (k := 14) (t := 340) hWT ka0 rfl) rfl ⟨rfl, rfl⟩ aw_888 dX8_toReveal_13 ?_
      refine lv_iload_n C0.1 C0.2.1 dX8_toReveal_16 rfl (lv_at hl 3 rfl) ?_
      obtain ⟨hc, hf⟩ := ck_f hf
      refine fl_iald (n := 60) C0 hF (wt_at (k := 14) (t := 340) hWT ka0 rfl) rx3 hc dX8_toReveal_17 ?_
      refine lv_iload_n C0.1 C0.2.1 dX8_toReveal_18 rfl (lv_at hl 1 rfl) ?_
      refine fl_icmp_ne (tgt := 63) C0 (hF.rI _ _) rx1 dX8_toReveal_19 (by decide) (fun c2 => ?_) (fun c2 => ?_)
      · replace hf := (if_neg c2).symm.trans hf
        exact b_X8_toReveal_63 C0 hr hWT ih  a0 x1 x2 x3 _ _ _ ka0 rx1 rx2 rx3 hF (lv_sub hl [0, 1, 2, 3] rfl) hf
      · replace hf := (if_pos c2).symm.trans hf
        refine lv_aload_n C0.1 C0.2.1 dX8_toReveal_22 rfl (lv_at hl 0 rfl) ?_
        refine lv_iload_n C0.1 C0.2.1 dX8_toReveal_23 rfl (lv_at hl 3 rfl) ?_
        obtain ⟨r3, hq3, hf⟩ := bp_f hf
        refine fl_ri hF (fl_runV (As := [iv x3]) (rest := []) C0 hF hl.1 ck_9 ka0 rfl (c_X8_isLate l D cy B L K P J hWT I a0 x3 ka0 rx3 hq3) aw_1139 aw_1141 aw_58 aw_73 aw_1142 rfl rfl pm_X8_isLate rfl rfl ⟨Nat.le_of_ble_eq_true rfl, Nat.le_of_ble_eq_true rfl⟩ rfl (Nat.le_of_ble_eq_true rfl) dX8_toReveal_24 ⟨Nat.le_of_ble_eq_true rfl, Nat.le_of_ble_eq_true rfl⟩) (fun H locs hF3 rr3 => ?_)
        refine fl_if_eq (tgt := 63) C0 rr3 dX8_toReveal_27 (by decide) (fun c4 => ?_) (fun c4 => ?_)
        · replace hf := (if_pos c4).symm.trans hf
          exact b_X8_toReveal_63 C0 hr hWT ih  a0 x1 x2 x3 _ _ _ ka0 rx1 rx2 rx3 hF3 (lv_sub hl [0, 1, 2, 3] rfl) hf
        · replace hf := (if_neg c4).symm.trans hf
          refine lv_aload_n C0.1 C0.2.1 dX8_toReveal_30 rfl (lv_at hl 0 rfl) ?_
          refine fl_getr (k := 17) (t := 340) ck_9 C0 hF3 ka0 rfl (wt_at (k := 17) (t := 340) hWT ka0 rfl) rfl ⟨rfl, rfl⟩ aw_891 dX8_toReveal_31 ?_
          refine lv_iload_n C0.1 C0.2.1 dX8_toReveal_34 rfl (lv_at hl 3 rfl) ?_
          obtain ⟨hc, hf⟩ := ck_f hf
          refine fl_iald (n := 60) C0 hF3 (wt_at (k := 17) (t := 340) hWT ka0 rfl) rx3 hc dX8_toReveal_35 ?_
          refine fl_iconst C0 dX8_toReveal_36 ?_
          refine fl_icmp_eq (tgt := 63) C0 (hF3.rI _ _) (rgk (-1) rfl) dX8_toReveal_37 (by decide) (fun c5 => ?_) (fun c5 => ?_)
          · replace hf := (if_pos c5).symm.trans hf
            exact b_X8_toReveal_63 C0 hr hWT ih  a0 x1 x2 x3 _ _ _ ka0 rx1 rx2 rx3 hF3 (lv_sub hl [0, 1, 2, 3] rfl) hf
          · replace hf := (if_neg c5).symm.trans hf
            refine lv_aload_n C0.1 C0.2.1 dX8_toReveal_40 rfl (lv_at hl 0 rfl) ?_
            refine fl_getr (k := 24) (t := 293) ck_9 C0 hF3 ka0 rfl (wt_at (k := 24) (t := 293) hWT ka0 rfl) rfl ⟨rfl, rfl⟩ aw_898 dX8_toReveal_41 ?_
            refine fl_bipush C0 dX8_toReveal_44 (by decide) ?_
            refine lv_iload_n C0.1 C0.2.1 dX8_toReveal_46 rfl (lv_at hl 1 rfl) ?_
            refine fl_imul C0 dX8_toReveal_47 ?_
            refine lv_aload_n C0.1 C0.2.1 dX8_toReveal_48 rfl (lv_at hl 0 rfl) ?_
            refine fl_getr (k := 15) (t := 340) ck_9 C0 hF3 ka0 rfl (wt_at (k := 15) (t := 340) hWT ka0 rfl) rfl ⟨rfl, rfl⟩ aw_889 dX8_toReveal_49 ?_
            refine lv_iload_n C0.1 C0.2.1 dX8_toReveal_52 rfl (lv_at hl 3 rfl) ?_
            obtain ⟨hc, hf⟩ := ck_f hf
            refine fl_iald (n := 60) C0 hF3 (wt_at (k := 15) (t := 340) hWT ka0 rfl) rx3 hc dX8_toReveal_53 ?_
            refine fl_iadd C0 dX8_toReveal_54 ?_
            obtain ⟨hc, hf⟩ := ck_f hf
            refine fl_zald (n := 48) C0 hF3 (wt_at (k := 24) (t := 293) hWT ka0 rfl) (rg_wr _) hc dX8_toReveal_55 ?_
            refine fl_if_ne (tgt := 63) C0 (hF3.rI _ _) dX8_toReveal_56 (by decide) (fun c6 => ?_) (fun c6 => ?_)
            · replace hf := (if_neg c6).symm.trans hf
              exact b_X8_toReveal_63 C0 hr hWT ih  a0 x1 x2 x3 _ _ _ ka0 rx1 rx2 rx3 hF3 (lv_sub hl [0, 1, 2, 3] rfl) hf
            · replace hf := (if_pos c6).symm.trans hf
              refine fl_iconst C0 dX8_toReveal_59 ?_
              refine fl_goto (tgt := 64) C0 dX8_toReveal_60 (by decide) ?_
              exact b_X8_toReveal_64 C0 hr hWT ih  a0 x1 x2 x3 1 _ _ _ ka0 rx1 rx2 rx3 ((rgk 1 rfl)) hF3 (lv_sub hl [0, 1, 2, 3] rfl) hf
theorem pm_X8_toReveal : plainM yX8_toReveal 1 := by decide +kernel
set_option maxRecDepth 100000 in
set_option maxHeartbeats 4000000 in
theorem c_X8_toReveal (l : Launch) (D : va_G) (cy : Nat → ClassId) (B : Nat) (L : List Nat) (K : KT) (P : PT) (J : IT) (hWT : WT K P) (I : IT) (a0 : Nat) (x1 : Int) (ka0 : K a0 = 9) (rx1 : rg x1) {r : Int} (hf : f_X8_toReveal K P I a0 x1 = some r) : Met l yX8_toReveal [.code yX8_toReveal cX8_toReveal 5 (some .int)] rm_X8_toReveal (va_Pc [.ref a0, iv x1] (FW D cy B L K P J I)) (QI D cy B L K P J (r, I)) 0 0 (fun q => B ≤ q) := by
  refine fl_body (own := "RejudgeHallModel") [.ref a0, iv x1] (by decide) rfl (Nat.le_of_ble_eq_true rfl) ?_
  intro p e s m args below meth c ls C0 hr hF hl
  have hl : lv_has ls 5 [(0, .ref a0), (1, iv x1)] := hl
  unfold f_X8_toReveal at hf
  refine fl_iconst C0 dX8_toReveal_0 ?_
  refine lv_istore_n (lv' := [(2, iv (-1)), (0, .ref a0), (1, iv x1)]) C0.1 C0.2.1 dX8_toReveal_1 rfl hl (by decide) rfl (fun ls hl => ?_)
  refine fl_iconst C0 dX8_toReveal_2 ?_
  refine lv_istore_n (lv' := [(3, iv 0), (2, iv (-1)), (0, .ref a0), (1, iv x1)]) C0.1 C0.2.1 dX8_toReveal_3 rfl hl (by decide) rfl (fun ls hl => ?_)
  exact b_X8_toReveal_4 C0 hr hWT  FU  a0 x1 ((-1)) 0 _ _ _ ka0 rx1 ((rgk (-1) rfl)) ((rgk 0 rfl)) hF (lv_sub hl [2, 3, 1, 0] rfl) hf
-- RejudgeHallModel.reveal()I
abbrev rm_X8_reveal : Room := { frames := 3, cells := 0, slots := 0, locals := 70 }
def f_X8_reveal_58 (K : KT) (P : PT) (k14 : IT → Nat → Int → Int → Option (Int × IT)) (I : IT) (a0 : Nat) (x2 : Int) (t0 : Int) : Option (Int × IT) := k14 I a0 t0 ((wr (x2 + 1)))
def f_X8_reveal_53 (K : KT) (P : PT) (k14 : IT → Nat → Int → Int → Option (Int × IT)) (I : IT) (a0 : Nat) (x2 : Int) : Option (Int × IT) := f_X8_reveal_58 K P k14 I a0 x2 x2
def f_X8_reveal_57 (K : KT) (P : PT) (k14 : IT → Nat → Int → Int → Option (Int × IT)) (I : IT) (a0 : Nat) (x1 : Int) (x2 : Int) : Option (Int × IT) := f_X8_reveal_58 K P k14 I a0 x2 x1
def f_X8_reveal_34 (K : KT) (P : PT) (k14 : IT → Nat → Int → Int → Option (Int × IT)) (I : IT) (a0 : Nat) (x1 : Int) (x2 : Int) (t0 : Int) : Option (Int × IT) := if t0 = 0 then (f_X8_reveal_57 K P k14 I a0 x1 x2) else (if x1 = (-1) then (f_X8_reveal_53 K P k14 I a0 x2) else (bp (f_X8_isAhead K P I a0 x1 x2) fun r11 => if r11 = 0 then (f_X8_reveal_57 K P k14 I a0 x1 x2) else (f_X8_reveal_53 K P k14 I a0 x2)))
def f_X8_reveal_65 (K : KT) (P : PT) (I : IT) (a0 : Nat) (x1 : Int) : Option (Int × IT) := if x1 = (-1) then (some ((-1), I)) else (bp (f_X8_toReveal K P I a0 x1) fun r7 => ck (0 ≤ (wr ((wr (6 * x1)) + r7)) ∧ (wr ((wr (6 * x1)) + r7)) < 48) <| bnd (up I ((P a0 24)) ((wr ((wr (6 * x1)) + r7)) : Int).toNat 1) fun I8 => some ((wr ((wr (10 * x1)) + r7)), I8))
def f_X8_reveal_14 (K : KT) (P : PT) : Nat → IT → Nat → Int → Int → Option (Int × IT)
  | 0, _, _, _, _ => none
  | n + 1, I, a0, x1, x2 => if 8 ≤ x2 then (f_X8_reveal_65 K P  I a0 x1) else (bp (f_X8_toReveal K P I a0 x2) fun r4 => if r4 = (-1) then (f_X8_reveal_34 K P ((f_X8_reveal_14 K P  n)) I a0 x1 x2 0) else (f_X8_reveal_34 K P ((f_X8_reveal_14 K P  n)) I a0 x1 x2 1))
def f_X8_reveal (K : KT) (P : PT) (I : IT) (a0 : Nat) : Option (Int × IT) := bnd (up I a0 38 0) fun I1 => bp (f_X8_tells K P I1 a0 1) fun I2 => f_X8_reveal_14 K P  FU I2 a0 ((-1)) 0
abbrev G_X8_reveal_58 (p : Program) (l : Launch) (e : Env) (s : State) (m : MethodId) (args : Array Value) (below : List Frame) (meth : Method) (c : Code) (D : va_G) (cy : Nat → ClassId) (B : Nat) (L : List Nat) (K : KT) (P : PT) (J : IT) (res : Int × IT) (f : IT → Nat → Int → Int → Option (Int × IT)) : Prop := ∀ (I : IT) (a0 : Nat) (x2 : Int) (t0 : Int) (H : Heap) (locs : List Loc) (ls : Array Slot), K a0 = 9 → rg x2 → rg t0 → FS D cy B L K P J s.heap I H locs → lv_has ls 4 [(0, .ref a0), (2, iv x2)] → f I a0 x2 t0 = some res → W p l e rm_X8_reveal s m args below meth c H locs 0 0 (MQ below (QI D cy B L K P J res) args s 0 0 (fun q => B ≤ q)) (F0 m 58 ls [iv t0])
abbrev G_X8_reveal_53 (p : Program) (l : Launch) (e : Env) (s : State) (m : MethodId) (args : Array Value) (below : List Frame) (meth : Method) (c : Code) (D : va_G) (cy : Nat → ClassId) (B : Nat) (L : List Nat) (K : KT) (P : PT) (J : IT) (res : Int × IT) (f : IT → Nat → Int → Option (Int × IT)) : Prop := ∀ (I : IT) (a0 : Nat) (x2 : Int) (H : Heap) (locs : List Loc) (ls : Array Slot), K a0 = 9 → rg x2 → FS D cy B L K P J s.heap I H locs → lv_has ls 4 [(0, .ref a0), (2, iv x2)] → f I a0 x2 = some res → W p l e rm_X8_reveal s m args below meth c H locs 0 0 (MQ below (QI D cy B L K P J res) args s 0 0 (fun q => B ≤ q)) (F0 m 53 ls [])
abbrev G_X8_reveal_57 (p : Program) (l : Launch) (e : Env) (s : State) (m : MethodId) (args : Array Value) (below : List Frame) (meth : Method) (c : Code) (D : va_G) (cy : Nat → ClassId) (B : Nat) (L : List Nat) (K : KT) (P : PT) (J : IT) (res : Int × IT) (f : IT → Nat → Int → Int → Option (Int × IT)) : Prop := ∀ (I : IT) (a0 : Nat) (x1 : Int) (x2 : Int) (H : Heap) (locs : List Loc) (ls : Array Slot), K a0 = 9 → rg x1 → rg x2 → FS D cy B L K P J s.heap I H locs → lv_has ls 4 [(0, .ref a0), (1, iv x1), (2, iv x2)] → f I a0 x1 x2 = some res → W p l e rm_X8_reveal s m args below meth c H locs 0 0 (MQ below (QI D cy B L K P J res) args s 0 0 (fun q => B ≤ q)) (F0 m 57 ls [])
abbrev G_X8_reveal_34 (p : Program) (l : Launch) (e : Env) (s : State) (m : MethodId) (args : Array Value) (below : List Frame) (meth : Method) (c : Code) (D : va_G) (cy : Nat → ClassId) (B : Nat) (L : List Nat) (K : KT) (P : PT) (J : IT) (res : Int × IT) (f : IT → Nat → Int → Int → Int → Option (Int × IT)) : Prop := ∀ (I : IT) (a0 : Nat) (x1 : Int) (x2 : Int) (t0 : Int) (H : Heap) (locs : List Loc) (ls : Array Slot), K a0 = 9 → rg x1 → rg x2 → rg t0 → FS D cy B L K P J s.heap I H locs → lv_has ls 4 [(0, .ref a0), (1, iv x1), (2, iv x2)] → f I a0 x1 x2 t0 = some res → W p l e rm_X8_reveal s m args below meth c H locs 0 0 (MQ below (QI D cy B L K P J res) args s 0 0 (fun q => B ≤ q)) (F0 m 34 ls [iv t0])
abbrev G_X8_reveal_65 (p : Program) (l : Launch) (e : Env) (s : State) (m : MethodId) (args : Array Value) (below : List Frame) (meth : Method) (c : Code) (D : va_G) (cy : Nat → ClassId) (B : Nat) (L : List Nat) (K : KT) (P : PT) (J : IT) (res : Int × IT) (f : IT → Nat → Int → Option (Int × IT)) : Prop := ∀ (I : IT) (a0 : Nat) (x1 : Int) (H : Heap) (locs : List Loc) (ls : Array Slot), K a0 = 9 → rg x1 → FS D cy B L K P J s.heap I H locs → lv_has ls 4 [(0, .ref a0), (1, iv x1)] → f I a0 x1 = some res → W p l e rm_X8_reveal s m args below meth c H locs 0 0 (MQ below (QI D cy B L K P J res) args s 0 0 (fun q => B ≤ q)) (F0 m 65 ls [])
abbrev G_X8_reveal_14 (p : Program) (l : Launch) (e : Env) (s : State) (m : MethodId) (args : Array Value) (below : List Frame) (meth : Method) (c : Code) (D : va_G) (cy : Nat → ClassId) (B : Nat) (L : List Nat) (K : KT) (P : PT) (J : IT) (res : Int × IT) (f : IT → Nat → Int → Int → Option (Int × IT)) : Prop := ∀ (I : IT) (a0 : Nat) (x1 : Int) (x2 : Int) (H : Heap) (locs : List Loc) (ls : Array Slot), K a0 = 9 → rg x1 → rg x2 → FS D cy B L K P J s.heap I H locs → lv_has ls 4 [(0, .ref a0), (1, iv x1), (2, iv x2)] → f I a0 x1 x2 = some res → W p l e rm_X8_reveal s m args below meth c H locs 0 0 (MQ below (QI D cy B L K P J res) args s 0 0 (fun q => B ≤ q)) (F0 m 14 ls [])
set_option maxRecDepth 100000 in
set_option maxHeartbeats 4000000 in
theorem b_X8_reveal_58 {p : Program} {l : Launch} {e : Env} {s : State} {m : MethodId} {args : Array Value} {below : List Frame} {meth : Method} {c : Code} {D : va_G} {cy : Nat → ClassId} {B : Nat} {L : List Nat} {K : KT} {P : PT} {J : IT} {res : Int × IT} (C0 : FC D cy B p s m meth c "RejudgeHallModel" cX8_reveal 4) (hr : meth.sig.returnType = (some .int)) (hWT : WT K P) {k14 : IT → Nat → Int → Int → Option (Int × IT)} (hk14 : G_X8_reveal_14 p l e s m args below meth c D cy B L K P J res k14) : G_X8_reveal_58 p l e s m args below meth c D cy B L K P J res (f_X8_reveal_58 K P k14) := by
  intro I a0 x2 t0 H locs ls ka0 rx2 rt0 hF hl hf
  unfold f_X8_reveal_58 at hf
  refine lv_istore_n (lv' := [(1, iv t0), (0, .ref a0), (2, iv x2)]) C0.1 C0.2.1 dX8_reveal_58 rfl hl (by decide) rfl (fun ls hl => ?_)
  refine fl_iinc (lv' := [(2, iv (wr (x2 + 1))), (1, iv t0), (0, .ref a0)]) C0 dX8_reveal_59 hl (k := 2) rfl (by decide) rfl (fun ls hl => ?_)
  refine fl_goto (tgt := 14) C0 dX8_reveal_62 (by decide) ?_
  exact hk14 I a0 t0 ((wr (x2 + 1))) _ _ _ ka0 rt0 ((rg_wr _)) hF (lv_sub hl [2, 1, 0] rfl) hf
set_option maxRecDepth 100000 in
set_option maxHeartbeats 4000000 in
theorem b_X8_reveal_53 {p : Program} {l : Launch} {e : Env} {s : State} {m : MethodId} {args : Array Value} {below : List Frame} {meth : Method} {c : Code} {D : va_G} {cy : Nat → ClassId} {B : Nat} {L : List Nat} {K : KT} {P : PT} {J : IT} {res : Int × IT} (C0 : FC D cy B p s m meth c "RejudgeHallModel" cX8_reveal 4) (hr : meth.sig.returnType = (some .int)) (hWT : WT K P) {k14 : IT → Nat → Int → Int → Option (Int × IT)} (hk14 : G_X8_reveal_14 p l e s m args below meth c D cy B L K P J res k14) : G_X8_reveal_53 p l e s m args below meth c D cy B L K P J res (f_X8_reveal_53 K P k14) := by
  intro I a0 x2 H locs ls ka0 rx2 hF hl hf
  unfold f_X8_reveal_53 at hf
  refine lv_iload_n C0.1 C0.2.1 dX8_reveal_53 rfl (lv_at hl 1 rfl) ?_
  refine fl_goto (tgt := 58) C0 dX8_reveal_54 (by decide) ?_
  exact b_X8_reveal_58 C0 hr hWT hk14 I a0 x2 x2 _ _ _ ka0 rx2 rx2 hF (lv_sub hl [0, 1] rfl) hf
set_option maxRecDepth 100000 in
set_option maxHeartbeats 4000000 in
theorem b_X8_reveal_57 {p : Program} {l : Launch} {e : Env} {s : State} {m : MethodId} {args : Array Value} {below : List Frame} {meth : Method} {c : Code} {D : va_G} {cy : Nat → ClassId} {B : Nat} {L : List Nat} {K : KT} {P : PT} {J : IT} {res : Int × IT} (C0 : FC D cy B p s m meth c "RejudgeHallModel" cX8_reveal 4) (hr : meth.sig.returnType = (some .int)) (hWT : WT K P) {k14 : IT → Nat → Int → Int → Option (Int × IT)} (hk14 : G_X8_reveal_14 p l e s m args below meth c D cy B L K P J res k14) : G_X8_reveal_57 p l e s m args below meth c D cy B L K P J res (f_X8_reveal_57 K P k14) := by
  intro I a0 x1 x2 H locs ls ka0 rx1 rx2 hF hl hf
  unfold f_X8_reveal_57 at hf
  refine lv_iload_n C0.1 C0.2.1 dX8_reveal_57 rfl (lv_at hl 1 rfl) ?_
  exact b_X8_reveal_58 C0 hr hWT hk14 I a0 x2 x1 _ _ _ ka0 rx2 rx1 hF (lv_sub hl [0, 2] rfl) hf
set_option maxRecDepth 100000 in
set_option maxHeartbeats 4000000 in
theorem b_X8_reveal_34 {p : Program} {l : Launch} {e : Env} {s : State} {m : MethodId} {args : Array Value} {below : List Frame} {meth : Method} {c : Code} {D : va_G} {cy : Nat → ClassId} {B : Nat} {L : List Nat} {K : KT} {P : PT} {J : IT} {res : Int × IT} (C0 : FC D cy B p s m meth c "RejudgeHallModel" cX8_reveal 4) (hr : meth.sig.returnType = (some .int)) (hWT : WT K P) {k14 : IT → Nat → Int → Int → Option (Int × IT)} (hk14 : G_X8_reveal_14 p l e s m args below meth c D cy B L K P J res k14) : G_X8_reveal_34 p l e s m args below meth c D cy B L K P J res (f_X8_reveal_34 K P k14) := by
  intro I a0 x1 x2 t0 H locs ls ka0 rx1 rx2 rt0 hF hl hf
  unfold f_X8_reveal_34 at hf
  refine lv_istore_n (lv' := [(3, iv t0), (0, .ref a0), (1, iv x1), (2, iv x2)]) C0.1 C0.2.1 dX8_reveal_34 rfl hl (by decide) rfl (fun ls hl => ?_)
  refine lv_iload_n C0.1 C0.2.1 dX8_reveal_35 rfl (lv_at hl 0 rfl) ?_
  refine fl_if_eq (tgt := 57) C0 rt0 dX8_reveal_36 (by decide) (fun c9 => ?_) (fun c9 => ?_)
  · replace hf := (if_pos c9).symm.trans hf
    exact b_X8_reveal_57 C0 hr hWT hk14 I a0 x1 x2 _ _ _ ka0 rx1 rx2 hF (lv_sub hl [1, 2, 3] rfl) hf
  · replace hf := (if_neg c9).symm.trans hf
    refine lv_iload_n C0.1 C0.2.1 dX8_reveal_39 rfl (lv_at hl 2 rfl) ?_
    refine fl_iconst C0 dX8_reveal_40 ?_
    refine fl_icmp_eq (tgt := 53) C0 rx1 (rgk (-1) rfl) dX8_reveal_41 (by decide) (fun c10 => ?_) (fun c10 => ?_)
    · replace hf := (if_pos c10).symm.trans hf
      exact b_X8_reveal_53 C0 hr hWT hk14 I a0 x2 _ _ _ ka0 rx2 hF (lv_sub hl [1, 3] rfl) hf
    · replace hf := (if_neg c10).symm.trans hf
      refine lv_aload_n C0.1 C0.2.1 dX8_reveal_44 rfl (lv_at hl 1 rfl) ?_
      refine lv_iload_n C0.1 C0.2.1 dX8_reveal_45 rfl (lv_at hl 2 rfl) ?_
      refine lv_iload_n C0.1 C0.2.1 dX8_reveal_46 rfl (lv_at hl 3 rfl) ?_
      obtain ⟨r11, hq11, hf⟩ := bp_f hf
      refine fl_ri hF (fl_runV (As := [iv x1, iv x2]) (rest := []) C0 hF hl.1 ck_9 ka0 rfl (c_X8_isAhead l D cy B L K P J hWT I a0 x1 x2 ka0 rx1 rx2 hq11) aw_1155 aw_1157 aw_62 aw_73 aw_1158 rfl rfl pm_X8_isAhead rfl rfl ⟨Nat.le_of_ble_eq_true rfl, Nat.le_of_ble_eq_true rfl⟩ rfl (Nat.le_of_ble_eq_true rfl) dX8_reveal_47 ⟨Nat.le_of_ble_eq_true rfl, Nat.le_of_ble_eq_true rfl⟩) (fun H locs hF11 rr11 => ?_)
      refine fl_if_eq (tgt := 57) C0 rr11 dX8_reveal_50 (by decide) (fun c12 => ?_) (fun c12 => ?_)
      · replace hf := (if_pos c12).symm.trans hf
        exact b_X8_reveal_57 C0 hr hWT hk14 I a0 x1 x2 _ _ _ ka0 rx1 rx2 hF11 (lv_sub hl [1, 2, 3] rfl) hf
      · replace hf := (if_neg c12).symm.trans hf
        exact b_X8_reveal_53 C0 hr hWT hk14 I a0 x2 _ _ _ ka0 rx2 hF11 (lv_sub hl [1, 3] rfl) hf
set_option maxRecDepth 100000 in
set_option maxHeartbeats 4000000 in
theorem b_X8_reveal_65 {p : Program} {l : Launch} {e : Env} {s : State} {m : MethodId} {args : Array Value} {below : List Frame} {meth : Method} {c : Code} {D : va_G} {cy : Nat → ClassId} {B : Nat} {L : List Nat} {K : KT} {P : PT} {J : IT} {res : Int × IT} (C0 : FC D cy B p s m meth c "RejudgeHallModel" cX8_reveal 4) (hr : meth.sig.returnType = (some .int)) (hWT : WT K P) : G_X8_reveal_65 p l e s m args below meth c D cy B L K P J res (f_X8_reveal_65 K P ) := by
  intro I a0 x1 H locs ls ka0 rx1 hF hl hf
  unfold f_X8_reveal_65 at hf
  refine lv_iload_n C0.1 C0.2.1 dX8_reveal_65 rfl (lv_at hl 1 rfl) ?_
  refine fl_iconst C0 dX8_reveal_66 ?_
  refine fl_icmp_ne (tgt := 72) C0 rx1 (rgk (-1) rfl) dX8_reveal_67 (by decide) (fun c6 => ?_) (fun c6 => ?_)
  · replace hf := (if_neg c6).symm.trans hf
    refine lv_aload_n C0.1 C0.2.1 dX8_reveal_72 rfl (lv_at hl 0 rfl) ?_
    refine lv_iload_n C0.1 C0.2.1 dX8_reveal_73 rfl (lv_at hl 1 rfl) ?_
    obtain ⟨r7, hq7, hf⟩ := bp_f hf
    refine fl_ri hF (fl_runV (As := [iv x1]) (rest := []) C0 hF hl.1 ck_9 ka0 rfl (c_X8_toReveal l D cy B L K P J hWT I a0 x1 ka0 rx1 hq7) aw_1151 aw_1153 aw_61 aw_73 aw_1154 rfl rfl pm_X8_toReveal rfl rfl ⟨Nat.le_of_ble_eq_true rfl, Nat.le_of_ble_eq_true rfl⟩ rfl (Nat.le_of_ble_eq_true rfl) dX8_reveal_74 ⟨Nat.le_of_ble_eq_true rfl, Nat.le_of_ble_eq_true rfl⟩) (fun H locs hF7 rr7 => ?_)
    refine lv_istore_n (lv' := [(2, iv r7), (0, .ref a0), (1, iv x1)]) C0.1 C0.2.1 dX8_reveal_77 rfl hl (by decide) rfl (fun ls hl => ?_)
    refine lv_aload_n C0.1 C0.2.1 dX8_reveal_78 rfl (lv_at hl 1 rfl) ?_
    refine fl_getr (k := 24) (t := 293) ck_9 C0 hF7 ka0 rfl (wt_at (k := 24) (t := 293) hWT ka0 rfl) rfl ⟨rfl, rfl⟩ aw_898 dX8_reveal_79 ?_
    refine fl_bipush C0 dX8_reveal_82 (by decide) ?_
    refine lv_iload_n C0.1 C0.2.1 dX8_reveal_84 rfl (lv_at hl 2 rfl) ?_
    refine fl_imul C0 dX8_reveal_85 ?_
    refine lv_iload_n C0.1 C0.2.1 dX8_reveal_86 rfl (lv_at hl 0 rfl) ?_
    refine fl_iadd C0 dX8_reveal_87 ?_
    refine fl_iconst C0 dX8_reveal_88 ?_
    obtain ⟨hc, hf⟩ := ck_f hf
    refine fl_zast (n := 48) C0 hF7 (wt_at (k := 24) (t := 293) hWT ka0 rfl) (rg_wr _) (Or.inr rfl) hc dX8_reveal_89 (fun H locs hF8 => ?_)
    obtain ⟨I8, eI8, hf⟩ := bnd_f hf
    rw [eI8] at hF8
    refine fl_bipush C0 dX8_reveal_90 (by decide) ?_
    refine lv_iload_n C0.1 C0.2.1 dX8_reveal_92 rfl (lv_at hl 2 rfl) ?_
    refine fl_imul C0 dX8_reveal_93 ?_
    refine lv_iload_n C0.1 C0.2.1 dX8_reveal_94 rfl (lv_at hl 0 rfl) ?_
    refine fl_iadd C0 dX8_reveal_95 ?_
    cases hf
    exact fl_iret C0 hF8 hr (rg_wr _) rfl dX8_reveal_96
  · replace hf := (if_pos c6).symm.trans hf
    refine fl_iconst C0 dX8_reveal_70 ?_
    cases hf
    exact fl_iret C0 hF hr (rgk (-1) rfl) rfl dX8_reveal_71
set_option maxRecDepth 100000 in
set_option maxHeartbeats 4000000 in
theorem b_X8_reveal_14 {p : Program} {l : Launch} {e : Env} {s : State} {m : MethodId} {args : Array Value} {below : List Frame} {meth : Method} {c : Code} {D : va_G} {cy : Nat → ClassId} {B : Nat} {L : List Nat} {K : KT} {P : PT} {J : IT} {res : Int × IT} (C0 : FC D cy B p s m meth c "RejudgeHallModel" cX8_reveal 4) (hr : meth.sig.returnType = (some .int)) (hWT : WT K P) : ∀ n : Nat, G_X8_reveal_14 p l e s m args below meth c D cy B L K P J res (f_X8_reveal_14 K P  n)
  | 0 => by
    intro I a0 x1 x2 H locs ls ka0 rx1 rx2 hF hl hf
    cases hf
  | n + 1 => by
    have ih : G_X8_reveal_14 p l e s m args below meth c D cy B L K P J res (f_X8_reveal_14 K P  n)  := b_X8_reveal_14 C0 hr hWT  n
    intro I a0 x1 x2 H locs ls ka0 rx1 rx2 hF hl hf
    rw [f_X8_reveal_14] at hf
    refine lv_iload_n C0.1 C0.2.1 dX8_reveal_14 rfl (lv_at hl 2 rfl) ?_
    refine fl_bipush C0 dX8_reveal_15 (by decide) ?_
    refine fl_icmp_ge (tgt := 65) C0 rx2 (rgk 8 rfl) dX8_reveal_17 (by decide) (fun c3 => ?_) (fun c3 => ?_)
    · replace hf := (if_pos c3).symm.trans hf
      exact b_X8_reveal_65 C0 hr hWT  I a0 x1 _ _ _ ka0 rx1 hF (lv_sub hl [0, 1] rfl) hf
    · replace hf := (if_neg c3).symm.trans hf
      refine lv_aload_n C0.1 C0.2.1 dX8_reveal_20 rfl (lv_at hl 0 rfl) ?_
      refine lv_iload_n C0.1 C0.2.1 dX8_reveal_21 rfl (lv_at hl 2 rfl) ?_
      obtain ⟨r4, hq4, hf⟩ := bp_f hf
      refine fl_ri hF (fl_runV (As := [iv x2]) (rest := []) C0 hF hl.1 ck_9 ka0 rfl (c_X8_toReveal l D cy B L K P J hWT I a0 x2 ka0 rx2 hq4) aw_1151 aw_1153 aw_61 aw_73 aw_1154 rfl rfl pm_X8_toReveal rfl rfl ⟨Nat.le_of_ble_eq_true rfl, Nat.le_of_ble_eq_true rfl⟩ rfl (Nat.le_of_ble_eq_true rfl) dX8_reveal_22 ⟨Nat.le_of_ble_eq_true rfl, Nat.le_of_ble_eq_true rfl⟩) (fun H locs hF4 rr4 => ?_)
      refine fl_iconst C0 dX8_reveal_25 ?_
      refine fl_icmp_eq (tgt := 33) C0 rr4 (rgk (-1) rfl) dX8_reveal_26 (by decide) (fun c5 => ?_) (fun c5 => ?_)
      · replace hf := (if_pos c5).symm.trans hf
        refine fl_iconst C0 dX8_reveal_33 ?_
        exact b_X8_reveal_34 C0 hr hWT ih I a0 x1 x2 0 _ _ _ ka0 rx1 rx2 ((rgk 0 rfl)) hF4 (lv_sub hl [0, 1, 2] rfl) hf
      · replace hf := (if_neg c5).symm.trans hf
        refine fl_iconst C0 dX8_reveal_29 ?_
        refine fl_goto (tgt := 34) C0 dX8_reveal_30 (by decide) ?_
        exact b_X8_reveal_34 C0 hr hWT ih I a0 x1 x2 1 _ _ _ ka0 rx1 rx2 ((rgk 1 rfl)) hF4 (lv_sub hl [0, 1, 2] rfl) hf
theorem pm_X8_reveal : plainM yX8_reveal 0 := by decide +kernel
set_option maxRecDepth 100000 in
set_option maxHeartbeats 4000000 in
theorem c_X8_reveal (l : Launch) (D : va_G) (cy : Nat → ClassId) (B : Nat) (L : List Nat) (K : KT) (P : PT) (J : IT) (hWT : WT K P) (I : IT) (a0 : Nat) (ka0 : K a0 = 9) {r : Int} {I' : IT} (hf : f_X8_reveal K P I a0 = some (r, I')) : Met l yX8_reveal [.code yX8_reveal cX8_reveal 4 (some .int)] rm_X8_reveal (va_Pc [.ref a0] (FW D cy B L K P J I)) (QI D cy B L K P J (r, I')) 0 0 (fun q => B ≤ q) := by
  refine fl_body (own := "RejudgeHallModel") [.ref a0] (by decide) rfl (Nat.le_of_ble_eq_true rfl) ?_
  intro p e s m args below meth c ls C0 hr hF hl
  have hl : lv_has ls 4 [(0, .ref a0)] := hl
  unfold f_X8_reveal at hf
  refine lv_aload_n C0.1 C0.2.1 dX8_reveal_0 rfl (lv_at hl 0 rfl) ?_
  refine fl_iconst C0 dX8_reveal_1 ?_
  refine fl_puti (k := 38) ck_9 C0 hF ka0 rfl (rgk 0 rfl) ⟨rfl, rfl, rfl⟩ aw_912 dX8_reveal_2 (fun H locs hF1 => ?_)
  obtain ⟨I1, eI1, hf⟩ := bnd_f hf
  rw [eI1] at hF1
  refine lv_aload_n C0.1 C0.2.1 dX8_reveal_5 rfl (lv_at hl 0 rfl) ?_
  refine fl_iconst C0 dX8_reveal_6 ?_
  obtain ⟨I2, hq2, hf⟩ := bp_f hf
  refine fl_rv hF1 (fl_runV (As := [iv 1]) (rest := []) C0 hF1 hl.1 ck_9 ka0 rfl (c_X8_tells l D cy B L K P J hWT I1 a0 1 ka0 ((rgk 1 rfl)) hq2) aw_1135 aw_1137 aw_57 aw_73 aw_1138 rfl rfl pm_X8_tells rfl rfl ⟨Nat.le_of_ble_eq_true rfl, Nat.le_of_ble_eq_true rfl⟩ rfl (Nat.le_of_ble_eq_true rfl) dX8_reveal_7 ⟨Nat.le_of_ble_eq_true rfl, Nat.le_of_ble_eq_true rfl⟩) (fun H locs hF2 => ?_)
  refine fl_iconst C0 dX8_reveal_10 ?_
  refine lv_istore_n (lv' := [(1, iv (-1)), (0, .ref a0)]) C0.1 C0.2.1 dX8_reveal_11 rfl hl (by decide) rfl (fun ls hl => ?_)
  refine fl_iconst C0 dX8_reveal_12 ?_
  refine lv_istore_n (lv' := [(2, iv 0), (1, iv (-1)), (0, .ref a0)]) C0.1 C0.2.1 dX8_reveal_13 rfl hl (by decide) rfl (fun ls hl => ?_)
  exact b_X8_reveal_14 C0 hr hWT  FU I2 a0 ((-1)) 0 _ _ _ ka0 ((rgk (-1) rfl)) ((rgk 0 rfl)) hF2 (lv_sub hl [2, 1, 0] rfl) hf
-- RejudgeHallModel.board(IZI)I
abbrev rm_X8_board : Room := { frames := 3, cells := 0, slots := 0, locals := 70 }
def f_X8_board_26 (K : KT) (P : PT) (I : IT) (a0 : Nat) (x1 : Int) (x2 : Int) (x3 : Int) (t0 : Int) (b1 : Nat) : Option (Int × IT) := bnd (up I b1 38 t0) fun I5 => if (I5 a0 38) ≤ 0 then (bp (f_X8_tells K P I5 a0 x2) fun I7 => if x3 = 0 then (bp (f_X8_placeOf K P I7 a0 x1) fun r12 => some (r12, I7)) else (if x3 = 1 then (ck (0 ≤ x1 ∧ x1 < 8) <| some ((I7 ((P a0 34)) (x1 : Int).toNat), I7)) else (if x3 = 2 then (ck (0 ≤ x1 ∧ x1 < 8) <| some ((I7 ((P a0 35)) (x1 : Int).toNat), I7)) else (if x3 = 3 then (ck (0 ≤ x1 ∧ x1 < 8) <| some ((I7 ((P a0 36)) (x1 : Int).toNat), I7)) else (ck (0 ≤ x1 ∧ x1 < 8) <| some ((I7 ((P a0 22)) (x1 : Int).toNat), I7)))))) else (some (0, I5))
def f_X8_board (K : KT) (P : PT) (I : IT) (a0 : Nat) (x1 : Int) (x2 : Int) (x3 : Int) : Option (Int × IT) := bp (f_X8_isTeam K P I x1) fun r1 => if r1 = 0 then (f_X8_board_26 K P  I a0 x1 x2 x3 1 a0) else (bp (f_X8_isIn K P I x3 0 4) fun r3 => if r3 = 0 then (f_X8_board_26 K P  I a0 x1 x2 x3 2 a0) else (f_X8_board_26 K P  I a0 x1 x2 x3 0 a0))
abbrev G_X8_board_26 (p : Program) (l : Launch) (e : Env) (s : State) (m : MethodId) (args : Array Value) (below : List Frame) (meth : Method) (c : Code) (D : va_G) (cy : Nat → ClassId) (B : Nat) (L : List Nat) (K : KT) (P : PT) (J : IT) (res : Int × IT) (f : IT → Nat → Int → Int → Int → Int → Nat → Option (Int × IT)) : Prop := ∀ (I : IT) (a0 : Nat) (x1 : Int) (x2 : Int) (x3 : Int) (t0 : Int) (b1 : Nat) (H : Heap) (locs : List Loc) (ls : Array Slot), K a0 = 9 → rg x1 → rg x2 → rg x3 → rg t0 → K b1 = 9 → FS D cy B L K P J s.heap I H locs → lv_has ls 4 [(0, .ref a0), (1, iv x1), (2, iv x2), (3, iv x3)] → f I a0 x1 x2 x3 t0 b1 = some res → W p l e rm_X8_board s m args below meth c H locs 0 0 (MQ below (QI D cy B L K P J res) args s 0 0 (fun q => B ≤ q)) (F0 m 26 ls [iv t0, .ref b1])
set_option maxRecDepth 100000 in
set_option maxHeartbeats 4000000 in
theorem b_X8_board_26 {p : Program} {l : Launch} {e : Env} {s : State} {m : MethodId} {args : Array Value} {below : List Frame} {meth : Method} {c : Code} {D : va_G} {cy : Nat → ClassId} {B : Nat} {L : List Nat} {K : KT} {P : PT} {J : IT} {res : Int × IT} (C0 : FC D cy B p s m meth c "RejudgeHallModel" cX8_board 4) (hr : meth.sig.returnType = (some .int)) (hWT : WT K P) : G_X8_board_26 p l e s m args below meth c D cy B L K P J res (f_X8_board_26 K P ) := by
  intro I a0 x1 x2 x3 t0 b1 H locs ls ka0 rx1 rx2 rx3 rt0 kb1 hF hl hf
  unfold f_X8_board_26 at hf
  refine fl_puti (k := 38) ck_9 C0 hF kb1 rfl rt0 ⟨rfl, rfl, rfl⟩ aw_912 dX8_board_26 (fun H locs hF5 => ?_)
  obtain ⟨I5, eI5, hf⟩ := bnd_f hf
  rw [eI5] at hF5
  refine lv_aload_n C0.1 C0.2.1 dX8_board_29 rfl (lv_at hl 0 rfl) ?_
  refine fl_geti (k := 38) ck_9 C0 hF5 ka0 rfl ⟨rfl, rfl⟩ aw_912 dX8_board_30 ?_
  refine fl_if_le (tgt := 38) C0 (hF5.rI _ _) dX8_board_33 (by decide) (fun c6 => ?_) (fun c6 => ?_)
  · replace hf := (if_pos c6).symm.trans hf
    refine lv_aload_n C0.1 C0.2.1 dX8_board_38 rfl (lv_at hl 0 rfl) ?_
    refine lv_iload_n C0.1 C0.2.1 dX8_board_39 rfl (lv_at hl 2 rfl) ?_
    obtain ⟨I7, hq7, hf⟩ := bp_f hf
    refine fl_rv hF5 (fl_runV (As := [iv x2]) (rest := []) C0 hF5 hl.1 ck_9 ka0 rfl (c_X8_tells l D cy B L K P J hWT I5 a0 x2 ka0 rx2 hq7) aw_1135 aw_1137 aw_57 aw_73 aw_1138 rfl rfl pm_X8_tells rfl rfl ⟨Nat.le_of_ble_eq_true rfl, Nat.le_of_ble_eq_true rfl⟩ rfl (Nat.le_of_ble_eq_true rfl) dX8_board_40 ⟨Nat.le_of_ble_eq_true rfl, Nat.le_of_ble_eq_true rfl⟩) (fun H locs hF7 => ?_)
    refine lv_iload_n C0.1 C0.2.1 dX8_board_43 rfl (lv_at hl 3 rfl) ?_
    refine fl_if_ne (tgt := 55) C0 rx3 dX8_board_44 (by decide) (fun c8 => ?_) (fun c8 => ?_)
    · replace hf := (if_neg c8).symm.trans hf
      refine lv_iload_n C0.1 C0.2.1 dX8_board_55 rfl (lv_at hl 3 rfl) ?_
      refine fl_iconst C0 dX8_board_56 ?_
      refine fl_icmp_ne (tgt := 69) C0 rx3 (rgk 1 rfl) dX8_board_57 (by decide) (fun c9 => ?_) (fun c9 => ?_)
      · replace hf := (if_neg c9).symm.trans hf
        refine lv_iload_n C0.1 C0.2.1 dX8_board_69 rfl (lv_at hl 3 rfl) ?_
        refine fl_iconst C0 dX8_board_70 ?_
        refine fl_icmp_ne (tgt := 83) C0 rx3 (rgk 2 rfl) dX8_board_71 (by decide) (fun c10 => ?_) (fun c10 => ?_)
        · replace hf := (if_neg c10).symm.trans hf
          refine lv_iload_n C0.1 C0.2.1 dX8_board_83 rfl (lv_at hl 3 rfl) ?_
          refine fl_iconst C0 dX8_board_84 ?_
          refine fl_icmp_ne (tgt := 97) C0 rx3 (rgk 3 rfl) dX8_board_85 (by decide) (fun c11 => ?_) (fun c11 => ?_)
          · replace hf := (if_neg c11).symm.trans hf
            refine lv_aload_n C0.1 C0.2.1 dX8_board_97 rfl (lv_at hl 0 rfl) ?_
            refine fl_getr (k := 22) (t := 132) ck_9 C0 hF7 ka0 rfl (wt_at (k := 22) (t := 132) hWT ka0 rfl) rfl ⟨rfl, rfl⟩ aw_896 dX8_board_98 ?_
            refine lv_iload_n C0.1 C0.2.1 dX8_board_101 rfl (lv_at hl 1 rfl) ?_
            obtain ⟨hc, hf⟩ := ck_f hf
            refine fl_iald (n := 8) C0 hF7 (wt_at (k := 22) (t := 132) hWT ka0 rfl) rx1 hc dX8_board_102 ?_
            cases hf
            exact fl_iret C0 hF7 hr (hF7.rI _ _) rfl dX8_board_103
          · replace hf := (if_pos c11).symm.trans hf
            refine lv_aload_n C0.1 C0.2.1 dX8_board_88 rfl (lv_at hl 0 rfl) ?_
            refine fl_getr (k := 36) (t := 132) ck_9 C0 hF7 ka0 rfl (wt_at (k := 36) (t := 132) hWT ka0 rfl) rfl ⟨rfl, rfl⟩ aw_910 dX8_board_89 ?_
            refine lv_iload_n C0.1 C0.2.1 dX8_board_92 rfl (lv_at hl 1 rfl) ?_
            obtain ⟨hc, hf⟩ := ck_f hf
            refine fl_iald (n := 8) C0 hF7 (wt_at (k := 36) (t := 132) hWT ka0 rfl) rx1 hc dX8_board_93 ?_
            refine fl_goto (tgt := 103) C0 dX8_board_94 (by decide) ?_
            cases hf
            exact fl_iret C0 hF7 hr (hF7.rI _ _) rfl dX8_board_103
        · replace hf := (if_pos c10).symm.trans hf
          refine lv_aload_n C0.1 C0.2.1 dX8_board_74 rfl (lv_at hl 0 rfl) ?_
          refine fl_getr (k := 35) (t := 132) ck_9 C0 hF7 ka0 rfl (wt_at (k := 35) (t := 132) hWT ka0 rfl) rfl ⟨rfl, rfl⟩ aw_909 dX8_board_75 ?_
          refine lv_iload_n C0.1 C0.2.1 dX8_board_78 rfl (lv_at hl 1 rfl) ?_
          obtain ⟨hc, hf⟩ := ck_f hf
          refine fl_iald (n := 8) C0 hF7 (wt_at (k := 35) (t := 132) hWT ka0 rfl) rx1 hc dX8_board_79 ?_
          refine fl_goto (tgt := 103) C0 dX8_board_80 (by decide) ?_
          cases hf
          exact fl_iret C0 hF7 hr (hF7.rI _ _) rfl dX8_board_103
      · replace hf := (if_pos c9).symm.trans hf
        refine lv_aload_n C0.1 C0.2.1 dX8_board_60 rfl (lv_at hl 0 rfl) ?_
        refine fl_getr (k := 34) (t := 132) ck_9 C0 hF7 ka0 rfl (wt_at (k := 34) (t := 132) hWT ka0 rfl) rfl ⟨rfl, rfl⟩ aw_908 dX8_board_61 ?_
        refine lv_iload_n C0.1 C0.2.1 dX8_board_64 rfl (lv_at hl 1 rfl) ?_
        obtain ⟨hc, hf⟩ := ck_f hf
        refine fl_iald (n := 8) C0 hF7 (wt_at (k := 34) (t := 132) hWT ka0 rfl) rx1 hc dX8_board_65 ?_
        refine fl_goto (tgt := 103) C0 dX8_board_66 (by decide) ?_
        cases hf
        exact fl_iret C0 hF7 hr (hF7.rI _ _) rfl dX8_board_103
    · replace hf := (if_pos c8).symm.trans hf
      refine lv_aload_n C0.1 C0.2.1 dX8_board_47 rfl (lv_at hl 0 rfl) ?_
      refine lv_iload_n C0.1 C0.2.1 dX8_board_48 rfl (lv_at hl 1 rfl) ?_
      obtain ⟨r12, hq12, hf⟩ := bp_f hf
      refine fl_ri hF7 (fl_runV (As := [iv x1]) (rest := []) C0 hF7 hl.1 ck_9 ka0 rfl (c_X8_placeOf l D cy B L K P J hWT I7 a0 x1 ka0 rx1 hq12) aw_1163 aw_1165 aw_63 aw_73 aw_1166 rfl rfl pm_X8_placeOf rfl rfl ⟨Nat.le_of_ble_eq_true rfl, Nat.le_of_ble_eq_true rfl⟩ rfl (Nat.le_of_ble_eq_true rfl) dX8_board_49 ⟨Nat.le_of_ble_eq_true rfl, Nat.le_of_ble_eq_true rfl⟩) (fun H locs hF12 rr12 => ?_)
      refine fl_goto (tgt := 103) C0 dX8_board_52 (by decide) ?_
      cases hf
      exact fl_iret C0 hF12 hr rr12 rfl dX8_board_103
  · replace hf := (if_neg c6).symm.trans hf
    refine fl_iconst C0 dX8_board_36 ?_
    cases hf
    exact fl_iret C0 hF5 hr (rgk 0 rfl) rfl dX8_board_37
theorem pm_X8_board : plainM yX8_board 3 := by decide +kernel
set_option maxRecDepth 100000 in
set_option maxHeartbeats 4000000 in
theorem c_X8_board (l : Launch) (D : va_G) (cy : Nat → ClassId) (B : Nat) (L : List Nat) (K : KT) (P : PT) (J : IT) (hWT : WT K P) (I : IT) (a0 : Nat) (x1 : Int) (x2 : Int) (x3 : Int) (ka0 : K a0 = 9) (rx1 : rg x1) (rx2 : rg x2) (rx3 : rg x3) {r : Int} {I' : IT} (hf : f_X8_board K P I a0 x1 x2 x3 = some (r, I')) : Met l yX8_board [.code yX8_board cX8_board 4 (some .int)] rm_X8_board (va_Pc [.ref a0, iv x1, iv x2, iv x3] (FW D cy B L K P J I)) (QI D cy B L K P J (r, I')) 0 0 (fun q => B ≤ q) := by
  refine fl_body (own := "RejudgeHallModel") [.ref a0, iv x1, iv x2, iv x3] (by decide) rfl (Nat.le_of_ble_eq_true rfl) ?_
  intro p e s m args below meth c ls C0 hr hF hl
  have hl : lv_has ls 4 [(0, .ref a0), (1, iv x1), (2, iv x2), (3, iv x3)] := hl
  unfold f_X8_board at hf
  refine lv_aload_n C0.1 C0.2.1 dX8_board_0 rfl (lv_at hl 0 rfl) ?_
  refine lv_iload_n C0.1 C0.2.1 dX8_board_1 rfl (lv_at hl 1 rfl) ?_
  obtain ⟨r1, hq1, hf⟩ := bp_f hf
  refine fl_ri hF (fl_runSG (As := [iv x1]) (rest := [.ref a0]) C0 hF hl.1 (c_X8_isTeam l D cy B L K P J hWT I x1 rx1 hq1) aw_1084 aw_1085 aw_73 aw_1086 rfl pm_X8_isTeam rfl rfl ⟨Nat.le_of_ble_eq_true rfl, Nat.le_of_ble_eq_true rfl⟩ rfl (Nat.le_of_ble_eq_true rfl) dX8_board_2 ⟨Nat.le_of_ble_eq_true rfl, Nat.le_of_ble_eq_true rfl⟩) (fun H locs hF1 rr1 => ?_)
  refine fl_if_ne (tgt := 12) C0 rr1 dX8_board_5 (by decide) (fun c2 => ?_) (fun c2 => ?_)
  · replace hf := (if_neg c2).symm.trans hf
    refine lv_iload_n C0.1 C0.2.1 dX8_board_12 rfl (lv_at hl 3 rfl) ?_
    refine fl_iconst C0 dX8_board_13 ?_
    refine fl_iconst C0 dX8_board_14 ?_
    obtain ⟨r3, hq3, hf⟩ := bp_f hf
    refine fl_ri hF1 (fl_runSG (As := [iv x3, iv 0, iv 4]) (rest := [.ref a0]) C0 hF1 hl.1 (c_X8_isIn l D cy B L K P J hWT I x3 0 4 rx3 ((rgk 0 rfl)) ((rgk 4 rfl)) hq3) aw_1000 aw_1001 aw_73 aw_1002 rfl pm_X8_isIn rfl rfl ⟨Nat.le_of_ble_eq_true rfl, Nat.le_of_ble_eq_true rfl⟩ rfl (Nat.le_of_ble_eq_true rfl) dX8_board_15 ⟨Nat.le_of_ble_eq_true rfl, Nat.le_of_ble_eq_true rfl⟩) (fun H locs hF3 rr3 => ?_)
    refine fl_if_ne (tgt := 25) C0 rr3 dX8_board_18 (by decide) (fun c4 => ?_) (fun c4 => ?_)
    · replace hf := (if_neg c4).symm.trans hf
      refine fl_iconst C0 dX8_board_25 ?_
      exact b_X8_board_26 C0 hr hWT  I a0 x1 x2 x3 0 a0 _ _ _ ka0 rx1 rx2 rx3 ((rgk 0 rfl)) ka0 hF3 (lv_sub hl [0, 1, 2, 3] rfl) hf
    · replace hf := (if_pos c4).symm.trans hf
      refine fl_iconst C0 dX8_board_21 ?_
      refine fl_goto (tgt := 26) C0 dX8_board_22 (by decide) ?_
      exact b_X8_board_26 C0 hr hWT  I a0 x1 x2 x3 2 a0 _ _ _ ka0 rx1 rx2 rx3 ((rgk 2 rfl)) ka0 hF3 (lv_sub hl [0, 1, 2, 3] rfl) hf
  · replace hf := (if_pos c2).symm.trans hf
    refine fl_iconst C0 dX8_board_8 ?_
    refine fl_goto (tgt := 26) C0 dX8_board_9 (by decide) ?_
    exact b_X8_board_26 C0 hr hWT  I a0 x1 x2 x3 1 a0 _ _ _ ka0 rx1 rx2 rx3 ((rgk 1 rfl)) ka0 hF1 (lv_sub hl [0, 1, 2, 3] rfl) hf
-- RejudgeHallModel.placeAnew(I)I
abbrev rm_X8_placeAnew : Room := { frames := 7, cells := 0, slots := 0, locals := 167 }
def f_X8_placeAnew_54 (K : KT) (P : PT) (k27 : IT → Nat → Int → Int → Option (Int × IT)) (I : IT) (a0 : Nat) (x1 : Int) (x2 : Int) (t0 : Int) (t1 : Int) (b2 : Nat) : Option (Int × IT) := ck (0 ≤ t1 ∧ t1 < 60) <| bnd (up I b2 (t1 : Int).toNat t0) fun I10 => k27 I10 a0 x1 ((wr (x2 + 1)))
def f_X8_placeAnew_61 (K : KT) (P : PT) (I : IT) (a0 : Nat) (x1 : Int) : Option (Int × IT) := bp (f_X8_boards K P I a0) fun I8 => bp (f_X8_placeOf K P I8 a0 x1) fun r9 => some (r9, I8)
def f_X8_placeAnew_27 (K : KT) (P : PT) : Nat → IT → Nat → Int → Int → Option (Int × IT)
  | 0, _, _, _, _ => none
  | n + 1, I, a0, x1, x2 => if (I a0 13) ≤ x2 then (f_X8_placeAnew_61 K P  I a0 x1) else (bi (f_X8_firstFailed K P I a0 x2) fun r6 I6 => if r6 = (-1) then (f_X8_placeAnew_54 K P ((f_X8_placeAnew_27 K P  n)) I6 a0 x1 x2 0 x2 ((P a0 33))) else (f_X8_placeAnew_54 K P ((f_X8_placeAnew_27 K P  n)) I6 a0 x1 x2 1 x2 ((P a0 33))))
def f_X8_placeAnew_13 (K : KT) (P : PT) (I : IT) (a0 : Nat) (x1 : Int) (t0 : Int) (b1 : Nat) : Option (Int × IT) := bnd (up I b1 38 t0) fun I3 => if (I3 a0 38) ≤ 0 then (f_X8_placeAnew_27 K P  FU I3 a0 x1 0) else (some (0, I3))
def f_X8_placeAnew (K : KT) (P : PT) (I : IT) (a0 : Nat) (x1 : Int) : Option (Int × IT) := bp (f_X8_isTeam K P I x1) fun r1 => if r1 = 0 then (f_X8_placeAnew_13 K P  I a0 x1 1 a0) else (f_X8_placeAnew_13 K P  I a0 x1 0 a0)
abbrev G_X8_placeAnew_54 (p : Program) (l : Launch) (e : Env) (s : State) (m : MethodId) (args : Array Value) (below : List Frame) (meth : Method) (c : Code) (D : va_G) (cy : Nat → ClassId) (B : Nat) (L : List Nat) (K : KT) (P : PT) (J : IT) (res : Int × IT) (f : IT → Nat → Int → Int → Int → Int → Nat → Option (Int × IT)) : Prop := ∀ (I : IT) (a0 : Nat) (x1 : Int) (x2 : Int) (t0 : Int) (t1 : Int) (b2 : Nat) (H : Heap) (locs : List Loc) (ls : Array Slot), K a0 = 9 → rg x1 → rg x2 → rg t0 → rg t1 → K b2 = 340 → FS D cy B L K P J s.heap I H locs → lv_has ls 3 [(0, .ref a0), (1, iv x1), (2, iv x2)] → f I a0 x1 x2 t0 t1 b2 = some res → W p l e rm_X8_placeAnew s m args below meth c H locs 0 0 (MQ below (QI D cy B L K P J res) args s 0 0 (fun q => B ≤ q)) (F0 m 54 ls [iv t0, iv t1, .ref b2])
abbrev G_X8_placeAnew_61 (p : Program) (l : Launch) (e : Env) (s : State) (m : MethodId) (args : Array Value) (below : List Frame) (meth : Method) (c : Code) (D : va_G) (cy : Nat → ClassId) (B : Nat) (L : List Nat) (K : KT) (P : PT) (J : IT) (res : Int × IT) (f : IT → Nat → Int → Option (Int × IT)) : Prop := ∀ (I : IT) (a0 : Nat) (x1 : Int) (H : Heap) (locs : List Loc) (ls : Array Slot), K a0 = 9 → rg x1 → FS D cy B L K P J s.heap I H locs → lv_has ls 3 [(0, .ref a0), (1, iv x1)] → f I a0 x1 = some res → W p l e rm_X8_placeAnew s m args below meth c H locs 0 0 (MQ below (QI D cy B L K P J res) args s 0 0 (fun q => B ≤ q)) (F0 m 61 ls [])
abbrev G_X8_placeAnew_27 (p : Program) (l : Launch) (e : Env) (s : State) (m : MethodId) (args : Array Value) (below : List Frame) (meth : Method) (c : Code) (D : va_G) (cy : Nat → ClassId) (B : Nat) (L : List Nat) (K : KT) (P : PT) (J : IT) (res : Int × IT) (f : IT → Nat → Int → Int → Option (Int × IT)) : Prop := ∀ (I : IT) (a0 : Nat) (x1 : Int) (x2 : Int) (H : Heap) (locs : List Loc) (ls : Array Slot), K a0 = 9 → rg x1 → rg x2 → FS D cy B L K P J s.heap I H locs → lv_has ls 3 [(0, .ref a0), (1, iv x1), (2, iv x2)] → f I a0 x1 x2 = some res → W p l e rm_X8_placeAnew s m args below meth c H locs 0 0 (MQ below (QI D cy B L K P J res) args s 0 0 (fun q => B ≤ q)) (F0 m 27 ls [])
abbrev G_X8_placeAnew_13 (p : Program) (l : Launch) (e : Env) (s : State) (m : MethodId) (args : Array Value) (below : List Frame) (meth : Method) (c : Code) (D : va_G) (cy : Nat → ClassId) (B : Nat) (L : List Nat) (K : KT) (P : PT) (J : IT) (res : Int × IT) (f : IT → Nat → Int → Int → Nat → Option (Int × IT)) : Prop := ∀ (I : IT) (a0 : Nat) (x1 : Int) (t0 : Int) (b1 : Nat) (H : Heap) (locs : List Loc) (ls : Array Slot), K a0 = 9 → rg x1 → rg t0 → K b1 = 9 → FS D cy B L K P J s.heap I H locs → lv_has ls 3 [(0, .ref a0), (1, iv x1)] → f I a0 x1 t0 b1 = some res → W p l e rm_X8_placeAnew s m args below meth c H locs 0 0 (MQ below (QI D cy B L K P J res) args s 0 0 (fun q => B ≤ q)) (F0 m 13 ls [iv t0, .ref b1])
set_option maxRecDepth 100000 in
set_option maxHeartbeats 4000000 in
theorem b_X8_placeAnew_54 {p : Program} {l : Launch} {e : Env} {s : State} {m : MethodId} {args : Array Value} {below : List Frame} {meth : Method} {c : Code} {D : va_G} {cy : Nat → ClassId} {B : Nat} {L : List Nat} {K : KT} {P : PT} {J : IT} {res : Int × IT} (C0 : FC D cy B p s m meth c "RejudgeHallModel" cX8_placeAnew 3) (hr : meth.sig.returnType = (some .int)) (hWT : WT K P) {k27 : IT → Nat → Int → Int → Option (Int × IT)} (hk27 : G_X8_placeAnew_27 p l e s m args below meth c D cy B L K P J res k27) : G_X8_placeAnew_54 p l e s m args below meth c D cy B L K P J res (f_X8_placeAnew_54 K P k27) := by
  intro I a0 x1 x2 t0 t1 b2 H locs ls ka0 rx1 rx2 rt0 rt1 kb2 hF hl hf
  unfold f_X8_placeAnew_54 at hf
  obtain ⟨hc, hf⟩ := ck_f hf
  refine fl_iast (n := 60) C0 hF kb2 rt1 rt0 hc dX8_placeAnew_54 (fun H locs hF10 => ?_)
  obtain ⟨I10, eI10, hf⟩ := bnd_f hf
  rw [eI10] at hF10
  refine fl_iinc (lv' := [(2, iv (wr (x2 + 1))), (0, .ref a0), (1, iv x1)]) C0 dX8_placeAnew_55 hl (k := 2) rfl (by decide) rfl (fun ls hl => ?_)
  refine fl_goto (tgt := 27) C0 dX8_placeAnew_58 (by decide) ?_
  exact hk27 I10 a0 x1 ((wr (x2 + 1))) _ _ _ ka0 rx1 ((rg_wr _)) hF10 (lv_sub hl [1, 2, 0] rfl) hf
set_option maxRecDepth 100000 in
set_option maxHeartbeats 4000000 in
theorem b_X8_placeAnew_61 {p : Program} {l : Launch} {e : Env} {s : State} {m : MethodId} {args : Array Value} {below : List Frame} {meth : Method} {c : Code} {D : va_G} {cy : Nat → ClassId} {B : Nat} {L : List Nat} {K : KT} {P : PT} {J : IT} {res : Int × IT} (C0 : FC D cy B p s m meth c "RejudgeHallModel" cX8_placeAnew 3) (hr : meth.sig.returnType = (some .int)) (hWT : WT K P) : G_X8_placeAnew_61 p l e s m args below meth c D cy B L K P J res (f_X8_placeAnew_61 K P ) := by
  intro I a0 x1 H locs ls ka0 rx1 hF hl hf
  unfold f_X8_placeAnew_61 at hf
  refine lv_aload_n C0.1 C0.2.1 dX8_placeAnew_61 rfl (lv_at hl 0 rfl) ?_
  obtain ⟨I8, hq8, hf⟩ := bp_f hf
  refine fl_rv hF (fl_runV (As := []) (rest := []) C0 hF hl.1 ck_9 ka0 rfl (c_X8_boards l D cy B L K P J hWT I a0 ka0 hq8) aw_1143 aw_1145 aw_59 aw_73 aw_1146 rfl rfl pm_X8_boards rfl rfl ⟨Nat.le_of_ble_eq_true rfl, Nat.le_of_ble_eq_true rfl⟩ rfl (Nat.le_of_ble_eq_true rfl) dX8_placeAnew_62 ⟨Nat.le_of_ble_eq_true rfl, Nat.le_of_ble_eq_true rfl⟩) (fun H locs hF8 => ?_)
  refine lv_aload_n C0.1 C0.2.1 dX8_placeAnew_65 rfl (lv_at hl 0 rfl) ?_
  refine lv_iload_n C0.1 C0.2.1 dX8_placeAnew_66 rfl (lv_at hl 1 rfl) ?_
  obtain ⟨r9, hq9, hf⟩ := bp_f hf
  refine fl_ri hF8 (fl_runV (As := [iv x1]) (rest := []) C0 hF8 hl.1 ck_9 ka0 rfl (c_X8_placeOf l D cy B L K P J hWT I8 a0 x1 ka0 rx1 hq9) aw_1163 aw_1165 aw_63 aw_73 aw_1166 rfl rfl pm_X8_placeOf rfl rfl ⟨Nat.le_of_ble_eq_true rfl, Nat.le_of_ble_eq_true rfl⟩ rfl (Nat.le_of_ble_eq_true rfl) dX8_placeAnew_67 ⟨Nat.le_of_ble_eq_true rfl, Nat.le_of_ble_eq_true rfl⟩) (fun H locs hF9 rr9 => ?_)
  cases hf
  exact fl_iret C0 hF9 hr rr9 rfl dX8_placeAnew_70
set_option maxRecDepth 100000 in
set_option maxHeartbeats 4000000 in
theorem b_X8_placeAnew_27 {p : Program} {l : Launch} {e : Env} {s : State} {m : MethodId} {args : Array Value} {below : List Frame} {meth : Method} {c : Code} {D : va_G} {cy : Nat → ClassId} {B : Nat} {L : List Nat} {K : KT} {P : PT} {J : IT} {res : Int × IT} (C0 : FC D cy B p s m meth c "RejudgeHallModel" cX8_placeAnew 3) (hr : meth.sig.returnType = (some .int)) (hWT : WT K P) : ∀ n : Nat, G_X8_placeAnew_27 p l e s m args below meth c D cy B L K P J res (f_X8_placeAnew_27 K P  n)
  | 0 => by
    intro I a0 x1 x2 H locs ls ka0 rx1 rx2 hF hl hf
    cases hf
  | n + 1 => by
    have ih : G_X8_placeAnew_27 p l e s m args below meth c D cy B L K P J res (f_X8_placeAnew_27 K P  n)  := b_X8_placeAnew_27 C0 hr hWT  n
    intro I a0 x1 x2 H locs ls ka0 rx1 rx2 hF hl hf
    rw [f_X8_placeAnew_27] at hf
    refine lv_iload_n C0.1 C0.2.1 dX8_placeAnew_27 rfl (lv_at hl 2 rfl) ?_
    refine lv_aload_n C0.1 C0.2.1 dX8_placeAnew_28 rfl (lv_at hl 0 rfl) ?_
    refine fl_geti (k := 13) ck_9 C0 hF ka0 rfl ⟨rfl, rfl⟩ aw_887 dX8_placeAnew_29 ?_
    refine fl_icmp_ge (tgt := 61) C0 rx2 (hF.rI _ _) dX8_placeAnew_32 (by decide) (fun c5 => ?_) (fun c5 => ?_)
    · replace hf := (if_pos c5).symm.trans hf
      exact b_X8_placeAnew_61 C0 hr hWT  I a0 x1 _ _ _ ka0 rx1 hF (lv_sub hl [0, 1] rfl) hf
    · replace hf := (if_neg c5).symm.trans hf
      refine lv_aload_n C0.1 C0.2.1 dX8_placeAnew_35 rfl (lv_at hl 0 rfl) ?_
      refine fl_getr (k := 33) (t := 340) ck_9 C0 hF ka0 rfl (wt_at (k := 33) (t := 340) hWT ka0 rfl) rfl ⟨rfl, rfl⟩ aw_907 dX8_placeAnew_36 ?_
      refine lv_iload_n C0.1 C0.2.1 dX8_placeAnew_39 rfl (lv_at hl 2 rfl) ?_
      refine lv_aload_n C0.1 C0.2.1 dX8_placeAnew_40 rfl (lv_at hl 0 rfl) ?_
      refine lv_iload_n C0.1 C0.2.1 dX8_placeAnew_41 rfl (lv_at hl 2 rfl) ?_
      obtain ⟨r6, I6, hq6, hf⟩ := bi_f hf
      refine fl_ri hF (fl_runV (As := [iv x2]) (rest := [iv x2, .ref (P a0 33)]) C0 hF hl.1 ck_9 ka0 rfl (c_X8_firstFailed l D cy B L K P J hWT I a0 x2 ka0 rx2 hq6) aw_1103 aw_1105 aw_54 aw_73 aw_1106 rfl rfl pm_X8_firstFailed rfl rfl ⟨Nat.le_of_ble_eq_true rfl, Nat.le_of_ble_eq_true rfl⟩ rfl (Nat.le_of_ble_eq_true rfl) dX8_placeAnew_42 ⟨Nat.le_of_ble_eq_true rfl, Nat.le_of_ble_eq_true rfl⟩) (fun H locs hF6 rr6 => ?_)
      refine fl_iconst C0 dX8_placeAnew_45 ?_
      refine fl_icmp_ne (tgt := 53) C0 rr6 (rgk (-1) rfl) dX8_placeAnew_46 (by decide) (fun c7 => ?_) (fun c7 => ?_)
      · replace hf := (if_neg c7).symm.trans hf
        refine fl_iconst C0 dX8_placeAnew_53 ?_
        exact b_X8_placeAnew_54 C0 hr hWT ih I6 a0 x1 x2 1 x2 ((P a0 33)) _ _ _ ka0 rx1 rx2 ((rgk 1 rfl)) rx2 ((wt_at (k := 33) (t := 340) hWT ka0 rfl)) hF6 (lv_sub hl [0, 1, 2] rfl) hf
      · replace hf := (if_pos c7).symm.trans hf
        refine fl_iconst C0 dX8_placeAnew_49 ?_
        refine fl_goto (tgt := 54) C0 dX8_placeAnew_50 (by decide) ?_
        exact b_X8_placeAnew_54 C0 hr hWT ih I6 a0 x1 x2 0 x2 ((P a0 33)) _ _ _ ka0 rx1 rx2 ((rgk 0 rfl)) rx2 ((wt_at (k := 33) (t := 340) hWT ka0 rfl)) hF6 (lv_sub hl [0, 1, 2] rfl) hf
set_option maxRecDepth 100000 in
set_option maxHeartbeats 4000000 in
theorem b_X8_placeAnew_13 {p : Program} {l : Launch} {e : Env} {s : State} {m : MethodId} {args : Array Value} {below : List Frame} {meth : Method} {c : Code} {D : va_G} {cy : Nat → ClassId} {B : Nat} {L : List Nat} {K : KT} {P : PT} {J : IT} {res : Int × IT} (C0 : FC D cy B p s m meth c "RejudgeHallModel" cX8_placeAnew 3) (hr : meth.sig.returnType = (some .int)) (hWT : WT K P) : G_X8_placeAnew_13 p l e s m args below meth c D cy B L K P J res (f_X8_placeAnew_13 K P ) := by
  intro I a0 x1 t0 b1 H locs ls ka0 rx1 rt0 kb1 hF hl hf
  unfold f_X8_placeAnew_13 at hf
  refine fl_puti (k := 38) ck_9 C0 hF kb1 rfl rt0 ⟨rfl, rfl, rfl⟩ aw_912 dX8_placeAnew_13 (fun H locs hF3 => ?_)
  obtain ⟨I3, eI3, hf⟩ := bnd_f hf
  rw [eI3] at hF3
  refine lv_aload_n C0.1 C0.2.1 dX8_placeAnew_16 rfl (lv_at hl 0 rfl) ?_
  refine fl_geti (k := 38) ck_9 C0 hF3 ka0 rfl ⟨rfl, rfl⟩ aw_912 dX8_placeAnew_17 ?_
  refine fl_if_le (tgt := 25) C0 (hF3.rI _ _) dX8_placeAnew_20 (by decide) (fun c4 => ?_) (fun c4 => ?_)
  · replace hf := (if_pos c4).symm.trans hf
    refine fl_iconst C0 dX8_placeAnew_25 ?_
    refine lv_istore_n (lv' := [(2, iv 0), (0, .ref a0), (1, iv x1)]) C0.1 C0.2.1 dX8_placeAnew_26 rfl hl (by decide) rfl (fun ls hl => ?_)
    exact b_X8_placeAnew_27 C0 hr hWT  FU I3 a0 x1 0 _ _ _ ka0 rx1 ((rgk 0 rfl)) hF3 (lv_sub hl [1, 2, 0] rfl) hf
  · replace hf := (if_neg c4).symm.trans hf
    refine fl_iconst C0 dX8_placeAnew_23 ?_
    cases hf
    exact fl_iret C0 hF3 hr (rgk 0 rfl) rfl dX8_placeAnew_24
theorem pm_X8_placeAnew : plainM yX8_placeAnew 1 := by decide +kernel
set_option maxRecDepth 100000 in
set_option maxHeartbeats 4000000 in
theorem c_X8_placeAnew (l : Launch) (D : va_G) (cy : Nat → ClassId) (B : Nat) (L : List Nat) (K : KT) (P : PT) (J : IT) (hWT : WT K P) (I : IT) (a0 : Nat) (x1 : Int) (ka0 : K a0 = 9) (rx1 : rg x1) {r : Int} {I' : IT} (hf : f_X8_placeAnew K P I a0 x1 = some (r, I')) : Met l yX8_placeAnew [.code yX8_placeAnew cX8_placeAnew 3 (some .int)] rm_X8_placeAnew (va_Pc [.ref a0, iv x1] (FW D cy B L K P J I)) (QI D cy B L K P J (r, I')) 0 0 (fun q => B ≤ q) := by
  refine fl_body (own := "RejudgeHallModel") [.ref a0, iv x1] (by decide) rfl (Nat.le_of_ble_eq_true rfl) ?_
  intro p e s m args below meth c ls C0 hr hF hl
  have hl : lv_has ls 3 [(0, .ref a0), (1, iv x1)] := hl
  unfold f_X8_placeAnew at hf
  refine lv_aload_n C0.1 C0.2.1 dX8_placeAnew_0 rfl (lv_at hl 0 rfl) ?_
  refine lv_iload_n C0.1 C0.2.1 dX8_placeAnew_1 rfl (lv_at hl 1 rfl) ?_
  obtain ⟨r1, hq1, hf⟩ := bp_f hf
  refine fl_ri hF (fl_runSG (As := [iv x1]) (rest := [.ref a0]) C0 hF hl.1 (c_X8_isTeam l D cy B L K P J hWT I x1 rx1 hq1) aw_1084 aw_1085 aw_73 aw_1086 rfl pm_X8_isTeam rfl rfl ⟨Nat.le_of_ble_eq_true rfl, Nat.le_of_ble_eq_true rfl⟩ rfl (Nat.le_of_ble_eq_true rfl) dX8_placeAnew_2 ⟨Nat.le_of_ble_eq_true rfl, Nat.le_of_ble_eq_true rfl⟩) (fun H locs hF1 rr1 => ?_)
  refine fl_if_eq (tgt := 12) C0 rr1 dX8_placeAnew_5 (by decide) (fun c2 => ?_) (fun c2 => ?_)
  · replace hf := (if_pos c2).symm.trans hf
    refine fl_iconst C0 dX8_placeAnew_12 ?_
    exact b_X8_placeAnew_13 C0 hr hWT  I a0 x1 1 a0 _ _ _ ka0 rx1 ((rgk 1 rfl)) ka0 hF1 (lv_sub hl [0, 1] rfl) hf
  · replace hf := (if_neg c2).symm.trans hf
    refine fl_iconst C0 dX8_placeAnew_8 ?_
    refine fl_goto (tgt := 13) C0 dX8_placeAnew_9 (by decide) ?_
    exact b_X8_placeAnew_13 C0 hr hWT  I a0 x1 0 a0 _ _ _ ka0 rx1 ((rgk 0 rfl)) ka0 hF1 (lv_sub hl [0, 1] rfl) hf
-- RejudgeHallModel.hack(II)Z
abbrev rm_X8_hack : Room := { frames := 8, cells := 0, slots := 0, locals := 193 }
def f_X8_hack_183 (K : KT) (P : PT) (I : IT) (a0 : Nat) (x5 : Int) : Option (Int × IT) := bnd (up I ((P a0 4)) (72 : Int).toNat 0) fun I25 => ck (x5 = 0 ∨ x5 = 1) <| some (x5, I25)
def f_X8_hack_165 (K : KT) (P : PT) (I : IT) (a0 : Nat) (x2 : Int) (x3 : Int) (x5 : Int) (t0 : Int) (t1 : Int) (t2 : Int) (b3 : Nat) : Option (Int × IT) := ck (0 ≤ t2 ∧ t2 < 8) <| bnd (up I b3 (t2 : Int).toNat (wr (t1 + t0))) fun I21 => if x5 = 0 then (f_X8_hack_183 K P  I21 a0 x5) else (bp (f_X8_becomes K P I21 a0 x3 3) fun I23 => bp (f_X8_judges K P I23 a0 x2) fun I24 => f_X8_hack_183 K P  I24 a0 x5)
def f_X8_hack_146 (K : KT) (P : PT) (I : IT) (a0 : Nat) (x1 : Int) (x2 : Int) (x3 : Int) (t0 : Int) : Option (Int × IT) := ck (0 ≤ x1 ∧ x1 < 8) <| if t0 = 0 then (f_X8_hack_165 K P  I a0 x2 x3 t0 ((-1)) ((I ((P a0 22)) (x1 : Int).toNat)) x1 ((P a0 22))) else (f_X8_hack_165 K P  I a0 x2 x3 t0 1 ((I ((P a0 22)) (x1 : Int).toNat)) x1 ((P a0 22)))
def f_X8_hack_115 (K : KT) (P : PT) (I : IT) (a0 : Nat) (x1 : Int) (x2 : Int) (x3 : Int) (t0 : Int) (b1 : Nat) : Option (Int × IT) := bnd (up I b1 38 t0) fun I16 => if (I16 a0 38) ≤ 0 then (bi (f_X8_does K P I16 a0 x3 ((wr (7 + x2))) 72) fun r18 I18 => if r18 = 0 then (f_X8_hack_146 K P  I18 a0 x1 x2 x3 0) else (f_X8_hack_146 K P  I18 a0 x1 x2 x3 1)) else (some (0, I16))
def f_X8_hack_114 (K : KT) (P : PT) (I : IT) (a0 : Nat) (x1 : Int) (x2 : Int) (x3 : Int) (b0 : Nat) : Option (Int × IT) := f_X8_hack_115 K P  I a0 x1 x2 x3 2 b0
def f_X8_hack_90 (K : KT) (P : PT) (I : IT) (a0 : Nat) (x1 : Int) (x2 : Int) (x3 : Int) (t0 : Int) : Option (Int × IT) := if t0 = 0 then (f_X8_hack_114 K P  I a0 x1 x2 x3 a0) else (bi (f_X8_answers K P I a0 ((wr (1 + x3))) 72) fun r14 I14 => if r14 = 0 then (f_X8_hack_114 K P  I14 a0 x1 x2 x3 a0) else (f_X8_hack_115 K P  I14 a0 x1 x2 x3 0 a0))
def f_X8_hack_89 (K : KT) (P : PT) (I : IT) (a0 : Nat) (x1 : Int) (x2 : Int) (x3 : Int) : Option (Int × IT) := f_X8_hack_90 K P  I a0 x1 x2 x3 0
def f_X8_hack_21 (K : KT) (P : PT) (I : IT) (a0 : Nat) (x1 : Int) (x2 : Int) (t0 : Int) (b1 : Nat) : Option (Int × IT) := bnd (up I b1 38 t0) fun I5 => if (I5 a0 38) ≤ 0 then (ck (0 ≤ x2 ∧ x2 < 60) <| bp (f_X8_tells K P I5 a0 0) fun I7 => bp (f_X8_counts K P I7 a0 x1 ((I5 ((P a0 15)) (x2 : Int).toNat))) fun r8 => if r8 = (-1) then (f_X8_hack_89 K P  I7 a0 x1 x2 ((I5 ((P a0 15)) (x2 : Int).toNat))) else (ck (0 ≤ x2 ∧ x2 < 60) <| if (I7 ((P a0 14)) (x2 : Int).toNat) = x1 then (f_X8_hack_89 K P  I7 a0 x1 x2 ((I5 ((P a0 15)) (x2 : Int).toNat))) else (ck (0 ≤ x2 ∧ x2 < 60) <| if (I7 ((P a0 17)) (x2 : Int).toNat) = 0 then (ck (0 ≤ (I5 ((P a0 15)) (x2 : Int).toNat) ∧ (I5 ((P a0 15)) (x2 : Int).toNat) < 6) <| if 12 ≤ (I7 ((P a0 10)) ((I5 ((P a0 15)) (x2 : Int).toNat) : Int).toNat) then (f_X8_hack_89 K P  I7 a0 x1 x2 ((I5 ((P a0 15)) (x2 : Int).toNat))) else (f_X8_hack_90 K P  I7 a0 x1 x2 ((I5 ((P a0 15)) (x2 : Int).toNat)) 1)) else (f_X8_hack_89 K P  I7 a0 x1 x2 ((I5 ((P a0 15)) (x2 : Int).toNat)))))) else (some (0, I5))
def f_X8_hack_20 (K : KT) (P : PT) (I : IT) (a0 : Nat) (x1 : Int) (x2 : Int) (b0 : Nat) : Option (Int × IT) := f_X8_hack_21 K P  I a0 x1 x2 1 b0
def f_X8_hack (K : KT) (P : PT) (I : IT) (a0 : Nat) (x1 : Int) (x2 : Int) : Option (Int × IT) := bp (f_X8_isTeam K P I x1) fun r1 => if r1 = 0 then (f_X8_hack_20 K P  I a0 x1 x2 a0) else (bp (f_X8_isEntry K P I a0 x2) fun r3 => if r3 = 0 then (f_X8_hack_20 K P  I a0 x1 x2 a0) else (f_X8_hack_21 K P  I a0 x1 x2 0 a0))
abbrev G_X8_hack_183 (p : Program) (l : Launch) (e : Env) (s : State) (m : MethodId) (args : Array Value) (below : List Frame) (meth : Method) (c : Code) (D : va_G) (cy : Nat → ClassId) (B : Nat) (L : List Nat) (K : KT) (P : PT) (J : IT) (res : Int × IT) (f : IT → Nat → Int → Option (Int × IT)) : Prop := ∀ (I : IT) (a0 : Nat) (x5 : Int) (H : Heap) (locs : List Loc) (ls : Array Slot), K a0 = 9 → rg x5 → FS D cy B L K P J s.heap I H locs → lv_has ls 6 [(0, .ref a0), (5, iv x5)] → f I a0 x5 = some res → W p l e rm_X8_hack s m args below meth c H locs 0 0 (MQ below (QI D cy B L K P J res) args s 0 0 (fun q => B ≤ q)) (F0 m 183 ls [])
abbrev G_X8_hack_165 (p : Program) (l : Launch) (e : Env) (s : State) (m : MethodId) (args : Array Value) (below : List Frame) (meth : Method) (c : Code) (D : va_G) (cy : Nat → ClassId) (B : Nat) (L : List Nat) (K : KT) (P : PT) (J : IT) (res : Int × IT) (f : IT → Nat → Int → Int → Int → Int → Int → Int → Nat → Option (Int × IT)) : Prop := ∀ (I : IT) (a0 : Nat) (x2 : Int) (x3 : Int) (x5 : Int) (t0 : Int) (t1 : Int) (t2 : Int) (b3 : Nat) (H : Heap) (locs : List Loc) (ls : Array Slot), K a0 = 9 → rg x2 → rg x3 → rg x5 → rg t0 → rg t1 → rg t2 → K b3 = 132 → FS D cy B L K P J s.heap I H locs → lv_has ls 6 [(0, .ref a0), (2, iv x2), (3, iv x3), (5, iv x5)] → f I a0 x2 x3 x5 t0 t1 t2 b3 = some res → W p l e rm_X8_hack s m args below meth c H locs 0 0 (MQ below (QI D cy B L K P J res) args s 0 0 (fun q => B ≤ q)) (F0 m 165 ls [iv t0, iv t1, iv t2, .ref b3])
abbrev G_X8_hack_146 (p : Program) (l : Launch) (e : Env) (s : State) (m : MethodId) (args : Array Value) (below : List Frame) (meth : Method) (c : Code) (D : va_G) (cy : Nat → ClassId) (B : Nat) (L : List Nat) (K : KT) (P : PT) (J : IT) (res : Int × IT) (f : IT → Nat → Int → Int → Int → Int → Option (Int × IT)) : Prop := ∀ (I : IT) (a0 : Nat) (x1 : Int) (x2 : Int) (x3 : Int) (t0 : Int) (H : Heap) (locs : List Loc) (ls : Array Slot), K a0 = 9 → rg x1 → rg x2 → rg x3 → rg t0 → FS D cy B L K P J s.heap I H locs → lv_has ls 6 [(0, .ref a0), (1, iv x1), (2, iv x2), (3, iv x3)] → f I a0 x1 x2 x3 t0 = some res → W p l e rm_X8_hack s m args below meth c H locs 0 0 (MQ below (QI D cy B L K P J res) args s 0 0 (fun q => B ≤ q)) (F0 m 146 ls [iv t0])
abbrev G_X8_hack_115 (p : Program) (l : Launch) (e : Env) (s : State) (m : MethodId) (args : Array Value) (below : List Frame) (meth : Method) (c : Code) (D : va_G) (cy : Nat → ClassId) (B : Nat) (L : List Nat) (K : KT) (P : PT) (J : IT) (res : Int × IT) (f : IT → Nat → Int → Int → Int → Int → Nat → Option (Int × IT)) : Prop := ∀ (I : IT) (a0 : Nat) (x1 : Int) (x2 : Int) (x3 : Int) (t0 : Int) (b1 : Nat) (H : Heap) (locs : List Loc) (ls : Array Slot), K a0 = 9 → rg x1 → rg x2 → rg x3 → rg t0 → K b1 = 9 → FS D cy B L K P J s.heap I H locs → lv_has ls 6 [(0, .ref a0), (1, iv x1), (2, iv x2), (3, iv x3)] → f I a0 x1 x2 x3 t0 b1 = some res → W p l e rm_X8_hack s m args below meth c H locs 0 0 (MQ below (QI D cy B L K P J res) args s 0 0 (fun q => B ≤ q)) (F0 m 115 ls [iv t0, .ref b1])
abbrev G_X8_hack_114 (p : Program) (l : Launch) (e : Env) (s : State) (m : MethodId) (args : Array Value) (below : List Frame) (meth : Method) (c : Code) (D : va_G) (cy : Nat → ClassId) (B : Nat) (L : List Nat) (K : KT) (P : PT) (J : IT) (res : Int × IT) (f : IT → Nat → Int → Int → Int → Nat → Option (Int × IT)) : Prop := ∀ (I : IT) (a0 : Nat) (x1 : Int) (x2 : Int) (x3 : Int) (b0 : Nat) (H : Heap) (locs : List Loc) (ls : Array Slot), K a0 = 9 → rg x1 → rg x2 → rg x3 → K b0 = 9 → FS D cy B L K P J s.heap I H locs → lv_has ls 6 [(0, .ref a0), (1, iv x1), (2, iv x2), (3, iv x3)] → f I a0 x1 x2 x3 b0 = some res → W p l e rm_X8_hack s m args below meth c H locs 0 0 (MQ below (QI D cy B L K P J res) args s 0 0 (fun q => B ≤ q)) (F0 m 114 ls [.ref b0])
abbrev G_X8_hack_90 (p : Program) (l : Launch) (e : Env) (s : State) (m : MethodId) (args : Array Value) (below : List Frame) (meth : Method) (c : Code) (D : va_G) (cy : Nat → ClassId) (B : Nat) (L : List Nat) (K : KT) (P : PT) (J : IT) (res : Int × IT) (f : IT → Nat → Int → Int → Int → Int → Option (Int × IT)) : Prop := ∀ (I : IT) (a0 : Nat) (x1 : Int) (x2 : Int) (x3 : Int) (t0 : Int) (H : Heap) (locs : List Loc) (ls : Array Slot), K a0 = 9 → rg x1 → rg x2 → rg x3 → rg t0 → FS D cy B L K P J s.heap I H locs → lv_has ls 6 [(0, .ref a0), (1, iv x1), (2, iv x2), (3, iv x3)] → f I a0 x1 x2 x3 t0 = some res → W p l e rm_X8_hack s m args below meth c H locs 0 0 (MQ below (QI D cy B L K P J res) args s 0 0 (fun q => B ≤ q)) (F0 m 90 ls [iv t0])
abbrev G_X8_hack_89 (p : Program) (l : Launch) (e : Env) (s : State) (m : MethodId) (args : Array Value) (below : List Frame) (meth : Method) (c : Code) (D : va_G) (cy : Nat → ClassId) (B : Nat) (L : List Nat) (K : KT) (P : PT) (J : IT) (res : Int × IT) (f : IT → Nat → Int → Int → Int → Option (Int × IT)) : Prop := ∀ (I : IT) (a0 : Nat) (x1 : Int) (x2 : Int) (x3 : Int) (H : Heap) (locs : List Loc) (ls : Array Slot), K a0 = 9 → rg x1 → rg x2 → rg x3 → FS D cy B L K P J s.heap I H locs → lv_has ls 6 [(0, .ref a0), (1, iv x1), (2, iv x2), (3, iv x3)] → f I a0 x1 x2 x3 = some res → W p l e rm_X8_hack s m args below meth c H locs 0 0 (MQ below (QI D cy B L K P J res) args s 0 0 (fun q => B ≤ q)) (F0 m 89 ls [])
abbrev G_X8_hack_21 (p : Program) (l : Launch) (e : Env) (s : State) (m : MethodId) (args : Array Value) (below : List Frame) (meth : Method) (c : Code) (D : va_G) (cy : Nat → ClassId) (B : Nat) (L : List Nat) (K : KT) (P : PT) (J : IT) (res : Int × IT) (f : IT → Nat → Int → Int → Int → Nat → Option (Int × IT)) : Prop := ∀ (I : IT) (a0 : Nat) (x1 : Int) (x2 : Int) (t0 : Int) (b1 : Nat) (H : Heap) (locs : List Loc) (ls : Array Slot), K a0 = 9 → rg x1 → rg x2 → rg t0 → K b1 = 9 → FS D cy B L K P J s.heap I H locs → lv_has ls 6 [(0, .ref a0), (1, iv x1), (2, iv x2)] → f I a0 x1 x2 t0 b1 = some res → W p l e rm_X8_hack s m args below meth c H locs 0 0 (MQ below (QI D cy B L K P J res) args s 0 0 (fun q => B ≤ q)) (F0 m 21 ls [iv t0, .ref b1])
abbrev G_X8_hack_20 (p : Program) (l : Launch) (e : Env) (s : State) (m : MethodId) (args : Array Value) (below : List Frame) (meth : Method) (c : Code) (D : va_G) (cy : Nat → ClassId) (B : Nat) (L : List Nat) (K : KT) (P : PT) (J : IT) (res : Int × IT) (f : IT → Nat → Int → Int → Nat → Option (Int × IT)) : Prop := ∀ (I : IT) (a0 : Nat) (x1 : Int) (x2 : Int) (b0 : Nat) (H : Heap) (locs : List Loc) (ls : Array Slot), K a0 = 9 → rg x1 → rg x2 → K b0 = 9 → FS D cy B L K P J s.heap I H locs → lv_has ls 6 [(0, .ref a0), (1, iv x1), (2, iv x2)] → f I a0 x1 x2 b0 = some res → W p l e rm_X8_hack s m args below meth c H locs 0 0 (MQ below (QI D cy B L K P J res) args s 0 0 (fun q => B ≤ q)) (F0 m 20 ls [.ref b0])
set_option maxRecDepth 100000 in
set_option maxHeartbeats 4000000 in
theorem b_X8_hack_183 {p : Program} {l : Launch} {e : Env} {s : State} {m : MethodId} {args : Array Value} {below : List Frame} {meth : Method} {c : Code} {D : va_G} {cy : Nat → ClassId} {B : Nat} {L : List Nat} {K : KT} {P : PT} {J : IT} {res : Int × IT} (C0 : FC D cy B p s m meth c "RejudgeHallModel" cX8_hack 6) (hr : meth.sig.returnType = (some .boolean)) (hWT : WT K P) : G_X8_hack_183 p l e s m args below meth c D cy B L K P J res (f_X8_hack_183 K P ) := by
  intro I a0 x5 H locs ls ka0 rx5 hF hl hf
  unfold f_X8_hack_183 at hf
  refine lv_aload_n C0.1 C0.2.1 dX8_hack_183 rfl (lv_at hl 0 rfl) ?_
  refine fl_getr (k := 4) (t := 392) ck_9 C0 hF ka0 rfl (wt_at (k := 4) (t := 392) hWT ka0 rfl) rfl ⟨rfl, rfl⟩ aw_878 dX8_hack_184 ?_
  refine fl_bipush C0 dX8_hack_187 (by decide) ?_
  refine fl_iconst C0 dX8_hack_189 ?_
  refine fl_iast (n := 73) C0 hF (wt_at (k := 4) (t := 392) hWT ka0 rfl) (rgk 72 rfl) (rgk 0 rfl) ⟨by decide, by decide⟩ dX8_hack_190 (fun H locs hF25 => ?_)
  obtain ⟨I25, eI25, hf⟩ := bnd_f hf
  rw [eI25] at hF25
  refine lv_iload C0.1 C0.2.1 dX8_hack_191 (lv_at hl 1 rfl) ?_
  obtain ⟨hz, hf⟩ := ck_f hf
  cases hf
  exact fl_zret C0 hF25 hr rx5 hz rfl dX8_hack_193
set_option maxRecDepth 100000 in
set_option maxHeartbeats 4000000 in
theorem b_X8_hack_165 {p : Program} {l : Launch} {e : Env} {s : State} {m : MethodId} {args : Array Value} {below : List Frame} {meth : Method} {c : Code} {D : va_G} {cy : Nat → ClassId} {B : Nat} {L : List Nat} {K : KT} {P : PT} {J : IT} {res : Int × IT} (C0 : FC D cy B p s m meth c "RejudgeHallModel" cX8_hack 6) (hr : meth.sig.returnType = (some .boolean)) (hWT : WT K P) : G_X8_hack_165 p l e s m args below meth c D cy B L K P J res (f_X8_hack_165 K P ) := by
  intro I a0 x2 x3 x5 t0 t1 t2 b3 H locs ls ka0 rx2 rx3 rx5 rt0 rt1 rt2 kb3 hF hl hf
  unfold f_X8_hack_165 at hf
  refine fl_iadd C0 dX8_hack_165 ?_
  obtain ⟨hc, hf⟩ := ck_f hf
  refine fl_iast (n := 8) C0 hF kb3 rt2 (rg_wr _) hc dX8_hack_166 (fun H locs hF21 => ?_)
  obtain ⟨I21, eI21, hf⟩ := bnd_f hf
  rw [eI21] at hF21
  refine lv_iload C0.1 C0.2.1 dX8_hack_167 (lv_at hl 3 rfl) ?_
  refine fl_if_eq (tgt := 183) C0 rx5 dX8_hack_169 (by decide) (fun c22 => ?_) (fun c22 => ?_)
  · replace hf := (if_pos c22).symm.trans hf
    exact b_X8_hack_183 C0 hr hWT  I21 a0 x5 _ _ _ ka0 rx5 hF21 (lv_sub hl [0, 3] rfl) hf
  · replace hf := (if_neg c22).symm.trans hf
    refine lv_aload_n C0.1 C0.2.1 dX8_hack_172 rfl (lv_at hl 0 rfl) ?_
    refine lv_iload_n C0.1 C0.2.1 dX8_hack_173 rfl (lv_at hl 2 rfl) ?_
    refine fl_iconst C0 dX8_hack_174 ?_
    obtain ⟨I23, hq23, hf⟩ := bp_f hf
    refine fl_rv hF21 (fl_runV (As := [iv x3, iv 3]) (rest := []) C0 hF21 hl.1 ck_9 ka0 rfl (c_X8_becomes l D cy B L K P J hWT I21 a0 x3 3 ka0 rx3 ((rgk 3 rfl)) hq23) aw_1064 aw_1066 aw_51 aw_73 aw_1067 rfl rfl pm_X8_becomes rfl rfl ⟨Nat.le_of_ble_eq_true rfl, Nat.le_of_ble_eq_true rfl⟩ rfl (Nat.le_of_ble_eq_true rfl) dX8_hack_175 ⟨Nat.le_of_ble_eq_true rfl, Nat.le_of_ble_eq_true rfl⟩) (fun H locs hF23 => ?_)
    refine lv_aload_n C0.1 C0.2.1 dX8_hack_178 rfl (lv_at hl 0 rfl) ?_
    refine lv_iload_n C0.1 C0.2.1 dX8_hack_179 rfl (lv_at hl 1 rfl) ?_
    obtain ⟨I24, hq24, hf⟩ := bp_f hf
    refine fl_rv hF23 (fl_runV (As := [iv x2]) (rest := []) C0 hF23 hl.1 ck_9 ka0 rfl (c_X8_judges l D cy B L K P J hWT I23 a0 x2 ka0 rx2 hq24) aw_1095 aw_1097 aw_52 aw_73 aw_1098 rfl rfl pm_X8_judges rfl rfl ⟨Nat.le_of_ble_eq_true rfl, Nat.le_of_ble_eq_true rfl⟩ rfl (Nat.le_of_ble_eq_true rfl) dX8_hack_180 ⟨Nat.le_of_ble_eq_true rfl, Nat.le_of_ble_eq_true rfl⟩) (fun H locs hF24 => ?_)
    exact b_X8_hack_183 C0 hr hWT  I24 a0 x5 _ _ _ ka0 rx5 hF24 (lv_sub hl [0, 3] rfl) hf
set_option maxRecDepth 100000 in
set_option maxHeartbeats 4000000 in
theorem b_X8_hack_146 {p : Program} {l : Launch} {e : Env} {s : State} {m : MethodId} {args : Array Value} {below : List Frame} {meth : Method} {c : Code} {D : va_G} {cy : Nat → ClassId} {B : Nat} {L : List Nat} {K : KT} {P : PT} {J : IT} {res : Int × IT} (C0 : FC D cy B p s m meth c "RejudgeHallModel" cX8_hack 6) (hr : meth.sig.returnType = (some .boolean)) (hWT : WT K P) : G_X8_hack_146 p l e s m args below meth c D cy B L K P J res (f_X8_hack_146 K P ) := by
  intro I a0 x1 x2 x3 t0 H locs ls ka0 rx1 rx2 rx3 rt0 hF hl hf
  unfold f_X8_hack_146 at hf
  refine lv_istore (lv' := [(5, iv t0), (0, .ref a0), (1, iv x1), (2, iv x2), (3, iv x3)]) C0.1 C0.2.1 dX8_hack_146 hl (by decide) rfl (fun ls hl => ?_)
  refine lv_aload_n C0.1 C0.2.1 dX8_hack_148 rfl (lv_at hl 1 rfl) ?_
  refine fl_getr (k := 22) (t := 132) ck_9 C0 hF ka0 rfl (wt_at (k := 22) (t := 132) hWT ka0 rfl) rfl ⟨rfl, rfl⟩ aw_896 dX8_hack_149 ?_
  refine lv_iload_n C0.1 C0.2.1 dX8_hack_152 rfl (lv_at hl 2 rfl) ?_
  refine lv_dup2_11 C0.1 C0.2.1 dX8_hack_153 rfl rfl ?_
  obtain ⟨hc, hf⟩ := ck_f hf
  refine fl_iald (n := 8) C0 hF (wt_at (k := 22) (t := 132) hWT ka0 rfl) rx1 hc dX8_hack_154 ?_
  refine lv_iload C0.1 C0.2.1 dX8_hack_155 (lv_at hl 0 rfl) ?_
  refine fl_if_eq (tgt := 164) C0 rt0 dX8_hack_157 (by decide) (fun c20 => ?_) (fun c20 => ?_)
  · replace hf := (if_pos c20).symm.trans hf
    refine fl_iconst C0 dX8_hack_164 ?_
    exact b_X8_hack_165 C0 hr hWT  I a0 x2 x3 t0 ((-1)) ((I ((P a0 22)) (x1 : Int).toNat)) x1 ((P a0 22)) _ _ _ ka0 rx2 rx3 rt0 ((rgk (-1) rfl)) ((hF.rI _ _)) rx1 ((wt_at (k := 22) (t := 132) hWT ka0 rfl)) hF (lv_sub hl [1, 3, 4, 0] rfl) hf
  · replace hf := (if_neg c20).symm.trans hf
    refine fl_iconst C0 dX8_hack_160 ?_
    refine fl_goto (tgt := 165) C0 dX8_hack_161 (by decide) ?_
    exact b_X8_hack_165 C0 hr hWT  I a0 x2 x3 t0 1 ((I ((P a0 22)) (x1 : Int).toNat)) x1 ((P a0 22)) _ _ _ ka0 rx2 rx3 rt0 ((rgk 1 rfl)) ((hF.rI _ _)) rx1 ((wt_at (k := 22) (t := 132) hWT ka0 rfl)) hF (lv_sub hl [1, 3, 4, 0] rfl) hf
set_option maxRecDepth 100000 in
set_option maxHeartbeats 4000000 in
theorem b_X8_hack_115 {p : Program} {l : Launch} {e : Env} {s : State} {m : MethodId} {args : Array Value} {below : List Frame} {meth : Method} {c : Code} {D : va_G} {cy : Nat → ClassId} {B : Nat} {L : List Nat} {K : KT} {P : PT} {J : IT} {res : Int × IT} (C0 : FC D cy B p s m meth c "RejudgeHallModel" cX8_hack 6) (hr : meth.sig.returnType = (some .boolean)) (hWT : WT K P) : G_X8_hack_115 p l e s m args below meth c D cy B L K P J res (f_X8_hack_115 K P ) := by
  intro I a0 x1 x2 x3 t0 b1 H locs ls ka0 rx1 rx2 rx3 rt0 kb1 hF hl hf
  unfold f_X8_hack_115 at hf
  refine fl_puti (k := 38) ck_9 C0 hF kb1 rfl rt0 ⟨rfl, rfl, rfl⟩ aw_912 dX8_hack_115 (fun H locs hF16 => ?_)
  obtain ⟨I16, eI16, hf⟩ := bnd_f hf
  rw [eI16] at hF16
  refine lv_aload_n C0.1 C0.2.1 dX8_hack_118 rfl (lv_at hl 0 rfl) ?_
  refine fl_geti (k := 38) ck_9 C0 hF16 ka0 rfl ⟨rfl, rfl⟩ aw_912 dX8_hack_119 ?_
  refine fl_if_le (tgt := 127) C0 (hF16.rI _ _) dX8_hack_122 (by decide) (fun c17 => ?_) (fun c17 => ?_)
  · replace hf := (if_pos c17).symm.trans hf
    refine lv_aload_n C0.1 C0.2.1 dX8_hack_127 rfl (lv_at hl 0 rfl) ?_
    refine lv_iload_n C0.1 C0.2.1 dX8_hack_128 rfl (lv_at hl 3 rfl) ?_
    refine fl_bipush C0 dX8_hack_129 (by decide) ?_
    refine lv_iload_n C0.1 C0.2.1 dX8_hack_131 rfl (lv_at hl 2 rfl) ?_
    refine fl_iadd C0 dX8_hack_132 ?_
    refine fl_bipush C0 dX8_hack_133 (by decide) ?_
    obtain ⟨r18, I18, hq18, hf⟩ := bi_f hf
    refine fl_ri hF16 (fl_runV (As := [iv x3, iv (wr (7 + x2)), iv 72]) (rest := []) C0 hF16 hl.1 ck_9 ka0 rfl (c_X8_does l D cy B L K P J hWT I16 a0 x3 ((wr (7 + x2))) 72 ka0 rx3 ((rg_wr _)) ((rgk 72 rfl)) hq18) aw_1099 aw_1101 aw_53 aw_73 aw_1102 rfl rfl pm_X8_does rfl rfl ⟨Nat.le_of_ble_eq_true rfl, Nat.le_of_ble_eq_true rfl⟩ rfl (Nat.le_of_ble_eq_true rfl) dX8_hack_135 ⟨Nat.le_of_ble_eq_true rfl, Nat.le_of_ble_eq_true rfl⟩) (fun H locs hF18 rr18 => ?_)
    refine fl_if_eq (tgt := 145) C0 rr18 dX8_hack_138 (by decide) (fun c19 => ?_) (fun c19 => ?_)
    · replace hf := (if_pos c19).symm.trans hf
      refine fl_iconst C0 dX8_hack_145 ?_
      exact b_X8_hack_146 C0 hr hWT  I18 a0 x1 x2 x3 0 _ _ _ ka0 rx1 rx2 rx3 ((rgk 0 rfl)) hF18 (lv_sub hl [0, 1, 2, 3] rfl) hf
    · replace hf := (if_neg c19).symm.trans hf
      refine fl_iconst C0 dX8_hack_141 ?_
      refine fl_goto (tgt := 146) C0 dX8_hack_142 (by decide) ?_
      exact b_X8_hack_146 C0 hr hWT  I18 a0 x1 x2 x3 1 _ _ _ ka0 rx1 rx2 rx3 ((rgk 1 rfl)) hF18 (lv_sub hl [0, 1, 2, 3] rfl) hf
  · replace hf := (if_neg c17).symm.trans hf
    refine fl_iconst C0 dX8_hack_125 ?_
    cases hf
    exact fl_zret C0 hF16 hr (rgk 0 rfl) (Or.inl rfl) rfl dX8_hack_126
set_option maxRecDepth 100000 in
set_option maxHeartbeats 4000000 in
theorem b_X8_hack_114 {p : Program} {l : Launch} {e : Env} {s : State} {m : MethodId} {args : Array Value} {below : List Frame} {meth : Method} {c : Code} {D : va_G} {cy : Nat → ClassId} {B : Nat} {L : List Nat} {K : KT} {P : PT} {J : IT} {res : Int × IT} (C0 : FC D cy B p s m meth c "RejudgeHallModel" cX8_hack 6) (hr : meth.sig.returnType = (some .boolean)) (hWT : WT K P) : G_X8_hack_114 p l e s m args below meth c D cy B L K P J res (f_X8_hack_114 K P ) := by
  intro I a0 x1 x2 x3 b0 H locs ls ka0 rx1 rx2 rx3 kb0 hF hl hf
  unfold f_X8_hack_114 at hf
  refine fl_iconst C0 dX8_hack_114 ?_
  exact b_X8_hack_115 C0 hr hWT  I a0 x1 x2 x3 2 b0 _ _ _ ka0 rx1 rx2 rx3 ((rgk 2 rfl)) kb0 hF (lv_sub hl [0, 1, 2, 3] rfl) hf
set_option maxRecDepth 100000 in
set_option maxHeartbeats 4000000 in
theorem b_X8_hack_90 {p : Program} {l : Launch} {e : Env} {s : State} {m : MethodId} {args : Array Value} {below : List Frame} {meth : Method} {c : Code} {D : va_G} {cy : Nat → ClassId} {B : Nat} {L : List Nat} {K : KT} {P : PT} {J : IT} {res : Int × IT} (C0 : FC D cy B p s m meth c "RejudgeHallModel" cX8_hack 6) (hr : meth.sig.returnType = (some .boolean)) (hWT : WT K P) : G_X8_hack_90 p l e s m args below meth c D cy B L K P J res (f_X8_hack_90 K P ) := by
  intro I a0 x1 x2 x3 t0 H locs ls ka0 rx1 rx2 rx3 rt0 hF hl hf
  unfold f_X8_hack_90 at hf
  refine lv_istore (lv' := [(4, iv t0), (0, .ref a0), (1, iv x1), (2, iv x2), (3, iv x3)]) C0.1 C0.2.1 dX8_hack_90 hl (by decide) rfl (fun ls hl => ?_)
  refine lv_aload_n C0.1 C0.2.1 dX8_hack_92 rfl (lv_at hl 1 rfl) ?_
  refine lv_iload C0.1 C0.2.1 dX8_hack_93 (lv_at hl 0 rfl) ?_
  refine fl_if_eq (tgt := 114) C0 rt0 dX8_hack_95 (by decide) (fun c13 => ?_) (fun c13 => ?_)
  · replace hf := (if_pos c13).symm.trans hf
    exact b_X8_hack_114 C0 hr hWT  I a0 x1 x2 x3 a0 _ _ _ ka0 rx1 rx2 rx3 ka0 hF (lv_sub hl [1, 2, 3, 4] rfl) hf
  · replace hf := (if_neg c13).symm.trans hf
    refine lv_aload_n C0.1 C0.2.1 dX8_hack_98 rfl (lv_at hl 1 rfl) ?_
    refine fl_iconst C0 dX8_hack_99 ?_
    refine lv_iload_n C0.1 C0.2.1 dX8_hack_100 rfl (lv_at hl 4 rfl) ?_
    refine fl_iadd C0 dX8_hack_101 ?_
    refine fl_bipush C0 dX8_hack_102 (by decide) ?_
    obtain ⟨r14, I14, hq14, hf⟩ := bi_f hf
    refine fl_ri hF (fl_runV (As := [iv (wr (1 + x3)), iv 72]) (rest := [.ref a0]) C0 hF hl.1 ck_9 ka0 rfl (c_X8_answers l D cy B L K P J hWT I a0 ((wr (1 + x3))) 72 ka0 ((rg_wr _)) ((rgk 72 rfl)) hq14) aw_1060 aw_1062 aw_50 aw_73 aw_1063 rfl rfl pm_X8_answers rfl rfl ⟨Nat.le_of_ble_eq_true rfl, Nat.le_of_ble_eq_true rfl⟩ rfl (Nat.le_of_ble_eq_true rfl) dX8_hack_104 ⟨Nat.le_of_ble_eq_true rfl, Nat.le_of_ble_eq_true rfl⟩) (fun H locs hF14 rr14 => ?_)
    refine fl_if_eq (tgt := 114) C0 rr14 dX8_hack_107 (by decide) (fun c15 => ?_) (fun c15 => ?_)
    · replace hf := (if_pos c15).symm.trans hf
      exact b_X8_hack_114 C0 hr hWT  I14 a0 x1 x2 x3 a0 _ _ _ ka0 rx1 rx2 rx3 ka0 hF14 (lv_sub hl [1, 2, 3, 4] rfl) hf
    · replace hf := (if_neg c15).symm.trans hf
      refine fl_iconst C0 dX8_hack_110 ?_
      refine fl_goto (tgt := 115) C0 dX8_hack_111 (by decide) ?_
      exact b_X8_hack_115 C0 hr hWT  I14 a0 x1 x2 x3 0 a0 _ _ _ ka0 rx1 rx2 rx3 ((rgk 0 rfl)) ka0 hF14 (lv_sub hl [1, 2, 3, 4] rfl) hf
set_option maxRecDepth 100000 in
set_option maxHeartbeats 4000000 in
theorem b_X8_hack_89 {p : Program} {l : Launch} {e : Env} {s : State} {m : MethodId} {args : Array Value} {below : List Frame} {meth : Method} {c : Code} {D : va_G} {cy : Nat → ClassId} {B : Nat} {L : List Nat} {K : KT} {P : PT} {J : IT} {res : Int × IT} (C0 : FC D cy B p s m meth c "RejudgeHallModel" cX8_hack 6) (hr : meth.sig.returnType = (some .boolean)) (hWT : WT K P) : G_X8_hack_89 p l e s m args below meth c D cy B L K P J res (f_X8_hack_89 K P ) := by
  intro I a0 x1 x2 x3 H locs ls ka0 rx1 rx2 rx3 hF hl hf
  unfold f_X8_hack_89 at hf
  refine fl_iconst C0 dX8_hack_89 ?_
  exact b_X8_hack_90 C0 hr hWT  I a0 x1 x2 x3 0 _ _ _ ka0 rx1 rx2 rx3 ((rgk 0 rfl)) hF (lv_sub hl [0, 1, 2, 3] rfl) hf
set_option maxRecDepth 100000 in
set_option maxHeartbeats 4000000 in
theorem b_X8_hack_21 {p : Program} {l : Launch} {e : Env} {s : State} {m : MethodId} {args : Array Value} {below : List Frame} {meth : Method} {c : Code} {D : va_G} {cy : Nat → ClassId} {B : Nat} {L : List Nat} {K : KT} {P : PT} {J : IT} {res : Int × IT} (C0 : FC D cy B p s m meth c "RejudgeHallModel" cX8_hack 6) (hr : meth.sig.returnType = (some .boolean)) (hWT : WT K P) : G_X8_hack_21 p l e s m args below meth c D cy B L K P J res (f_X8_hack_21 K P ) := by
  intro I a0 x1 x2 t0 b1 H locs ls ka0 rx1 rx2 rt0 kb1 hF hl hf
  unfold f_X8_hack_21 at hf
  refine fl_puti (k := 38) ck_9 C0 hF kb1 rfl rt0 ⟨rfl, rfl, rfl⟩ aw_912 dX8_hack_21 (fun H locs hF5 => ?_)
  obtain ⟨I5, eI5, hf⟩ := bnd_f hf
  rw [eI5] at hF5
  refine lv_aload_n C0.1 C0.2.1 dX8_hack_24 rfl (lv_at hl 0 rfl) ?_
  refine fl_geti (k := 38) ck_9 C0 hF5 ka0 rfl ⟨rfl, rfl⟩ aw_912 dX8_hack_25 ?_
  refine fl_if_le (tgt := 33) C0 (hF5.rI _ _) dX8_hack_28 (by decide) (fun c6 => ?_) (fun c6 => ?_)
  · replace hf := (if_pos c6).symm.trans hf
    refine lv_aload_n C0.1 C0.2.1 dX8_hack_33 rfl (lv_at hl 0 rfl) ?_
    refine fl_getr (k := 15) (t := 340) ck_9 C0 hF5 ka0 rfl (wt_at (k := 15) (t := 340) hWT ka0 rfl) rfl ⟨rfl, rfl⟩ aw_889 dX8_hack_34 ?_
    refine lv_iload_n C0.1 C0.2.1 dX8_hack_37 rfl (lv_at hl 2 rfl) ?_
    obtain ⟨hc, hf⟩ := ck_f hf
    refine fl_iald (n := 60) C0 hF5 (wt_at (k := 15) (t := 340) hWT ka0 rfl) rx2 hc dX8_hack_38 ?_
    refine lv_istore_n (lv' := [(3, iv (I5 ((P a0 15)) (x2 : Int).toNat)), (0, .ref a0), (1, iv x1), (2, iv x2)]) C0.1 C0.2.1 dX8_hack_39 rfl hl (by decide) rfl (fun ls hl => ?_)
    refine lv_aload_n C0.1 C0.2.1 dX8_hack_40 rfl (lv_at hl 1 rfl) ?_
    refine fl_iconst C0 dX8_hack_41 ?_
    obtain ⟨I7, hq7, hf⟩ := bp_f hf
    refine fl_rv hF5 (fl_runV (As := [iv 0]) (rest := []) C0 hF5 hl.1 ck_9 ka0 rfl (c_X8_tells l D cy B L K P J hWT I5 a0 0 ka0 ((rgk 0 rfl)) hq7) aw_1135 aw_1137 aw_57 aw_73 aw_1138 rfl rfl pm_X8_tells rfl rfl ⟨Nat.le_of_ble_eq_true rfl, Nat.le_of_ble_eq_true rfl⟩ rfl (Nat.le_of_ble_eq_true rfl) dX8_hack_42 ⟨Nat.le_of_ble_eq_true rfl, Nat.le_of_ble_eq_true rfl⟩) (fun H locs hF7 => ?_)
    refine lv_aload_n C0.1 C0.2.1 dX8_hack_45 rfl (lv_at hl 1 rfl) ?_
    refine lv_iload_n C0.1 C0.2.1 dX8_hack_46 rfl (lv_at hl 2 rfl) ?_
    refine lv_iload_n C0.1 C0.2.1 dX8_hack_47 rfl (lv_at hl 0 rfl) ?_
    obtain ⟨r8, hq8, hf⟩ := bp_f hf
    refine fl_ri hF7 (fl_runV (As := [iv x1, iv (I5 ((P a0 15)) (x2 : Int).toNat)]) (rest := []) C0 hF7 hl.1 ck_9 ka0 rfl (c_X8_counts l D cy B L K P J hWT I7 a0 x1 ((I5 ((P a0 15)) (x2 : Int).toNat)) ka0 rx1 ((hF5.rI _ _)) hq8) aw_1147 aw_1149 aw_60 aw_73 aw_1150 rfl rfl pm_X8_counts rfl rfl ⟨Nat.le_of_ble_eq_true rfl, Nat.le_of_ble_eq_true rfl⟩ rfl (Nat.le_of_ble_eq_true rfl) dX8_hack_48 ⟨Nat.le_of_ble_eq_true rfl, Nat.le_of_ble_eq_true rfl⟩) (fun H locs hF8 rr8 => ?_)
    refine fl_iconst C0 dX8_hack_51 ?_
    refine fl_icmp_eq (tgt := 89) C0 rr8 (rgk (-1) rfl) dX8_hack_52 (by decide) (fun c9 => ?_) (fun c9 => ?_)
    · replace hf := (if_pos c9).symm.trans hf
      exact b_X8_hack_89 C0 hr hWT  I7 a0 x1 x2 ((I5 ((P a0 15)) (x2 : Int).toNat)) _ _ _ ka0 rx1 rx2 ((hF5.rI _ _)) hF8 (lv_sub hl [1, 2, 3, 0] rfl) hf
    · replace hf := (if_neg c9).symm.trans hf
      refine lv_aload_n C0.1 C0.2.1 dX8_hack_55 rfl (lv_at hl 1 rfl) ?_
      refine fl_getr (k := 14) (t := 340) ck_9 C0 hF8 ka0 rfl (wt_at (k := 14) (t := 340) hWT ka0 rfl) rfl ⟨rfl, rfl⟩ aw_888 dX8_hack_56 ?_
      refine lv_iload_n C0.1 C0.2.1 dX8_hack_59 rfl (lv_at hl 3 rfl) ?_
      obtain ⟨hc, hf⟩ := ck_f hf
      refine fl_iald (n := 60) C0 hF8 (wt_at (k := 14) (t := 340) hWT ka0 rfl) rx2 hc dX8_hack_60 ?_
      refine lv_iload_n C0.1 C0.2.1 dX8_hack_61 rfl (lv_at hl 2 rfl) ?_
      refine fl_icmp_eq (tgt := 89) C0 (hF8.rI _ _) rx1 dX8_hack_62 (by decide) (fun c10 => ?_) (fun c10 => ?_)
      · replace hf := (if_pos c10).symm.trans hf
        exact b_X8_hack_89 C0 hr hWT  I7 a0 x1 x2 ((I5 ((P a0 15)) (x2 : Int).toNat)) _ _ _ ka0 rx1 rx2 ((hF5.rI _ _)) hF8 (lv_sub hl [1, 2, 3, 0] rfl) hf
      · replace hf := (if_neg c10).symm.trans hf
        refine lv_aload_n C0.1 C0.2.1 dX8_hack_65 rfl (lv_at hl 1 rfl) ?_
        refine fl_getr (k := 17) (t := 340) ck_9 C0 hF8 ka0 rfl (wt_at (k := 17) (t := 340) hWT ka0 rfl) rfl ⟨rfl, rfl⟩ aw_891 dX8_hack_66 ?_
        refine lv_iload_n C0.1 C0.2.1 dX8_hack_69 rfl (lv_at hl 3 rfl) ?_
        obtain ⟨hc, hf⟩ := ck_f hf
        refine fl_iald (n := 60) C0 hF8 (wt_at (k := 17) (t := 340) hWT ka0 rfl) rx2 hc dX8_hack_70 ?_
        refine fl_if_ne (tgt := 89) C0 (hF8.rI _ _) dX8_hack_71 (by decide) (fun c11 => ?_) (fun c11 => ?_)
        · replace hf := (if_neg c11).symm.trans hf
          exact b_X8_hack_89 C0 hr hWT  I7 a0 x1 x2 ((I5 ((P a0 15)) (x2 : Int).toNat)) _ _ _ ka0 rx1 rx2 ((hF5.rI _ _)) hF8 (lv_sub hl [1, 2, 3, 0] rfl) hf
        · replace hf := (if_pos c11).symm.trans hf
          refine lv_aload_n C0.1 C0.2.1 dX8_hack_74 rfl (lv_at hl 1 rfl) ?_
          refine fl_getr (k := 10) (t := 124) ck_9 C0 hF8 ka0 rfl (wt_at (k := 10) (t := 124) hWT ka0 rfl) rfl ⟨rfl, rfl⟩ aw_884 dX8_hack_75 ?_
          refine lv_iload_n C0.1 C0.2.1 dX8_hack_78 rfl (lv_at hl 0 rfl) ?_
          obtain ⟨hc, hf⟩ := ck_f hf
          refine fl_iald (n := 6) C0 hF8 (wt_at (k := 10) (t := 124) hWT ka0 rfl) (hF5.rI _ _) hc dX8_hack_79 ?_
          refine fl_bipush C0 dX8_hack_80 (by decide) ?_
          refine fl_icmp_ge (tgt := 89) C0 (hF8.rI _ _) (rgk 12 rfl) dX8_hack_82 (by decide) (fun c12 => ?_) (fun c12 => ?_)
          · replace hf := (if_pos c12).symm.trans hf
            exact b_X8_hack_89 C0 hr hWT  I7 a0 x1 x2 ((I5 ((P a0 15)) (x2 : Int).toNat)) _ _ _ ka0 rx1 rx2 ((hF5.rI _ _)) hF8 (lv_sub hl [1, 2, 3, 0] rfl) hf
          · replace hf := (if_neg c12).symm.trans hf
            refine fl_iconst C0 dX8_hack_85 ?_
            refine fl_goto (tgt := 90) C0 dX8_hack_86 (by decide) ?_
            exact b_X8_hack_90 C0 hr hWT  I7 a0 x1 x2 ((I5 ((P a0 15)) (x2 : Int).toNat)) 1 _ _ _ ka0 rx1 rx2 ((hF5.rI _ _)) ((rgk 1 rfl)) hF8 (lv_sub hl [1, 2, 3, 0] rfl) hf
  · replace hf := (if_neg c6).symm.trans hf
    refine fl_iconst C0 dX8_hack_31 ?_
    cases hf
    exact fl_zret C0 hF5 hr (rgk 0 rfl) (Or.inl rfl) rfl dX8_hack_32
set_option maxRecDepth 100000 in
set_option maxHeartbeats 4000000 in
theorem b_X8_hack_20 {p : Program} {l : Launch} {e : Env} {s : State} {m : MethodId} {args : Array Value} {below : List Frame} {meth : Method} {c : Code} {D : va_G} {cy : Nat → ClassId} {B : Nat} {L : List Nat} {K : KT} {P : PT} {J : IT} {res : Int × IT} (C0 : FC D cy B p s m meth c "RejudgeHallModel" cX8_hack 6) (hr : meth.sig.returnType = (some .boolean)) (hWT : WT K P) : G_X8_hack_20 p l e s m args below meth c D cy B L K P J res (f_X8_hack_20 K P ) := by
  intro I a0 x1 x2 b0 H locs ls ka0 rx1 rx2 kb0 hF hl hf
  unfold f_X8_hack_20 at hf
  refine fl_iconst C0 dX8_hack_20 ?_
  exact b_X8_hack_21 C0 hr hWT  I a0 x1 x2 1 b0 _ _ _ ka0 rx1 rx2 ((rgk 1 rfl)) kb0 hF (lv_sub hl [0, 1, 2] rfl) hf
theorem pm_X8_hack : plainM yX8_hack 2 := by decide +kernel
set_option maxRecDepth 100000 in
set_option maxHeartbeats 4000000 in
theorem c_X8_hack (l : Launch) (D : va_G) (cy : Nat → ClassId) (B : Nat) (L : List Nat) (K : KT) (P : PT) (J : IT) (hWT : WT K P) (I : IT) (a0 : Nat) (x1 : Int) (x2 : Int) (ka0 : K a0 = 9) (rx1 : rg x1) (rx2 : rg x2) {r : Int} {I' : IT} (hf : f_X8_hack K P I a0 x1 x2 = some (r, I')) : Met l yX8_hack [.code yX8_hack cX8_hack 6 (some .boolean)] rm_X8_hack (va_Pc [.ref a0, iv x1, iv x2] (FW D cy B L K P J I)) (QI D cy B L K P J (r, I')) 0 0 (fun q => B ≤ q) := by
  refine fl_body (own := "RejudgeHallModel") [.ref a0, iv x1, iv x2] (by decide) rfl (Nat.le_of_ble_eq_true rfl) ?_
  intro p e s m args below meth c ls C0 hr hF hl
  have hl : lv_has ls 6 [(0, .ref a0), (1, iv x1), (2, iv x2)] := hl
  unfold f_X8_hack at hf
  refine lv_aload_n C0.1 C0.2.1 dX8_hack_0 rfl (lv_at hl 0 rfl) ?_
  refine lv_iload_n C0.1 C0.2.1 dX8_hack_1 rfl (lv_at hl 1 rfl) ?_
  obtain ⟨r1, hq1, hf⟩ := bp_f hf
  refine fl_ri hF (fl_runSG (As := [iv x1]) (rest := [.ref a0]) C0 hF hl.1 (c_X8_isTeam l D cy B L K P J hWT I x1 rx1 hq1) aw_1084 aw_1085 aw_73 aw_1086 rfl pm_X8_isTeam rfl rfl ⟨Nat.le_of_ble_eq_true rfl, Nat.le_of_ble_eq_true rfl⟩ rfl (Nat.le_of_ble_eq_true rfl) dX8_hack_2 ⟨Nat.le_of_ble_eq_true rfl, Nat.le_of_ble_eq_true rfl⟩) (fun H locs hF1 rr1 => ?_)
  refine fl_if_eq (tgt := 20) C0 rr1 dX8_hack_5 (by decide) (fun c2 => ?_) (fun c2 => ?_)
  · replace hf := (if_pos c2).symm.trans hf
    exact b_X8_hack_20 C0 hr hWT  I a0 x1 x2 a0 _ _ _ ka0 rx1 rx2 ka0 hF1 (lv_sub hl [0, 1, 2] rfl) hf
  · replace hf := (if_neg c2).symm.trans hf
    refine lv_aload_n C0.1 C0.2.1 dX8_hack_8 rfl (lv_at hl 0 rfl) ?_
    refine lv_iload_n C0.1 C0.2.1 dX8_hack_9 rfl (lv_at hl 2 rfl) ?_
    obtain ⟨r3, hq3, hf⟩ := bp_f hf
    refine fl_ri hF1 (fl_runV (As := [iv x2]) (rest := [.ref a0]) C0 hF1 hl.1 ck_9 ka0 rfl (c_X8_isEntry l D cy B L K P J hWT I a0 x2 ka0 rx2 hq3) aw_1115 aw_1117 aw_55 aw_73 aw_1118 rfl rfl pm_X8_isEntry rfl rfl ⟨Nat.le_of_ble_eq_true rfl, Nat.le_of_ble_eq_true rfl⟩ rfl (Nat.le_of_ble_eq_true rfl) dX8_hack_10 ⟨Nat.le_of_ble_eq_true rfl, Nat.le_of_ble_eq_true rfl⟩) (fun H locs hF3 rr3 => ?_)
    refine fl_if_eq (tgt := 20) C0 rr3 dX8_hack_13 (by decide) (fun c4 => ?_) (fun c4 => ?_)
    · replace hf := (if_pos c4).symm.trans hf
      exact b_X8_hack_20 C0 hr hWT  I a0 x1 x2 a0 _ _ _ ka0 rx1 rx2 ka0 hF3 (lv_sub hl [0, 1, 2] rfl) hf
    · replace hf := (if_neg c4).symm.trans hf
      refine fl_iconst C0 dX8_hack_16 ?_
      refine fl_goto (tgt := 21) C0 dX8_hack_17 (by decide) ?_
      exact b_X8_hack_21 C0 hr hWT  I a0 x1 x2 0 a0 _ _ _ ka0 rx1 rx2 ((rgk 0 rfl)) ka0 hF3 (lv_sub hl [0, 1, 2] rfl) hf
