-- RejudgeHall$Row.isFull()Z
abbrev rm_X4_isFull : Room := { frames := 0, cells := 0, slots := 0, locals := 0 }
def f_X4_isFull (K : KT) (P : PT) (I : IT) (a0 : Nat) : Option (Int) := if (I a0 1) < 8 then (some 0) else (some 1)
theorem pm_X4_isFull : plainM yX4_isFull 0 := by decide +kernel
set_option maxRecDepth 100000 in
set_option maxHeartbeats 4000000 in
theorem c_X4_isFull (l : Launch) (D : va_G) (cy : Nat → ClassId) (B : Nat) (L : List Nat) (K : KT) (P : PT) (J : IT) (hWT : WT K P) (I : IT) (a0 : Nat) (ka0 : K a0 = 5) {r : Int} (hf : f_X4_isFull K P I a0 = some r) : Met l yX4_isFull [.code yX4_isFull cX4_isFull 1 (some .boolean)] rm_X4_isFull (va_Pc [.ref a0] (FW D cy B L K P J I)) (QI D cy B L K P J (r, I)) 0 0 (fun q => B ≤ q) := by
  refine fl_body (own := "RejudgeHall$Row") [.ref a0] (by decide) rfl (Nat.le_of_ble_eq_true rfl) ?_
  intro p e s m args below meth c ls C0 hr hF hl
  have hl : lv_has ls 1 [(0, .ref a0)] := hl
  unfold f_X4_isFull at hf
  refine lv_aload_n C0.1 C0.2.1 dX4_isFull_0 rfl (lv_at hl 0 rfl) ?_
  refine fl_geti (k := 1) ck_5 C0 hF ka0 rfl ⟨rfl, rfl⟩ aw_104 dX4_isFull_1 ?_
  refine fl_bipush C0 dX4_isFull_4 (by decide) ?_
  refine fl_icmp_lt (tgt := 13) C0 (hF.rI _ _) (rgk 8 rfl) dX4_isFull_6 (by decide) (fun c1 => ?_) (fun c1 => ?_)
  · replace hf := (if_pos c1).symm.trans hf
    refine fl_iconst C0 dX4_isFull_13 ?_
    cases hf
    exact fl_zret C0 hF hr (rgk 0 rfl) (Or.inl rfl) rfl dX4_isFull_14
  · replace hf := (if_neg c1).symm.trans hf
    refine fl_iconst C0 dX4_isFull_9 ?_
    refine fl_goto (tgt := 14) C0 dX4_isFull_10 (by decide) ?_
    cases hf
    exact fl_zret C0 hF hr (rgk 1 rfl) (Or.inr rfl) rfl dX4_isFull_14
-- RejudgeHall$Row.push(I)V
abbrev rm_X4_push : Room := { frames := 0, cells := 0, slots := 0, locals := 0 }
def f_X4_push (K : KT) (P : PT) (I : IT) (a0 : Nat) (x1 : Int) : Option (IT) := if (I a0 1) < 0 then (some I) else (if 8 ≤ (I a0 1) then (some I) else (ck (0 ≤ (I a0 1) ∧ (I a0 1) < 8) <| bnd (up I ((P a0 0)) ((I a0 1) : Int).toNat x1) fun I3 => bnd (up I3 a0 1 (wr ((I3 a0 1) + 1))) fun I4 => some I4))
theorem pm_X4_push : plainM yX4_push 1 := by decide +kernel
set_option maxRecDepth 100000 in
set_option maxHeartbeats 4000000 in
theorem c_X4_push (l : Launch) (D : va_G) (cy : Nat → ClassId) (B : Nat) (L : List Nat) (K : KT) (P : PT) (J : IT) (hWT : WT K P) (I : IT) (a0 : Nat) (x1 : Int) (ka0 : K a0 = 5) (rx1 : rg x1) {I' : IT} (hf : f_X4_push K P I a0 x1 = some I') : Met l yX4_push [.code yX4_push cX4_push 2 none] rm_X4_push (va_Pc [.ref a0, iv x1] (FW D cy B L K P J I)) (QV D cy B L K P J I') 0 0 (fun q => B ≤ q) := by
  refine fl_body (own := "RejudgeHall$Row") [.ref a0, iv x1] (by decide) rfl (Nat.le_of_ble_eq_true rfl) ?_
  intro p e s m args below meth c ls C0 hr hF hl
  have hl : lv_has ls 2 [(0, .ref a0), (1, iv x1)] := hl
  unfold f_X4_push at hf
  refine lv_aload_n C0.1 C0.2.1 dX4_push_0 rfl (lv_at hl 0 rfl) ?_
  refine fl_geti (k := 1) ck_5 C0 hF ka0 rfl ⟨rfl, rfl⟩ aw_104 dX4_push_1 ?_
  refine fl_if_lt (tgt := 36) C0 (hF.rI _ _) dX4_push_4 (by decide) (fun c1 => ?_) (fun c1 => ?_)
  · replace hf := (if_pos c1).symm.trans hf
    cases hf
    exact fl_vret C0 hF hr rfl dX4_push_36
  · replace hf := (if_neg c1).symm.trans hf
    refine lv_aload_n C0.1 C0.2.1 dX4_push_7 rfl (lv_at hl 0 rfl) ?_
    refine fl_geti (k := 1) ck_5 C0 hF ka0 rfl ⟨rfl, rfl⟩ aw_104 dX4_push_8 ?_
    refine fl_bipush C0 dX4_push_11 (by decide) ?_
    refine fl_icmp_ge (tgt := 36) C0 (hF.rI _ _) (rgk 8 rfl) dX4_push_13 (by decide) (fun c2 => ?_) (fun c2 => ?_)
    · replace hf := (if_pos c2).symm.trans hf
      cases hf
      exact fl_vret C0 hF hr rfl dX4_push_36
    · replace hf := (if_neg c2).symm.trans hf
      refine lv_aload_n C0.1 C0.2.1 dX4_push_16 rfl (lv_at hl 0 rfl) ?_
      refine fl_getr (k := 0) (t := 132) ck_5 C0 hF ka0 rfl (wt_at (k := 0) (t := 132) hWT ka0 rfl) rfl ⟨rfl, rfl⟩ aw_103 dX4_push_17 ?_
      refine lv_aload_n C0.1 C0.2.1 dX4_push_20 rfl (lv_at hl 0 rfl) ?_
      refine fl_geti (k := 1) ck_5 C0 hF ka0 rfl ⟨rfl, rfl⟩ aw_104 dX4_push_21 ?_
      refine lv_iload_n C0.1 C0.2.1 dX4_push_24 rfl (lv_at hl 1 rfl) ?_
      obtain ⟨hc, hf⟩ := ck_f hf
      refine fl_iast (n := 8) C0 hF (wt_at (k := 0) (t := 132) hWT ka0 rfl) (hF.rI _ _) rx1 hc dX4_push_25 (fun H locs hF3 => ?_)
      obtain ⟨I3, eI3, hf⟩ := bnd_f hf
      rw [eI3] at hF3
      refine lv_aload_n C0.1 C0.2.1 dX4_push_26 rfl (lv_at hl 0 rfl) ?_
      refine lv_dup C0.1 C0.2.1 dX4_push_27 rfl ?_
      refine fl_geti (k := 1) ck_5 C0 hF3 ka0 rfl ⟨rfl, rfl⟩ aw_104 dX4_push_28 ?_
      refine fl_iconst C0 dX4_push_31 ?_
      refine fl_iadd C0 dX4_push_32 ?_
      refine fl_puti (k := 1) ck_5 C0 hF3 ka0 rfl (rg_wr _) ⟨rfl, rfl, rfl⟩ aw_104 dX4_push_33 (fun H locs hF4 => ?_)
      obtain ⟨I4, eI4, hf⟩ := bnd_f hf
      rw [eI4] at hF4
      cases hf
      exact fl_vret C0 hF4 hr rfl dX4_push_36
-- RejudgeHall$Row.pop()I
abbrev rm_X4_pop : Room := { frames := 0, cells := 0, slots := 0, locals := 0 }
def f_X4_pop (K : KT) (P : PT) (I : IT) (a0 : Nat) : Option (Int × IT) := if (I a0 1) ≤ 0 then (some (0, I)) else (if (I a0 1) ≤ 8 then (bnd (up I a0 1 (wr ((I a0 1) - 1))) fun I3 => ck (0 ≤ (I3 a0 1) ∧ (I3 a0 1) < 8) <| some ((I3 ((P a0 0)) ((I3 a0 1) : Int).toNat), I3)) else (some (0, I)))
theorem pm_X4_pop : plainM yX4_pop 0 := by decide +kernel
set_option maxRecDepth 100000 in
set_option maxHeartbeats 4000000 in
theorem c_X4_pop (l : Launch) (D : va_G) (cy : Nat → ClassId) (B : Nat) (L : List Nat) (K : KT) (P : PT) (J : IT) (hWT : WT K P) (I : IT) (a0 : Nat) (ka0 : K a0 = 5) {r : Int} {I' : IT} (hf : f_X4_pop K P I a0 = some (r, I')) : Met l yX4_pop [.code yX4_pop cX4_pop 1 (some .int)] rm_X4_pop (va_Pc [.ref a0] (FW D cy B L K P J I)) (QI D cy B L K P J (r, I')) 0 0 (fun q => B ≤ q) := by
  refine fl_body (own := "RejudgeHall$Row") [.ref a0] (by decide) rfl (Nat.le_of_ble_eq_true rfl) ?_
  intro p e s m args below meth c ls C0 hr hF hl
  have hl : lv_has ls 1 [(0, .ref a0)] := hl
  unfold f_X4_pop at hf
  refine lv_aload_n C0.1 C0.2.1 dX4_pop_0 rfl (lv_at hl 0 rfl) ?_
  refine fl_geti (k := 1) ck_5 C0 hF ka0 rfl ⟨rfl, rfl⟩ aw_104 dX4_pop_1 ?_
  refine fl_if_le (tgt := 16) C0 (hF.rI _ _) dX4_pop_4 (by decide) (fun c1 => ?_) (fun c1 => ?_)
  · replace hf := (if_pos c1).symm.trans hf
    refine fl_iconst C0 dX4_pop_16 ?_
    cases hf
    exact fl_iret C0 hF hr (rgk 0 rfl) rfl dX4_pop_17
  · replace hf := (if_neg c1).symm.trans hf
    refine lv_aload_n C0.1 C0.2.1 dX4_pop_7 rfl (lv_at hl 0 rfl) ?_
    refine fl_geti (k := 1) ck_5 C0 hF ka0 rfl ⟨rfl, rfl⟩ aw_104 dX4_pop_8 ?_
    refine fl_bipush C0 dX4_pop_11 (by decide) ?_
    refine fl_icmp_le (tgt := 18) C0 (hF.rI _ _) (rgk 8 rfl) dX4_pop_13 (by decide) (fun c2 => ?_) (fun c2 => ?_)
    · replace hf := (if_pos c2).symm.trans hf
      refine lv_aload_n C0.1 C0.2.1 dX4_pop_18 rfl (lv_at hl 0 rfl) ?_
      refine lv_dup C0.1 C0.2.1 dX4_pop_19 rfl ?_
      refine fl_geti (k := 1) ck_5 C0 hF ka0 rfl ⟨rfl, rfl⟩ aw_104 dX4_pop_20 ?_
      refine fl_iconst C0 dX4_pop_23 ?_
      refine fl_isub C0 dX4_pop_24 ?_
      refine fl_puti (k := 1) ck_5 C0 hF ka0 rfl (rg_wr _) ⟨rfl, rfl, rfl⟩ aw_104 dX4_pop_25 (fun H locs hF3 => ?_)
      obtain ⟨I3, eI3, hf⟩ := bnd_f hf
      rw [eI3] at hF3
      refine lv_aload_n C0.1 C0.2.1 dX4_pop_28 rfl (lv_at hl 0 rfl) ?_
      refine fl_getr (k := 0) (t := 132) ck_5 C0 hF3 ka0 rfl (wt_at (k := 0) (t := 132) hWT ka0 rfl) rfl ⟨rfl, rfl⟩ aw_103 dX4_pop_29 ?_
      refine lv_aload_n C0.1 C0.2.1 dX4_pop_32 rfl (lv_at hl 0 rfl) ?_
      refine fl_geti (k := 1) ck_5 C0 hF3 ka0 rfl ⟨rfl, rfl⟩ aw_104 dX4_pop_33 ?_
      obtain ⟨hc, hf⟩ := ck_f hf
      refine fl_iald (n := 8) C0 hF3 (wt_at (k := 0) (t := 132) hWT ka0 rfl) (hF3.rI _ _) hc dX4_pop_36 ?_
      cases hf
      exact fl_iret C0 hF3 hr (hF3.rI _ _) rfl dX4_pop_37
    · replace hf := (if_neg c2).symm.trans hf
      refine fl_iconst C0 dX4_pop_16 ?_
      cases hf
      exact fl_iret C0 hF hr (rgk 0 rfl) rfl dX4_pop_17
-- RejudgeHall$Row.at(I)I
abbrev rm_X4_at : Room := { frames := 0, cells := 0, slots := 0, locals := 0 }
def f_X4_at (K : KT) (P : PT) (I : IT) (a0 : Nat) (x1 : Int) : Option (Int) := if x1 < 0 then (some 0) else (if (I a0 1) ≤ x1 then (some 0) else (if 8 ≤ x1 then (some 0) else (ck (0 ≤ x1 ∧ x1 < 8) <| some ((I ((P a0 0)) (x1 : Int).toNat)))))
theorem pm_X4_at : plainM yX4_at 1 := by decide +kernel
set_option maxRecDepth 100000 in
set_option maxHeartbeats 4000000 in
theorem c_X4_at (l : Launch) (D : va_G) (cy : Nat → ClassId) (B : Nat) (L : List Nat) (K : KT) (P : PT) (J : IT) (hWT : WT K P) (I : IT) (a0 : Nat) (x1 : Int) (ka0 : K a0 = 5) (rx1 : rg x1) {r : Int} (hf : f_X4_at K P I a0 x1 = some r) : Met l yX4_at [.code yX4_at cX4_at 2 (some .int)] rm_X4_at (va_Pc [.ref a0, iv x1] (FW D cy B L K P J I)) (QI D cy B L K P J (r, I)) 0 0 (fun q => B ≤ q) := by
  refine fl_body (own := "RejudgeHall$Row") [.ref a0, iv x1] (by decide) rfl (Nat.le_of_ble_eq_true rfl) ?_
  intro p e s m args below meth c ls C0 hr hF hl
  have hl : lv_has ls 2 [(0, .ref a0), (1, iv x1)] := hl
  unfold f_X4_at at hf
  refine lv_iload_n C0.1 C0.2.1 dX4_at_0 rfl (lv_at hl 1 rfl) ?_
  refine fl_if_lt (tgt := 27) C0 rx1 dX4_at_1 (by decide) (fun c1 => ?_) (fun c1 => ?_)
  · replace hf := (if_pos c1).symm.trans hf
    refine fl_iconst C0 dX4_at_27 ?_
    cases hf
    exact fl_iret C0 hF hr (rgk 0 rfl) rfl dX4_at_28
  · replace hf := (if_neg c1).symm.trans hf
    refine lv_iload_n C0.1 C0.2.1 dX4_at_4 rfl (lv_at hl 1 rfl) ?_
    refine lv_aload_n C0.1 C0.2.1 dX4_at_5 rfl (lv_at hl 0 rfl) ?_
    refine fl_geti (k := 1) ck_5 C0 hF ka0 rfl ⟨rfl, rfl⟩ aw_104 dX4_at_6 ?_
    refine fl_icmp_ge (tgt := 27) C0 rx1 (hF.rI _ _) dX4_at_9 (by decide) (fun c2 => ?_) (fun c2 => ?_)
    · replace hf := (if_pos c2).symm.trans hf
      refine fl_iconst C0 dX4_at_27 ?_
      cases hf
      exact fl_iret C0 hF hr (rgk 0 rfl) rfl dX4_at_28
    · replace hf := (if_neg c2).symm.trans hf
      refine lv_iload_n C0.1 C0.2.1 dX4_at_12 rfl (lv_at hl 1 rfl) ?_
      refine fl_bipush C0 dX4_at_13 (by decide) ?_
      refine fl_icmp_ge (tgt := 27) C0 rx1 (rgk 8 rfl) dX4_at_15 (by decide) (fun c3 => ?_) (fun c3 => ?_)
      · replace hf := (if_pos c3).symm.trans hf
        refine fl_iconst C0 dX4_at_27 ?_
        cases hf
        exact fl_iret C0 hF hr (rgk 0 rfl) rfl dX4_at_28
      · replace hf := (if_neg c3).symm.trans hf
        refine lv_aload_n C0.1 C0.2.1 dX4_at_18 rfl (lv_at hl 0 rfl) ?_
        refine fl_getr (k := 0) (t := 132) ck_5 C0 hF ka0 rfl (wt_at (k := 0) (t := 132) hWT ka0 rfl) rfl ⟨rfl, rfl⟩ aw_103 dX4_at_19 ?_
        refine lv_iload_n C0.1 C0.2.1 dX4_at_22 rfl (lv_at hl 1 rfl) ?_
        obtain ⟨hc, hf⟩ := ck_f hf
        refine fl_iald (n := 8) C0 hF (wt_at (k := 0) (t := 132) hWT ka0 rfl) rx1 hc dX4_at_23 ?_
        refine fl_goto (tgt := 28) C0 dX4_at_24 (by decide) ?_
        cases hf
        exact fl_iret C0 hF hr (hF.rI _ _) rfl dX4_at_28
-- RejudgeHall$Program.append(II)V
abbrev rm_X3_append : Room := { frames := 0, cells := 0, slots := 0, locals := 0 }
def f_X3_append (K : KT) (P : PT) (I : IT) (a0 : Nat) (x1 : Int) (x2 : Int) : Option (IT) := if (I a0 2) < 0 then (some I) else (if 16 ≤ (I a0 2) then (some I) else (ck (0 ≤ (I a0 2) ∧ (I a0 2) < 16) <| bnd (up I ((P a0 0)) ((I a0 2) : Int).toNat x1) fun I3 => ck (0 ≤ (I3 a0 2) ∧ (I3 a0 2) < 16) <| bnd (up I3 ((P a0 1)) ((I3 a0 2) : Int).toNat x2) fun I4 => bnd (up I4 a0 2 (wr ((I4 a0 2) + 1))) fun I5 => some I5))
theorem pm_X3_append : plainM yX3_append 2 := by decide +kernel
set_option maxRecDepth 100000 in
set_option maxHeartbeats 4000000 in
theorem c_X3_append (l : Launch) (D : va_G) (cy : Nat → ClassId) (B : Nat) (L : List Nat) (K : KT) (P : PT) (J : IT) (hWT : WT K P) (I : IT) (a0 : Nat) (x1 : Int) (x2 : Int) (ka0 : K a0 = 4) (rx1 : rg x1) (rx2 : rg x2) {I' : IT} (hf : f_X3_append K P I a0 x1 x2 = some I') : Met l yX3_append [.code yX3_append cX3_append 3 none] rm_X3_append (va_Pc [.ref a0, iv x1, iv x2] (FW D cy B L K P J I)) (QV D cy B L K P J I') 0 0 (fun q => B ≤ q) := by
  refine fl_body (own := "RejudgeHall$Program") [.ref a0, iv x1, iv x2] (by decide) rfl (Nat.le_of_ble_eq_true rfl) ?_
  intro p e s m args below meth c ls C0 hr hF hl
  have hl : lv_has ls 3 [(0, .ref a0), (1, iv x1), (2, iv x2)] := hl
  unfold f_X3_append at hf
  refine lv_aload_n C0.1 C0.2.1 dX3_append_0 rfl (lv_at hl 0 rfl) ?_
  refine fl_geti (k := 2) ck_4 C0 hF ka0 rfl ⟨rfl, rfl⟩ aw_86 dX3_append_1 ?_
  refine fl_if_lt (tgt := 46) C0 (hF.rI _ _) dX3_append_4 (by decide) (fun c1 => ?_) (fun c1 => ?_)
  · replace hf := (if_pos c1).symm.trans hf
    cases hf
    exact fl_vret C0 hF hr rfl dX3_append_46
  · replace hf := (if_neg c1).symm.trans hf
    refine lv_aload_n C0.1 C0.2.1 dX3_append_7 rfl (lv_at hl 0 rfl) ?_
    refine fl_geti (k := 2) ck_4 C0 hF ka0 rfl ⟨rfl, rfl⟩ aw_86 dX3_append_8 ?_
    refine fl_bipush C0 dX3_append_11 (by decide) ?_
    refine fl_icmp_ge (tgt := 46) C0 (hF.rI _ _) (rgk 16 rfl) dX3_append_13 (by decide) (fun c2 => ?_) (fun c2 => ?_)
    · replace hf := (if_pos c2).symm.trans hf
      cases hf
      exact fl_vret C0 hF hr rfl dX3_append_46
    · replace hf := (if_neg c2).symm.trans hf
      refine lv_aload_n C0.1 C0.2.1 dX3_append_16 rfl (lv_at hl 0 rfl) ?_
      refine fl_getr (k := 0) (t := 164) ck_4 C0 hF ka0 rfl (wt_at (k := 0) (t := 164) hWT ka0 rfl) rfl ⟨rfl, rfl⟩ aw_82 dX3_append_17 ?_
      refine lv_aload_n C0.1 C0.2.1 dX3_append_20 rfl (lv_at hl 0 rfl) ?_
      refine fl_geti (k := 2) ck_4 C0 hF ka0 rfl ⟨rfl, rfl⟩ aw_86 dX3_append_21 ?_
      refine lv_iload_n C0.1 C0.2.1 dX3_append_24 rfl (lv_at hl 1 rfl) ?_
      obtain ⟨hc, hf⟩ := ck_f hf
      refine fl_iast (n := 16) C0 hF (wt_at (k := 0) (t := 164) hWT ka0 rfl) (hF.rI _ _) rx1 hc dX3_append_25 (fun H locs hF3 => ?_)
      obtain ⟨I3, eI3, hf⟩ := bnd_f hf
      rw [eI3] at hF3
      refine lv_aload_n C0.1 C0.2.1 dX3_append_26 rfl (lv_at hl 0 rfl) ?_
      refine fl_getr (k := 1) (t := 164) ck_4 C0 hF3 ka0 rfl (wt_at (k := 1) (t := 164) hWT ka0 rfl) rfl ⟨rfl, rfl⟩ aw_84 dX3_append_27 ?_
      refine lv_aload_n C0.1 C0.2.1 dX3_append_30 rfl (lv_at hl 0 rfl) ?_
      refine fl_geti (k := 2) ck_4 C0 hF3 ka0 rfl ⟨rfl, rfl⟩ aw_86 dX3_append_31 ?_
      refine lv_iload_n C0.1 C0.2.1 dX3_append_34 rfl (lv_at hl 2 rfl) ?_
      obtain ⟨hc, hf⟩ := ck_f hf
      refine fl_iast (n := 16) C0 hF3 (wt_at (k := 1) (t := 164) hWT ka0 rfl) (hF3.rI _ _) rx2 hc dX3_append_35 (fun H locs hF4 => ?_)
      obtain ⟨I4, eI4, hf⟩ := bnd_f hf
      rw [eI4] at hF4
      refine lv_aload_n C0.1 C0.2.1 dX3_append_36 rfl (lv_at hl 0 rfl) ?_
      refine lv_dup C0.1 C0.2.1 dX3_append_37 rfl ?_
      refine fl_geti (k := 2) ck_4 C0 hF4 ka0 rfl ⟨rfl, rfl⟩ aw_86 dX3_append_38 ?_
      refine fl_iconst C0 dX3_append_41 ?_
      refine fl_iadd C0 dX3_append_42 ?_
      refine fl_puti (k := 2) ck_4 C0 hF4 ka0 rfl (rg_wr _) ⟨rfl, rfl, rfl⟩ aw_86 dX3_append_43 (fun H locs hF5 => ?_)
      obtain ⟨I5, eI5, hf⟩ := bnd_f hf
      rw [eI5] at hF5
      cases hf
      exact fl_vret C0 hF5 hr rfl dX3_append_46
-- RejudgeHall$Program.has(I)Z
abbrev rm_X3_has : Room := { frames := 0, cells := 0, slots := 0, locals := 0 }
def f_X3_has (K : KT) (P : PT) (I : IT) (a0 : Nat) (x1 : Int) : Option (Int) := if x1 < 0 then (some 0) else (if (I a0 2) ≤ x1 then (some 0) else (if 16 ≤ x1 then (some 0) else (some 1)))
theorem pm_X3_has : plainM yX3_has 1 := by decide +kernel
set_option maxRecDepth 100000 in
set_option maxHeartbeats 4000000 in
theorem c_X3_has (l : Launch) (D : va_G) (cy : Nat → ClassId) (B : Nat) (L : List Nat) (K : KT) (P : PT) (J : IT) (hWT : WT K P) (I : IT) (a0 : Nat) (x1 : Int) (ka0 : K a0 = 4) (rx1 : rg x1) {r : Int} (hf : f_X3_has K P I a0 x1 = some r) : Met l yX3_has [.code yX3_has cX3_has 2 (some .boolean)] rm_X3_has (va_Pc [.ref a0, iv x1] (FW D cy B L K P J I)) (QI D cy B L K P J (r, I)) 0 0 (fun q => B ≤ q) := by
  refine fl_body (own := "RejudgeHall$Program") [.ref a0, iv x1] (by decide) rfl (Nat.le_of_ble_eq_true rfl) ?_
  intro p e s m args below meth c ls C0 hr hF hl
  have hl : lv_has ls 2 [(0, .ref a0), (1, iv x1)] := hl
  unfold f_X3_has at hf
  refine lv_iload_n C0.1 C0.2.1 dX3_has_0 rfl (lv_at hl 1 rfl) ?_
  refine fl_if_lt (tgt := 22) C0 rx1 dX3_has_1 (by decide) (fun c1 => ?_) (fun c1 => ?_)
  · replace hf := (if_pos c1).symm.trans hf
    refine fl_iconst C0 dX3_has_22 ?_
    cases hf
    exact fl_zret C0 hF hr (rgk 0 rfl) (Or.inl rfl) rfl dX3_has_23
  · replace hf := (if_neg c1).symm.trans hf
    refine lv_iload_n C0.1 C0.2.1 dX3_has_4 rfl (lv_at hl 1 rfl) ?_
    refine lv_aload_n C0.1 C0.2.1 dX3_has_5 rfl (lv_at hl 0 rfl) ?_
    refine fl_geti (k := 2) ck_4 C0 hF ka0 rfl ⟨rfl, rfl⟩ aw_86 dX3_has_6 ?_
    refine fl_icmp_ge (tgt := 22) C0 rx1 (hF.rI _ _) dX3_has_9 (by decide) (fun c2 => ?_) (fun c2 => ?_)
    · replace hf := (if_pos c2).symm.trans hf
      refine fl_iconst C0 dX3_has_22 ?_
      cases hf
      exact fl_zret C0 hF hr (rgk 0 rfl) (Or.inl rfl) rfl dX3_has_23
    · replace hf := (if_neg c2).symm.trans hf
      refine lv_iload_n C0.1 C0.2.1 dX3_has_12 rfl (lv_at hl 1 rfl) ?_
      refine fl_bipush C0 dX3_has_13 (by decide) ?_
      refine fl_icmp_ge (tgt := 22) C0 rx1 (rgk 16 rfl) dX3_has_15 (by decide) (fun c3 => ?_) (fun c3 => ?_)
      · replace hf := (if_pos c3).symm.trans hf
        refine fl_iconst C0 dX3_has_22 ?_
        cases hf
        exact fl_zret C0 hF hr (rgk 0 rfl) (Or.inl rfl) rfl dX3_has_23
      · replace hf := (if_neg c3).symm.trans hf
        refine fl_iconst C0 dX3_has_18 ?_
        refine fl_goto (tgt := 23) C0 dX3_has_19 (by decide) ?_
        cases hf
        exact fl_zret C0 hF hr (rgk 1 rfl) (Or.inr rfl) rfl dX3_has_23
-- RejudgeHall$Program.isAlikeAt(ILRejudgeHall$Program;I)Z
abbrev rm_X3_isAlikeAt : Room := { frames := 1, cells := 0, slots := 0, locals := 21 }
def f_X3_isAlikeAt_60 (K : KT) (P : PT) (I : IT) (a0 : Nat) (x1 : Int) (a2 : Nat) (x3 : Int) (t0 : Int) : Option (Int) := if t0 = 0 then (some 1) else (ck (0 ≤ x1 ∧ x1 < 16) <| ck (0 ≤ x3 ∧ x3 < 16) <| if (I ((P a0 1)) (x1 : Int).toNat) = (I ((P a2 1)) (x3 : Int).toNat) then (some 1) else (some 0))
def f_X3_isAlikeAt_55 (K : KT) (P : PT) (I : IT) (a0 : Nat) (x1 : Int) (a2 : Nat) (x3 : Int) : Option (Int) := f_X3_isAlikeAt_60 K P  I a0 x1 a2 x3 1
def f_X3_isAlikeAt (K : KT) (P : PT) (I : IT) (a0 : Nat) (x1 : Int) (a2 : Nat) (x3 : Int) : Option (Int) := bp (f_X3_has K P I a0 x1) fun r1 => if r1 = 0 then (some 0) else (bp (f_X3_has K P I a2 x3) fun r3 => if r3 = 0 then (some 0) else (ck (0 ≤ x1 ∧ x1 < 16) <| ck (0 ≤ x3 ∧ x3 < 16) <| if (I ((P a0 0)) (x1 : Int).toNat) = (I ((P a2 0)) (x3 : Int).toNat) then (ck (0 ≤ x1 ∧ x1 < 16) <| if (I ((P a0 0)) (x1 : Int).toNat) = 7 then (f_X3_isAlikeAt_55 K P  I a0 x1 a2 x3) else (ck (0 ≤ x1 ∧ x1 < 16) <| if (I ((P a0 0)) (x1 : Int).toNat) = 8 then (f_X3_isAlikeAt_55 K P  I a0 x1 a2 x3) else (f_X3_isAlikeAt_60 K P  I a0 x1 a2 x3 0))) else (some 0)))
abbrev G_X3_isAlikeAt_60 (p : Program) (l : Launch) (e : Env) (s : State) (m : MethodId) (args : Array Value) (below : List Frame) (meth : Method) (c : Code) (D : va_G) (cy : Nat → ClassId) (B : Nat) (L : List Nat) (K : KT) (P : PT) (J : IT) (res : Int) (I : IT) (f : Nat → Int → Nat → Int → Int → Option (Int)) : Prop := ∀ (a0 : Nat) (x1 : Int) (a2 : Nat) (x3 : Int) (t0 : Int) (H : Heap) (locs : List Loc) (ls : Array Slot), K a0 = 4 → rg x1 → K a2 = 4 → rg x3 → rg t0 → FS D cy B L K P J s.heap I H locs → lv_has ls 5 [(0, .ref a0), (1, iv x1), (2, .ref a2), (3, iv x3)] → f a0 x1 a2 x3 t0 = some res → W p l e rm_X3_isAlikeAt s m args below meth c H locs 0 0 (MQ below (QI D cy B L K P J (res, I)) args s 0 0 (fun q => B ≤ q)) (F0 m 60 ls [iv t0])
abbrev G_X3_isAlikeAt_55 (p : Program) (l : Launch) (e : Env) (s : State) (m : MethodId) (args : Array Value) (below : List Frame) (meth : Method) (c : Code) (D : va_G) (cy : Nat → ClassId) (B : Nat) (L : List Nat) (K : KT) (P : PT) (J : IT) (res : Int) (I : IT) (f : Nat → Int → Nat → Int → Option (Int)) : Prop := ∀ (a0 : Nat) (x1 : Int) (a2 : Nat) (x3 : Int) (H : Heap) (locs : List Loc) (ls : Array Slot), K a0 = 4 → rg x1 → K a2 = 4 → rg x3 → FS D cy B L K P J s.heap I H locs → lv_has ls 5 [(0, .ref a0), (1, iv x1), (2, .ref a2), (3, iv x3)] → f a0 x1 a2 x3 = some res → W p l e rm_X3_isAlikeAt s m args below meth c H locs 0 0 (MQ below (QI D cy B L K P J (res, I)) args s 0 0 (fun q => B ≤ q)) (F0 m 55 ls [])
set_option maxRecDepth 100000 in
set_option maxHeartbeats 4000000 in
theorem b_X3_isAlikeAt_60 {p : Program} {l : Launch} {e : Env} {s : State} {m : MethodId} {args : Array Value} {below : List Frame} {meth : Method} {c : Code} {D : va_G} {cy : Nat → ClassId} {B : Nat} {L : List Nat} {K : KT} {P : PT} {J : IT} {res : Int} {I : IT} (C0 : FC D cy B p s m meth c "RejudgeHall$Program" cX3_isAlikeAt 5) (hr : meth.sig.returnType = (some .boolean)) (hWT : WT K P) : G_X3_isAlikeAt_60 p l e s m args below meth c D cy B L K P J res I (f_X3_isAlikeAt_60 K P  I) := by
  intro a0 x1 a2 x3 t0 H locs ls ka0 rx1 ka2 rx3 rt0 hF hl hf
  unfold f_X3_isAlikeAt_60 at hf
  refine lv_istore (lv' := [(4, iv t0), (0, .ref a0), (1, iv x1), (2, .ref a2), (3, iv x3)]) C0.1 C0.2.1 dX3_isAlikeAt_60 hl (by decide) rfl (fun ls hl => ?_)
  refine lv_iload C0.1 C0.2.1 dX3_isAlikeAt_62 (lv_at hl 0 rfl) ?_
  refine fl_if_eq (tgt := 82) C0 rt0 dX3_isAlikeAt_64 (by decide) (fun c8 => ?_) (fun c8 => ?_)
  · replace hf := (if_pos c8).symm.trans hf
    refine fl_iconst C0 dX3_isAlikeAt_82 ?_
    refine fl_goto (tgt := 87) C0 dX3_isAlikeAt_83 (by decide) ?_
    cases hf
    exact fl_zret C0 hF hr (rgk 1 rfl) (Or.inr rfl) rfl dX3_isAlikeAt_87
  · replace hf := (if_neg c8).symm.trans hf
    refine lv_aload_n C0.1 C0.2.1 dX3_isAlikeAt_67 rfl (lv_at hl 1 rfl) ?_
    refine fl_getr (k := 1) (t := 164) ck_4 C0 hF ka0 rfl (wt_at (k := 1) (t := 164) hWT ka0 rfl) rfl ⟨rfl, rfl⟩ aw_84 dX3_isAlikeAt_68 ?_
    refine lv_iload_n C0.1 C0.2.1 dX3_isAlikeAt_71 rfl (lv_at hl 2 rfl) ?_
    obtain ⟨hc, hf⟩ := ck_f hf
    refine fl_iald (n := 16) C0 hF (wt_at (k := 1) (t := 164) hWT ka0 rfl) rx1 hc dX3_isAlikeAt_72 ?_
    refine lv_aload_n C0.1 C0.2.1 dX3_isAlikeAt_73 rfl (lv_at hl 3 rfl) ?_
    refine fl_getr (k := 1) (t := 164) ck_4 C0 hF ka2 rfl (wt_at (k := 1) (t := 164) hWT ka2 rfl) rfl ⟨rfl, rfl⟩ aw_84 dX3_isAlikeAt_74 ?_
    refine lv_iload_n C0.1 C0.2.1 dX3_isAlikeAt_77 rfl (lv_at hl 4 rfl) ?_
    obtain ⟨hc, hf⟩ := ck_f hf
    refine fl_iald (n := 16) C0 hF (wt_at (k := 1) (t := 164) hWT ka2 rfl) rx3 hc dX3_isAlikeAt_78 ?_
    refine fl_icmp_ne (tgt := 86) C0 (hF.rI _ _) (hF.rI _ _) dX3_isAlikeAt_79 (by decide) (fun c9 => ?_) (fun c9 => ?_)
    · replace hf := (if_neg c9).symm.trans hf
      refine fl_iconst C0 dX3_isAlikeAt_86 ?_
      cases hf
      exact fl_zret C0 hF hr (rgk 0 rfl) (Or.inl rfl) rfl dX3_isAlikeAt_87
    · replace hf := (if_pos c9).symm.trans hf
      refine fl_iconst C0 dX3_isAlikeAt_82 ?_
      refine fl_goto (tgt := 87) C0 dX3_isAlikeAt_83 (by decide) ?_
      cases hf
      exact fl_zret C0 hF hr (rgk 1 rfl) (Or.inr rfl) rfl dX3_isAlikeAt_87
set_option maxRecDepth 100000 in
set_option maxHeartbeats 4000000 in
theorem b_X3_isAlikeAt_55 {p : Program} {l : Launch} {e : Env} {s : State} {m : MethodId} {args : Array Value} {below : List Frame} {meth : Method} {c : Code} {D : va_G} {cy : Nat → ClassId} {B : Nat} {L : List Nat} {K : KT} {P : PT} {J : IT} {res : Int} {I : IT} (C0 : FC D cy B p s m meth c "RejudgeHall$Program" cX3_isAlikeAt 5) (hr : meth.sig.returnType = (some .boolean)) (hWT : WT K P) : G_X3_isAlikeAt_55 p l e s m args below meth c D cy B L K P J res I (f_X3_isAlikeAt_55 K P  I) := by
  intro a0 x1 a2 x3 H locs ls ka0 rx1 ka2 rx3 hF hl hf
  unfold f_X3_isAlikeAt_55 at hf
  refine fl_iconst C0 dX3_isAlikeAt_55 ?_
  refine fl_goto (tgt := 60) C0 dX3_isAlikeAt_56 (by decide) ?_
  exact b_X3_isAlikeAt_60 C0 hr hWT   a0 x1 a2 x3 1 _ _ _ ka0 rx1 ka2 rx3 ((rgk 1 rfl)) hF (lv_sub hl [0, 1, 2, 3] rfl) hf
theorem pm_X3_isAlikeAt : plainM yX3_isAlikeAt 3 := by decide +kernel
set_option maxRecDepth 100000 in
set_option maxHeartbeats 4000000 in
theorem c_X3_isAlikeAt (l : Launch) (D : va_G) (cy : Nat → ClassId) (B : Nat) (L : List Nat) (K : KT) (P : PT) (J : IT) (hWT : WT K P) (I : IT) (a0 : Nat) (x1 : Int) (a2 : Nat) (x3 : Int) (ka0 : K a0 = 4) (rx1 : rg x1) (ka2 : K a2 = 4) (rx3 : rg x3) {r : Int} (hf : f_X3_isAlikeAt K P I a0 x1 a2 x3 = some r) : Met l yX3_isAlikeAt [.code yX3_isAlikeAt cX3_isAlikeAt 5 (some .boolean)] rm_X3_isAlikeAt (va_Pc [.ref a0, iv x1, .ref a2, iv x3] (FW D cy B L K P J I)) (QI D cy B L K P J (r, I)) 0 0 (fun q => B ≤ q) := by
  refine fl_body (own := "RejudgeHall$Program") [.ref a0, iv x1, .ref a2, iv x3] (by decide) rfl (Nat.le_of_ble_eq_true rfl) ?_
  intro p e s m args below meth c ls C0 hr hF hl
  have hl : lv_has ls 5 [(0, .ref a0), (1, iv x1), (2, .ref a2), (3, iv x3)] := hl
  unfold f_X3_isAlikeAt at hf
  refine lv_aload_n C0.1 C0.2.1 dX3_isAlikeAt_0 rfl (lv_at hl 0 rfl) ?_
  refine lv_iload_n C0.1 C0.2.1 dX3_isAlikeAt_1 rfl (lv_at hl 1 rfl) ?_
  obtain ⟨r1, hq1, hf⟩ := bp_f hf
  refine fl_ri hF (fl_runV (As := [iv x1]) (rest := []) C0 hF hl.1 ck_4 ka0 rfl (c_X3_has l D cy B L K P J hWT I a0 x1 ka0 rx1 hq1) aw_499 aw_387 aw_8 aw_46 aw_388 rfl rfl pm_X3_has rfl rfl ⟨Nat.le_of_ble_eq_true rfl, Nat.le_of_ble_eq_true rfl⟩ rfl (Nat.le_of_ble_eq_true rfl) dX3_isAlikeAt_2 ⟨Nat.le_of_ble_eq_true rfl, Nat.le_of_ble_eq_true rfl⟩) (fun H locs hF1 rr1 => ?_)
  refine fl_if_eq (tgt := 31) C0 rr1 dX3_isAlikeAt_5 (by decide) (fun c2 => ?_) (fun c2 => ?_)
  · replace hf := (if_pos c2).symm.trans hf
    refine fl_iconst C0 dX3_isAlikeAt_31 ?_
    cases hf
    exact fl_zret C0 hF1 hr (rgk 0 rfl) (Or.inl rfl) rfl dX3_isAlikeAt_32
  · replace hf := (if_neg c2).symm.trans hf
    refine lv_aload_n C0.1 C0.2.1 dX3_isAlikeAt_8 rfl (lv_at hl 2 rfl) ?_
    refine lv_iload_n C0.1 C0.2.1 dX3_isAlikeAt_9 rfl (lv_at hl 3 rfl) ?_
    obtain ⟨r3, hq3, hf⟩ := bp_f hf
    refine fl_ri hF1 (fl_runV (As := [iv x3]) (rest := []) C0 hF1 hl.1 ck_4 ka2 rfl (c_X3_has l D cy B L K P J hWT I a2 x3 ka2 rx3 hq3) aw_499 aw_387 aw_8 aw_46 aw_388 rfl rfl pm_X3_has rfl rfl ⟨Nat.le_of_ble_eq_true rfl, Nat.le_of_ble_eq_true rfl⟩ rfl (Nat.le_of_ble_eq_true rfl) dX3_isAlikeAt_10 ⟨Nat.le_of_ble_eq_true rfl, Nat.le_of_ble_eq_true rfl⟩) (fun H locs hF3 rr3 => ?_)
    refine fl_if_eq (tgt := 31) C0 rr3 dX3_isAlikeAt_13 (by decide) (fun c4 => ?_) (fun c4 => ?_)
    · replace hf := (if_pos c4).symm.trans hf
      refine fl_iconst C0 dX3_isAlikeAt_31 ?_
      cases hf
      exact fl_zret C0 hF3 hr (rgk 0 rfl) (Or.inl rfl) rfl dX3_isAlikeAt_32
    · replace hf := (if_neg c4).symm.trans hf
      refine lv_aload_n C0.1 C0.2.1 dX3_isAlikeAt_16 rfl (lv_at hl 0 rfl) ?_
      refine fl_getr (k := 0) (t := 164) ck_4 C0 hF3 ka0 rfl (wt_at (k := 0) (t := 164) hWT ka0 rfl) rfl ⟨rfl, rfl⟩ aw_82 dX3_isAlikeAt_17 ?_
      refine lv_iload_n C0.1 C0.2.1 dX3_isAlikeAt_20 rfl (lv_at hl 1 rfl) ?_
      obtain ⟨hc, hf⟩ := ck_f hf
      refine fl_iald (n := 16) C0 hF3 (wt_at (k := 0) (t := 164) hWT ka0 rfl) rx1 hc dX3_isAlikeAt_21 ?_
      refine lv_aload_n C0.1 C0.2.1 dX3_isAlikeAt_22 rfl (lv_at hl 2 rfl) ?_
      refine fl_getr (k := 0) (t := 164) ck_4 C0 hF3 ka2 rfl (wt_at (k := 0) (t := 164) hWT ka2 rfl) rfl ⟨rfl, rfl⟩ aw_82 dX3_isAlikeAt_23 ?_
      refine lv_iload_n C0.1 C0.2.1 dX3_isAlikeAt_26 rfl (lv_at hl 3 rfl) ?_
      obtain ⟨hc, hf⟩ := ck_f hf
      refine fl_iald (n := 16) C0 hF3 (wt_at (k := 0) (t := 164) hWT ka2 rfl) rx3 hc dX3_isAlikeAt_27 ?_
      refine fl_icmp_eq (tgt := 33) C0 (hF3.rI _ _) (hF3.rI _ _) dX3_isAlikeAt_28 (by decide) (fun c5 => ?_) (fun c5 => ?_)
      · replace hf := (if_pos c5).symm.trans hf
        refine lv_aload_n C0.1 C0.2.1 dX3_isAlikeAt_33 rfl (lv_at hl 0 rfl) ?_
        refine fl_getr (k := 0) (t := 164) ck_4 C0 hF3 ka0 rfl (wt_at (k := 0) (t := 164) hWT ka0 rfl) rfl ⟨rfl, rfl⟩ aw_82 dX3_isAlikeAt_34 ?_
        refine lv_iload_n C0.1 C0.2.1 dX3_isAlikeAt_37 rfl (lv_at hl 1 rfl) ?_
        obtain ⟨hc, hf⟩ := ck_f hf
        refine fl_iald (n := 16) C0 hF3 (wt_at (k := 0) (t := 164) hWT ka0 rfl) rx1 hc dX3_isAlikeAt_38 ?_
        refine fl_bipush C0 dX3_isAlikeAt_39 (by decide) ?_
        refine fl_icmp_eq (tgt := 55) C0 (hF3.rI _ _) (rgk 7 rfl) dX3_isAlikeAt_41 (by decide) (fun c6 => ?_) (fun c6 => ?_)
        · replace hf := (if_pos c6).symm.trans hf
          exact b_X3_isAlikeAt_55 C0 hr hWT   a0 x1 a2 x3 _ _ _ ka0 rx1 ka2 rx3 hF3 (lv_sub hl [0, 1, 2, 3] rfl) hf
        · replace hf := (if_neg c6).symm.trans hf
          refine lv_aload_n C0.1 C0.2.1 dX3_isAlikeAt_44 rfl (lv_at hl 0 rfl) ?_
          refine fl_getr (k := 0) (t := 164) ck_4 C0 hF3 ka0 rfl (wt_at (k := 0) (t := 164) hWT ka0 rfl) rfl ⟨rfl, rfl⟩ aw_82 dX3_isAlikeAt_45 ?_
          refine lv_iload_n C0.1 C0.2.1 dX3_isAlikeAt_48 rfl (lv_at hl 1 rfl) ?_
          obtain ⟨hc, hf⟩ := ck_f hf
          refine fl_iald (n := 16) C0 hF3 (wt_at (k := 0) (t := 164) hWT ka0 rfl) rx1 hc dX3_isAlikeAt_49 ?_
          refine fl_bipush C0 dX3_isAlikeAt_50 (by decide) ?_
          refine fl_icmp_ne (tgt := 59) C0 (hF3.rI _ _) (rgk 8 rfl) dX3_isAlikeAt_52 (by decide) (fun c7 => ?_) (fun c7 => ?_)
          · replace hf := (if_neg c7).symm.trans hf
            refine fl_iconst C0 dX3_isAlikeAt_59 ?_
            exact b_X3_isAlikeAt_60 C0 hr hWT   a0 x1 a2 x3 0 _ _ _ ka0 rx1 ka2 rx3 ((rgk 0 rfl)) hF3 (lv_sub hl [0, 1, 2, 3] rfl) hf
          · replace hf := (if_pos c7).symm.trans hf
            exact b_X3_isAlikeAt_55 C0 hr hWT   a0 x1 a2 x3 _ _ _ ka0 rx1 ka2 rx3 hF3 (lv_sub hl [0, 1, 2, 3] rfl) hf
      · replace hf := (if_neg c5).symm.trans hf
        refine fl_iconst C0 dX3_isAlikeAt_31 ?_
        cases hf
        exact fl_zret C0 hF3 hr (rgk 0 rfl) (Or.inl rfl) rfl dX3_isAlikeAt_32
-- RejudgeHall$Machine.put(I)I
abbrev rm_X1_put : Room := { frames := 1, cells := 0, slots := 0, locals := 21 }
def f_X1_put (K : KT) (P : PT) (I : IT) (a0 : Nat) (x1 : Int) : Option (Int × IT) := bp (f_X4_isFull K P I ((P a0 0))) fun r1 => if r1 = 0 then (bp (f_X4_push K P I ((P a0 0)) x1) fun I3 => some (0, I3)) else (some (3, I))
theorem pm_X1_put : plainM yX1_put 1 := by decide +kernel
set_option maxRecDepth 100000 in
set_option maxHeartbeats 4000000 in
theorem c_X1_put (l : Launch) (D : va_G) (cy : Nat → ClassId) (B : Nat) (L : List Nat) (K : KT) (P : PT) (J : IT) (hWT : WT K P) (I : IT) (a0 : Nat) (x1 : Int) (ka0 : K a0 = 2) (rx1 : rg x1) {r : Int} {I' : IT} (hf : f_X1_put K P I a0 x1 = some (r, I')) : Met l yX1_put [.code yX1_put cX1_put 2 (some .int)] rm_X1_put (va_Pc [.ref a0, iv x1] (FW D cy B L K P J I)) (QI D cy B L K P J (r, I')) 0 0 (fun q => B ≤ q) := by
  refine fl_body (own := "RejudgeHall$Machine") [.ref a0, iv x1] (by decide) rfl (Nat.le_of_ble_eq_true rfl) ?_
  intro p e s m args below meth c ls C0 hr hF hl
  have hl : lv_has ls 2 [(0, .ref a0), (1, iv x1)] := hl
  unfold f_X1_put at hf
  refine lv_aload_n C0.1 C0.2.1 dX1_put_0 rfl (lv_at hl 0 rfl) ?_
  refine fl_getr (k := 0) (t := 5) ck_2 C0 hF ka0 rfl (wt_at (k := 0) (t := 5) hWT ka0 rfl) rfl ⟨rfl, rfl⟩ aw_120 dX1_put_1 ?_
  obtain ⟨r1, hq1, hf⟩ := bp_f hf
  refine fl_ri hF (fl_runN (As := []) (rest := []) C0 hF hl.1 ck_5 (wt_at (k := 0) (t := 5) hWT ka0 rfl) rfl (c_X4_isFull l D cy B L K P J hWT I ((P a0 0)) ((wt_at (k := 0) (t := 5) hWT ka0 rfl)) hq1) aw_397 aw_399 aw_11 aw_47 aw_400 rfl pm_X4_isFull rfl rfl ⟨Nat.le_of_ble_eq_true rfl, Nat.le_of_ble_eq_true rfl⟩ rfl (Nat.le_of_ble_eq_true rfl) dX1_put_4 ⟨Nat.le_of_ble_eq_true rfl, Nat.le_of_ble_eq_true rfl⟩) (fun H locs hF1 rr1 => ?_)
  refine fl_if_eq (tgt := 12) C0 rr1 dX1_put_7 (by decide) (fun c2 => ?_) (fun c2 => ?_)
  · replace hf := (if_pos c2).symm.trans hf
    refine lv_aload_n C0.1 C0.2.1 dX1_put_12 rfl (lv_at hl 0 rfl) ?_
    refine fl_getr (k := 0) (t := 5) ck_2 C0 hF1 ka0 rfl (wt_at (k := 0) (t := 5) hWT ka0 rfl) rfl ⟨rfl, rfl⟩ aw_120 dX1_put_13 ?_
    refine lv_iload_n C0.1 C0.2.1 dX1_put_16 rfl (lv_at hl 1 rfl) ?_
    obtain ⟨I3, hq3, hf⟩ := bp_f hf
    refine fl_rv hF1 (fl_runN (As := [iv x1]) (rest := []) C0 hF1 hl.1 ck_5 (wt_at (k := 0) (t := 5) hWT ka0 rfl) rfl (c_X4_push l D cy B L K P J hWT I ((P a0 0)) x1 ((wt_at (k := 0) (t := 5) hWT ka0 rfl)) rx1 hq3) aw_401 aw_329 aw_2 aw_47 aw_330 rfl pm_X4_push rfl rfl ⟨Nat.le_of_ble_eq_true rfl, Nat.le_of_ble_eq_true rfl⟩ rfl (Nat.le_of_ble_eq_true rfl) dX1_put_17 ⟨Nat.le_of_ble_eq_true rfl, Nat.le_of_ble_eq_true rfl⟩) (fun H locs hF3 => ?_)
    refine fl_iconst C0 dX1_put_20 ?_
    cases hf
    exact fl_iret C0 hF3 hr (rgk 0 rfl) rfl dX1_put_21
  · replace hf := (if_neg c2).symm.trans hf
    refine fl_iconst C0 dX1_put_10 ?_
    cases hf
    exact fl_iret C0 hF1 hr (rgk 3 rfl) rfl dX1_put_11
-- RejudgeHall$Machine.goTo(II)I
abbrev rm_X1_goTo : Room := { frames := 0, cells := 0, slots := 0, locals := 0 }
def f_X1_goTo (K : KT) (P : PT) (I : IT) (a0 : Nat) (x1 : Int) (x2 : Int) : Option (Int × IT) := if x1 < 0 then (some (4, I)) else (if x1 ≤ x2 then (bnd (up I a0 3 x1) fun I3 => some (0, I3)) else (some (4, I)))
theorem pm_X1_goTo : plainM yX1_goTo 2 := by decide +kernel
set_option maxRecDepth 100000 in
set_option maxHeartbeats 4000000 in
theorem c_X1_goTo (l : Launch) (D : va_G) (cy : Nat → ClassId) (B : Nat) (L : List Nat) (K : KT) (P : PT) (J : IT) (hWT : WT K P) (I : IT) (a0 : Nat) (x1 : Int) (x2 : Int) (ka0 : K a0 = 2) (rx1 : rg x1) (rx2 : rg x2) {r : Int} {I' : IT} (hf : f_X1_goTo K P I a0 x1 x2 = some (r, I')) : Met l yX1_goTo [.code yX1_goTo cX1_goTo 3 (some .int)] rm_X1_goTo (va_Pc [.ref a0, iv x1, iv x2] (FW D cy B L K P J I)) (QI D cy B L K P J (r, I')) 0 0 (fun q => B ≤ q) := by
  refine fl_body (own := "RejudgeHall$Machine") [.ref a0, iv x1, iv x2] (by decide) rfl (Nat.le_of_ble_eq_true rfl) ?_
  intro p e s m args below meth c ls C0 hr hF hl
  have hl : lv_has ls 3 [(0, .ref a0), (1, iv x1), (2, iv x2)] := hl
  unfold f_X1_goTo at hf
  refine lv_iload_n C0.1 C0.2.1 dX1_goTo_0 rfl (lv_at hl 1 rfl) ?_
  refine fl_if_lt (tgt := 9) C0 rx1 dX1_goTo_1 (by decide) (fun c1 => ?_) (fun c1 => ?_)
  · replace hf := (if_pos c1).symm.trans hf
    refine fl_iconst C0 dX1_goTo_9 ?_
    cases hf
    exact fl_iret C0 hF hr (rgk 4 rfl) rfl dX1_goTo_10
  · replace hf := (if_neg c1).symm.trans hf
    refine lv_iload_n C0.1 C0.2.1 dX1_goTo_4 rfl (lv_at hl 1 rfl) ?_
    refine lv_iload_n C0.1 C0.2.1 dX1_goTo_5 rfl (lv_at hl 2 rfl) ?_
    refine fl_icmp_le (tgt := 11) C0 rx1 rx2 dX1_goTo_6 (by decide) (fun c2 => ?_) (fun c2 => ?_)
    · replace hf := (if_pos c2).symm.trans hf
      refine lv_aload_n C0.1 C0.2.1 dX1_goTo_11 rfl (lv_at hl 0 rfl) ?_
      refine lv_iload_n C0.1 C0.2.1 dX1_goTo_12 rfl (lv_at hl 1 rfl) ?_
      refine fl_puti (k := 3) ck_2 C0 hF ka0 rfl rx1 ⟨rfl, rfl, rfl⟩ aw_125 dX1_goTo_13 (fun H locs hF3 => ?_)
      obtain ⟨I3, eI3, hf⟩ := bnd_f hf
      rw [eI3] at hF3
      refine fl_iconst C0 dX1_goTo_16 ?_
      cases hf
      exact fl_iret C0 hF3 hr (rgk 0 rfl) rfl dX1_goTo_17
    · replace hf := (if_neg c2).symm.trans hf
      refine fl_iconst C0 dX1_goTo_9 ?_
      cases hf
      exact fl_iret C0 hF hr (rgk 4 rfl) rfl dX1_goTo_10
-- RejudgeHall$Machine.goIfZero(II)I
abbrev rm_X1_goIfZero : Room := { frames := 1, cells := 0, slots := 0, locals := 22 }
def f_X1_goIfZero (K : KT) (P : PT) (I : IT) (a0 : Nat) (x1 : Int) (x2 : Int) : Option (Int × IT) := if 1 ≤ (I ((P a0 0)) 1) then (bi (f_X4_pop K P I ((P a0 0))) fun r2 I2 => if r2 = 0 then (bi (f_X1_goTo K P I2 a0 x1 x2) fun r4 I4 => some (r4, I4)) else (some (0, I2))) else (some (4, I))
theorem pm_X1_goIfZero : plainM yX1_goIfZero 2 := by decide +kernel
set_option maxRecDepth 100000 in
set_option maxHeartbeats 4000000 in
theorem c_X1_goIfZero (l : Launch) (D : va_G) (cy : Nat → ClassId) (B : Nat) (L : List Nat) (K : KT) (P : PT) (J : IT) (hWT : WT K P) (I : IT) (a0 : Nat) (x1 : Int) (x2 : Int) (ka0 : K a0 = 2) (rx1 : rg x1) (rx2 : rg x2) {r : Int} {I' : IT} (hf : f_X1_goIfZero K P I a0 x1 x2 = some (r, I')) : Met l yX1_goIfZero [.code yX1_goIfZero cX1_goIfZero 3 (some .int)] rm_X1_goIfZero (va_Pc [.ref a0, iv x1, iv x2] (FW D cy B L K P J I)) (QI D cy B L K P J (r, I')) 0 0 (fun q => B ≤ q) := by
  refine fl_body (own := "RejudgeHall$Machine") [.ref a0, iv x1, iv x2] (by decide) rfl (Nat.le_of_ble_eq_true rfl) ?_
  intro p e s m args below meth c ls C0 hr hF hl
  have hl : lv_has ls 3 [(0, .ref a0), (1, iv x1), (2, iv x2)] := hl
  unfold f_X1_goIfZero at hf
  refine lv_aload_n C0.1 C0.2.1 dX1_goIfZero_0 rfl (lv_at hl 0 rfl) ?_
  refine fl_getr (k := 0) (t := 5) ck_2 C0 hF ka0 rfl (wt_at (k := 0) (t := 5) hWT ka0 rfl) rfl ⟨rfl, rfl⟩ aw_120 dX1_goIfZero_1 ?_
  refine fl_getiN (k := 1) ck_5 C0 hF (wt_at (k := 0) (t := 5) hWT ka0 rfl) rfl ⟨rfl, rfl⟩ aw_105 dX1_goIfZero_4 ?_
  refine fl_iconst C0 dX1_goIfZero_7 ?_
  refine fl_icmp_ge (tgt := 13) C0 (hF.rI _ _) (rgk 1 rfl) dX1_goIfZero_8 (by decide) (fun c1 => ?_) (fun c1 => ?_)
  · replace hf := (if_pos c1).symm.trans hf
    refine lv_aload_n C0.1 C0.2.1 dX1_goIfZero_13 rfl (lv_at hl 0 rfl) ?_
    refine fl_getr (k := 0) (t := 5) ck_2 C0 hF ka0 rfl (wt_at (k := 0) (t := 5) hWT ka0 rfl) rfl ⟨rfl, rfl⟩ aw_120 dX1_goIfZero_14 ?_
    obtain ⟨r2, I2, hq2, hf⟩ := bi_f hf
    refine fl_ri hF (fl_runN (As := []) (rest := []) C0 hF hl.1 ck_5 (wt_at (k := 0) (t := 5) hWT ka0 rfl) rfl (c_X4_pop l D cy B L K P J hWT I ((P a0 0)) ((wt_at (k := 0) (t := 5) hWT ka0 rfl)) hq2) aw_406 aw_408 aw_13 aw_47 aw_409 rfl pm_X4_pop rfl rfl ⟨Nat.le_of_ble_eq_true rfl, Nat.le_of_ble_eq_true rfl⟩ rfl (Nat.le_of_ble_eq_true rfl) dX1_goIfZero_17 ⟨Nat.le_of_ble_eq_true rfl, Nat.le_of_ble_eq_true rfl⟩) (fun H locs hF2 rr2 => ?_)
    refine fl_if_ne (tgt := 32) C0 rr2 dX1_goIfZero_20 (by decide) (fun c3 => ?_) (fun c3 => ?_)
    · replace hf := (if_neg c3).symm.trans hf
      refine fl_iconst C0 dX1_goIfZero_32 ?_
      cases hf
      exact fl_iret C0 hF2 hr (rgk 0 rfl) rfl dX1_goIfZero_33
    · replace hf := (if_pos c3).symm.trans hf
      refine lv_aload_n C0.1 C0.2.1 dX1_goIfZero_23 rfl (lv_at hl 0 rfl) ?_
      refine lv_iload_n C0.1 C0.2.1 dX1_goIfZero_24 rfl (lv_at hl 1 rfl) ?_
      refine lv_iload_n C0.1 C0.2.1 dX1_goIfZero_25 rfl (lv_at hl 2 rfl) ?_
      obtain ⟨r4, I4, hq4, hf⟩ := bi_f hf
      refine fl_ri hF2 (fl_runV (As := [iv x1, iv x2]) (rest := []) C0 hF2 hl.1 ck_2 ka0 rfl (c_X1_goTo l D cy B L K P J hWT I2 a0 x1 x2 ka0 rx1 rx2 hq4) aw_420 aw_422 aw_16 aw_48 aw_423 rfl rfl pm_X1_goTo rfl rfl ⟨Nat.le_of_ble_eq_true rfl, Nat.le_of_ble_eq_true rfl⟩ rfl (Nat.le_of_ble_eq_true rfl) dX1_goIfZero_26 ⟨Nat.le_of_ble_eq_true rfl, Nat.le_of_ble_eq_true rfl⟩) (fun H locs hF4 rr4 => ?_)
      refine fl_goto (tgt := 33) C0 dX1_goIfZero_29 (by decide) ?_
      cases hf
      exact fl_iret C0 hF4 hr rr4 rfl dX1_goIfZero_33
  · replace hf := (if_neg c1).symm.trans hf
    refine fl_iconst C0 dX1_goIfZero_11 ?_
    cases hf
    exact fl_iret C0 hF hr (rgk 4 rfl) rfl dX1_goIfZero_12
-- RejudgeHall$Machine.swap()I
abbrev rm_X1_swap : Room := { frames := 1, cells := 0, slots := 0, locals := 21 }
def f_X1_swap (K : KT) (P : PT) (I : IT) (a0 : Nat) : Option (Int × IT) := if 2 ≤ (I ((P a0 0)) 1) then (bi (f_X4_pop K P I ((P a0 0))) fun r2 I2 => bi (f_X4_pop K P I2 ((P a0 0))) fun r3 I3 => bp (f_X4_push K P I3 ((P a0 0)) r2) fun I4 => bp (f_X4_push K P I4 ((P a0 0)) r3) fun I5 => some (0, I5)) else (some (4, I))
theorem pm_X1_swap : plainM yX1_swap 0 := by decide +kernel
set_option maxRecDepth 100000 in
set_option maxHeartbeats 4000000 in
theorem c_X1_swap (l : Launch) (D : va_G) (cy : Nat → ClassId) (B : Nat) (L : List Nat) (K : KT) (P : PT) (J : IT) (hWT : WT K P) (I : IT) (a0 : Nat) (ka0 : K a0 = 2) {r : Int} {I' : IT} (hf : f_X1_swap K P I a0 = some (r, I')) : Met l yX1_swap [.code yX1_swap cX1_swap 3 (some .int)] rm_X1_swap (va_Pc [.ref a0] (FW D cy B L K P J I)) (QI D cy B L K P J (r, I')) 0 0 (fun q => B ≤ q) := by
  refine fl_body (own := "RejudgeHall$Machine") [.ref a0] (by decide) rfl (Nat.le_of_ble_eq_true rfl) ?_
  intro p e s m args below meth c ls C0 hr hF hl
  have hl : lv_has ls 3 [(0, .ref a0)] := hl
  unfold f_X1_swap at hf
  refine lv_aload_n C0.1 C0.2.1 dX1_swap_0 rfl (lv_at hl 0 rfl) ?_
  refine fl_getr (k := 0) (t := 5) ck_2 C0 hF ka0 rfl (wt_at (k := 0) (t := 5) hWT ka0 rfl) rfl ⟨rfl, rfl⟩ aw_120 dX1_swap_1 ?_
  refine fl_getiN (k := 1) ck_5 C0 hF (wt_at (k := 0) (t := 5) hWT ka0 rfl) rfl ⟨rfl, rfl⟩ aw_105 dX1_swap_4 ?_
  refine fl_iconst C0 dX1_swap_7 ?_
  refine fl_icmp_ge (tgt := 13) C0 (hF.rI _ _) (rgk 2 rfl) dX1_swap_8 (by decide) (fun c1 => ?_) (fun c1 => ?_)
  · replace hf := (if_pos c1).symm.trans hf
    refine lv_aload_n C0.1 C0.2.1 dX1_swap_13 rfl (lv_at hl 0 rfl) ?_
    refine fl_getr (k := 0) (t := 5) ck_2 C0 hF ka0 rfl (wt_at (k := 0) (t := 5) hWT ka0 rfl) rfl ⟨rfl, rfl⟩ aw_120 dX1_swap_14 ?_
    obtain ⟨r2, I2, hq2, hf⟩ := bi_f hf
    refine fl_ri hF (fl_runN (As := []) (rest := []) C0 hF hl.1 ck_5 (wt_at (k := 0) (t := 5) hWT ka0 rfl) rfl (c_X4_pop l D cy B L K P J hWT I ((P a0 0)) ((wt_at (k := 0) (t := 5) hWT ka0 rfl)) hq2) aw_406 aw_408 aw_13 aw_47 aw_409 rfl pm_X4_pop rfl rfl ⟨Nat.le_of_ble_eq_true rfl, Nat.le_of_ble_eq_true rfl⟩ rfl (Nat.le_of_ble_eq_true rfl) dX1_swap_17 ⟨Nat.le_of_ble_eq_true rfl, Nat.le_of_ble_eq_true rfl⟩) (fun H locs hF2 rr2 => ?_)
    refine lv_istore_n (lv' := [(1, iv r2), (0, .ref a0)]) C0.1 C0.2.1 dX1_swap_20 rfl hl (by decide) rfl (fun ls hl => ?_)
    refine lv_aload_n C0.1 C0.2.1 dX1_swap_21 rfl (lv_at hl 1 rfl) ?_
    refine fl_getr (k := 0) (t := 5) ck_2 C0 hF2 ka0 rfl (wt_at (k := 0) (t := 5) hWT ka0 rfl) rfl ⟨rfl, rfl⟩ aw_120 dX1_swap_22 ?_
    obtain ⟨r3, I3, hq3, hf⟩ := bi_f hf
    refine fl_ri hF2 (fl_runN (As := []) (rest := []) C0 hF2 hl.1 ck_5 (wt_at (k := 0) (t := 5) hWT ka0 rfl) rfl (c_X4_pop l D cy B L K P J hWT I2 ((P a0 0)) ((wt_at (k := 0) (t := 5) hWT ka0 rfl)) hq3) aw_406 aw_408 aw_13 aw_47 aw_409 rfl pm_X4_pop rfl rfl ⟨Nat.le_of_ble_eq_true rfl, Nat.le_of_ble_eq_true rfl⟩ rfl (Nat.le_of_ble_eq_true rfl) dX1_swap_25 ⟨Nat.le_of_ble_eq_true rfl, Nat.le_of_ble_eq_true rfl⟩) (fun H locs hF3 rr3 => ?_)
    refine lv_istore_n (lv' := [(2, iv r3), (1, iv r2), (0, .ref a0)]) C0.1 C0.2.1 dX1_swap_28 rfl hl (by decide) rfl (fun ls hl => ?_)
    refine lv_aload_n C0.1 C0.2.1 dX1_swap_29 rfl (lv_at hl 2 rfl) ?_
    refine fl_getr (k := 0) (t := 5) ck_2 C0 hF3 ka0 rfl (wt_at (k := 0) (t := 5) hWT ka0 rfl) rfl ⟨rfl, rfl⟩ aw_120 dX1_swap_30 ?_
    refine lv_iload_n C0.1 C0.2.1 dX1_swap_33 rfl (lv_at hl 1 rfl) ?_
    obtain ⟨I4, hq4, hf⟩ := bp_f hf
    refine fl_rv hF3 (fl_runN (As := [iv r2]) (rest := []) C0 hF3 hl.1 ck_5 (wt_at (k := 0) (t := 5) hWT ka0 rfl) rfl (c_X4_push l D cy B L K P J hWT I3 ((P a0 0)) r2 ((wt_at (k := 0) (t := 5) hWT ka0 rfl)) rr2 hq4) aw_401 aw_329 aw_2 aw_47 aw_330 rfl pm_X4_push rfl rfl ⟨Nat.le_of_ble_eq_true rfl, Nat.le_of_ble_eq_true rfl⟩ rfl (Nat.le_of_ble_eq_true rfl) dX1_swap_34 ⟨Nat.le_of_ble_eq_true rfl, Nat.le_of_ble_eq_true rfl⟩) (fun H locs hF4 => ?_)
    refine lv_aload_n C0.1 C0.2.1 dX1_swap_37 rfl (lv_at hl 2 rfl) ?_
    refine fl_getr (k := 0) (t := 5) ck_2 C0 hF4 ka0 rfl (wt_at (k := 0) (t := 5) hWT ka0 rfl) rfl ⟨rfl, rfl⟩ aw_120 dX1_swap_38 ?_
    refine lv_iload_n C0.1 C0.2.1 dX1_swap_41 rfl (lv_at hl 0 rfl) ?_
    obtain ⟨I5, hq5, hf⟩ := bp_f hf
    refine fl_rv hF4 (fl_runN (As := [iv r3]) (rest := []) C0 hF4 hl.1 ck_5 (wt_at (k := 0) (t := 5) hWT ka0 rfl) rfl (c_X4_push l D cy B L K P J hWT I4 ((P a0 0)) r3 ((wt_at (k := 0) (t := 5) hWT ka0 rfl)) rr3 hq5) aw_401 aw_329 aw_2 aw_47 aw_330 rfl pm_X4_push rfl rfl ⟨Nat.le_of_ble_eq_true rfl, Nat.le_of_ble_eq_true rfl⟩ rfl (Nat.le_of_ble_eq_true rfl) dX1_swap_42 ⟨Nat.le_of_ble_eq_true rfl, Nat.le_of_ble_eq_true rfl⟩) (fun H locs hF5 => ?_)
    refine fl_iconst C0 dX1_swap_45 ?_
    cases hf
    exact fl_iret C0 hF5 hr (rgk 0 rfl) rfl dX1_swap_46
  · replace hf := (if_neg c1).symm.trans hf
    refine fl_iconst C0 dX1_swap_11 ?_
    cases hf
    exact fl_iret C0 hF hr (rgk 4 rfl) rfl dX1_swap_12
-- RejudgeHall$Machine.make(I)I
abbrev rm_X1_make : Room := { frames := 1, cells := 0, slots := 0, locals := 21 }
def f_X1_make_60 (K : KT) (P : PT) (I : IT) (a0 : Nat) (t0 : Int) : Option (Int × IT) := if 0 < (cmpl t0 999999) then (some (4, I)) else (if 0 ≤ (cmpl t0 (-999999)) then (bp (f_X4_push K P I ((P a0 0)) ((wr t0))) fun I8 => some (0, I8)) else (some (4, I)))
def f_X1_make (K : KT) (P : PT) (I : IT) (a0 : Nat) (x1 : Int) : Option (Int × IT) := if 2 ≤ (I ((P a0 0)) 1) then (bi (f_X4_pop K P I ((P a0 0))) fun r2 I2 => bi (f_X4_pop K P I2 ((P a0 0))) fun r3 I3 => if x1 = 2 then (f_X1_make_60 K P  I3 a0 ((wl (r3 + r2)))) else (if x1 = 3 then (f_X1_make_60 K P  I3 a0 ((wl (r3 - r2)))) else (f_X1_make_60 K P  I3 a0 ((wl (r3 * r2)))))) else (some (4, I))
abbrev G_X1_make_60 (p : Program) (l : Launch) (e : Env) (s : State) (m : MethodId) (args : Array Value) (below : List Frame) (meth : Method) (c : Code) (D : va_G) (cy : Nat → ClassId) (B : Nat) (L : List Nat) (K : KT) (P : PT) (J : IT) (res : Int × IT) (f : IT → Nat → Int → Option (Int × IT)) : Prop := ∀ (I : IT) (a0 : Nat) (t0 : Int) (H : Heap) (locs : List Loc) (ls : Array Slot), K a0 = 2 → rl t0 → FS D cy B L K P J s.heap I H locs → lv_has ls 8 [(0, .ref a0)] → f I a0 t0 = some res → W p l e rm_X1_make s m args below meth c H locs 0 0 (MQ below (QI D cy B L K P J res) args s 0 0 (fun q => B ≤ q)) (F0 m 60 ls [lgv t0])
set_option maxRecDepth 100000 in
set_option maxHeartbeats 4000000 in
theorem b_X1_make_60 {p : Program} {l : Launch} {e : Env} {s : State} {m : MethodId} {args : Array Value} {below : List Frame} {meth : Method} {c : Code} {D : va_G} {cy : Nat → ClassId} {B : Nat} {L : List Nat} {K : KT} {P : PT} {J : IT} {res : Int × IT} (C0 : FC D cy B p s m meth c "RejudgeHall$Machine" cX1_make 8) (hr : meth.sig.returnType = (some .int)) (hWT : WT K P) : G_X1_make_60 p l e s m args below meth c D cy B L K P J res (f_X1_make_60 K P ) := by
  intro I a0 t0 H locs ls ka0 rt0 hF hl hf
  unfold f_X1_make_60 at hf
  refine lv_lstore (lv' := [(6, lgv t0), (0, .ref a0)]) C0.1 C0.2.1 dX1_make_60 hl (by decide) rfl (fun ls hl => ?_)
  refine lv_lload C0.1 C0.2.1 dX1_make_62 (lv_at hl 0 rfl) ?_
  refine fl_ldc2 (n := 999999) C0 aw_410 (by decide) dX1_make_64 ?_
  refine fl_lcmp C0 rt0 (rl_rg (rgk 999999 rfl)) dX1_make_67 ?_
  refine fl_if_gt (tgt := 80) C0 (rg_cmpl _ _) dX1_make_68 (by decide) (fun c6 => ?_) (fun c6 => ?_)
  · replace hf := (if_pos c6).symm.trans hf
    refine fl_iconst C0 dX1_make_80 ?_
    cases hf
    exact fl_iret C0 hF hr (rgk 4 rfl) rfl dX1_make_81
  · replace hf := (if_neg c6).symm.trans hf
    refine lv_lload C0.1 C0.2.1 dX1_make_71 (lv_at hl 0 rfl) ?_
    refine fl_ldc2 (n := (-999999)) C0 aw_411 (by decide) dX1_make_73 ?_
    refine fl_lcmp C0 rt0 (rl_rg (rgk (-999999) rfl)) dX1_make_76 ?_
    refine fl_if_ge (tgt := 82) C0 (rg_cmpl _ _) dX1_make_77 (by decide) (fun c7 => ?_) (fun c7 => ?_)
    · replace hf := (if_pos c7).symm.trans hf
      refine lv_aload_n C0.1 C0.2.1 dX1_make_82 rfl (lv_at hl 1 rfl) ?_
      refine fl_getr (k := 0) (t := 5) ck_2 C0 hF ka0 rfl (wt_at (k := 0) (t := 5) hWT ka0 rfl) rfl ⟨rfl, rfl⟩ aw_120 dX1_make_83 ?_
      refine lv_lload C0.1 C0.2.1 dX1_make_86 (lv_at hl 0 rfl) ?_
      refine fl_l2i C0 dX1_make_88 ?_
      obtain ⟨I8, hq8, hf⟩ := bp_f hf
      refine fl_rv hF (fl_runN (As := [iv (wr t0)]) (rest := []) C0 hF hl.1 ck_5 (wt_at (k := 0) (t := 5) hWT ka0 rfl) rfl (c_X4_push l D cy B L K P J hWT I ((P a0 0)) ((wr t0)) ((wt_at (k := 0) (t := 5) hWT ka0 rfl)) ((rg_wr _)) hq8) aw_401 aw_329 aw_2 aw_47 aw_330 rfl pm_X4_push rfl rfl ⟨Nat.le_of_ble_eq_true rfl, Nat.le_of_ble_eq_true rfl⟩ rfl (Nat.le_of_ble_eq_true rfl) dX1_make_89 ⟨Nat.le_of_ble_eq_true rfl, Nat.le_of_ble_eq_true rfl⟩) (fun H locs hF8 => ?_)
      refine fl_iconst C0 dX1_make_92 ?_
      cases hf
      exact fl_iret C0 hF8 hr (rgk 0 rfl) rfl dX1_make_93
    · replace hf := (if_neg c7).symm.trans hf
      refine fl_iconst C0 dX1_make_80 ?_
      cases hf
      exact fl_iret C0 hF hr (rgk 4 rfl) rfl dX1_make_81
theorem pm_X1_make : plainM yX1_make 1 := by decide +kernel
set_option maxRecDepth 100000 in
set_option maxHeartbeats 4000000 in
theorem c_X1_make (l : Launch) (D : va_G) (cy : Nat → ClassId) (B : Nat) (L : List Nat) (K : KT) (P : PT) (J : IT) (hWT : WT K P) (I : IT) (a0 : Nat) (x1 : Int) (ka0 : K a0 = 2) (rx1 : rg x1) {r : Int} {I' : IT} (hf : f_X1_make K P I a0 x1 = some (r, I')) : Met l yX1_make [.code yX1_make cX1_make 8 (some .int)] rm_X1_make (va_Pc [.ref a0, iv x1] (FW D cy B L K P J I)) (QI D cy B L K P J (r, I')) 0 0 (fun q => B ≤ q) := by
  refine fl_body (own := "RejudgeHall$Machine") [.ref a0, iv x1] (by decide) rfl (Nat.le_of_ble_eq_true rfl) ?_
  intro p e s m args below meth c ls C0 hr hF hl
  have hl : lv_has ls 8 [(0, .ref a0), (1, iv x1)] := hl
  unfold f_X1_make at hf
  refine lv_aload_n C0.1 C0.2.1 dX1_make_0 rfl (lv_at hl 0 rfl) ?_
  refine fl_getr (k := 0) (t := 5) ck_2 C0 hF ka0 rfl (wt_at (k := 0) (t := 5) hWT ka0 rfl) rfl ⟨rfl, rfl⟩ aw_120 dX1_make_1 ?_
  refine fl_getiN (k := 1) ck_5 C0 hF (wt_at (k := 0) (t := 5) hWT ka0 rfl) rfl ⟨rfl, rfl⟩ aw_105 dX1_make_4 ?_
  refine fl_iconst C0 dX1_make_7 ?_
  refine fl_icmp_ge (tgt := 13) C0 (hF.rI _ _) (rgk 2 rfl) dX1_make_8 (by decide) (fun c1 => ?_) (fun c1 => ?_)
  · replace hf := (if_pos c1).symm.trans hf
    refine lv_aload_n C0.1 C0.2.1 dX1_make_13 rfl (lv_at hl 0 rfl) ?_
    refine fl_getr (k := 0) (t := 5) ck_2 C0 hF ka0 rfl (wt_at (k := 0) (t := 5) hWT ka0 rfl) rfl ⟨rfl, rfl⟩ aw_120 dX1_make_14 ?_
    obtain ⟨r2, I2, hq2, hf⟩ := bi_f hf
    refine fl_ri hF (fl_runN (As := []) (rest := []) C0 hF hl.1 ck_5 (wt_at (k := 0) (t := 5) hWT ka0 rfl) rfl (c_X4_pop l D cy B L K P J hWT I ((P a0 0)) ((wt_at (k := 0) (t := 5) hWT ka0 rfl)) hq2) aw_406 aw_408 aw_13 aw_47 aw_409 rfl pm_X4_pop rfl rfl ⟨Nat.le_of_ble_eq_true rfl, Nat.le_of_ble_eq_true rfl⟩ rfl (Nat.le_of_ble_eq_true rfl) dX1_make_17 ⟨Nat.le_of_ble_eq_true rfl, Nat.le_of_ble_eq_true rfl⟩) (fun H locs hF2 rr2 => ?_)
    refine fl_i2l C0 rr2 dX1_make_20 ?_
    refine lv_lstore_n (lv' := [(2, lgv r2), (0, .ref a0), (1, iv x1)]) C0.1 C0.2.1 dX1_make_21 rfl hl (by decide) rfl (fun ls hl => ?_)
    refine lv_aload_n C0.1 C0.2.1 dX1_make_22 rfl (lv_at hl 1 rfl) ?_
    refine fl_getr (k := 0) (t := 5) ck_2 C0 hF2 ka0 rfl (wt_at (k := 0) (t := 5) hWT ka0 rfl) rfl ⟨rfl, rfl⟩ aw_120 dX1_make_23 ?_
    obtain ⟨r3, I3, hq3, hf⟩ := bi_f hf
    refine fl_ri hF2 (fl_runN (As := []) (rest := []) C0 hF2 hl.1 ck_5 (wt_at (k := 0) (t := 5) hWT ka0 rfl) rfl (c_X4_pop l D cy B L K P J hWT I2 ((P a0 0)) ((wt_at (k := 0) (t := 5) hWT ka0 rfl)) hq3) aw_406 aw_408 aw_13 aw_47 aw_409 rfl pm_X4_pop rfl rfl ⟨Nat.le_of_ble_eq_true rfl, Nat.le_of_ble_eq_true rfl⟩ rfl (Nat.le_of_ble_eq_true rfl) dX1_make_26 ⟨Nat.le_of_ble_eq_true rfl, Nat.le_of_ble_eq_true rfl⟩) (fun H locs hF3 rr3 => ?_)
    refine fl_i2l C0 rr3 dX1_make_29 ?_
    refine lv_lstore (lv' := [(4, lgv r3), (2, lgv r2), (0, .ref a0), (1, iv x1)]) C0.1 C0.2.1 dX1_make_30 hl (by decide) rfl (fun ls hl => ?_)
    refine lv_iload_n C0.1 C0.2.1 dX1_make_32 rfl (lv_at hl 3 rfl) ?_
    refine fl_iconst C0 dX1_make_33 ?_
    refine fl_icmp_ne (tgt := 44) C0 rx1 (rgk 2 rfl) dX1_make_34 (by decide) (fun c4 => ?_) (fun c4 => ?_)
    · replace hf := (if_neg c4).symm.trans hf
      refine lv_iload_n C0.1 C0.2.1 dX1_make_44 rfl (lv_at hl 3 rfl) ?_
      refine fl_iconst C0 dX1_make_45 ?_
      refine fl_icmp_ne (tgt := 56) C0 rx1 (rgk 3 rfl) dX1_make_46 (by decide) (fun c5 => ?_) (fun c5 => ?_)
      · replace hf := (if_neg c5).symm.trans hf
        refine lv_lload C0.1 C0.2.1 dX1_make_56 (lv_at hl 0 rfl) ?_
        refine lv_lload_n C0.1 C0.2.1 dX1_make_58 rfl (lv_at hl 1 rfl) ?_
        refine fl_lmul C0 dX1_make_59 ?_
        exact b_X1_make_60 C0 hr hWT  I3 a0 ((wl (r3 * r2))) _ _ _ ka0 ((rl_wl _)) hF3 (lv_sub hl [2] rfl) hf
      · replace hf := (if_pos c5).symm.trans hf
        refine lv_lload C0.1 C0.2.1 dX1_make_49 (lv_at hl 0 rfl) ?_
        refine lv_lload_n C0.1 C0.2.1 dX1_make_51 rfl (lv_at hl 1 rfl) ?_
        refine fl_lsub C0 dX1_make_52 ?_
        refine fl_goto (tgt := 60) C0 dX1_make_53 (by decide) ?_
        exact b_X1_make_60 C0 hr hWT  I3 a0 ((wl (r3 - r2))) _ _ _ ka0 ((rl_wl _)) hF3 (lv_sub hl [2] rfl) hf
    · replace hf := (if_pos c4).symm.trans hf
      refine lv_lload C0.1 C0.2.1 dX1_make_37 (lv_at hl 0 rfl) ?_
      refine lv_lload_n C0.1 C0.2.1 dX1_make_39 rfl (lv_at hl 1 rfl) ?_
      refine fl_ladd C0 dX1_make_40 ?_
      refine fl_goto (tgt := 60) C0 dX1_make_41 (by decide) ?_
      exact b_X1_make_60 C0 hr hWT  I3 a0 ((wl (r3 + r2))) _ _ _ ka0 ((rl_wl _)) hF3 (lv_sub hl [2] rfl) hf
  · replace hf := (if_neg c1).symm.trans hf
    refine fl_iconst C0 dX1_make_11 ?_
    cases hf
    exact fl_iret C0 hF hr (rgk 4 rfl) rfl dX1_make_12
-- RejudgeHall$Machine.print()I
abbrev rm_X1_print : Room := { frames := 1, cells := 0, slots := 0, locals := 21 }
def f_X1_print (K : KT) (P : PT) (I : IT) (a0 : Nat) : Option (Int × IT) := if 1 ≤ (I ((P a0 0)) 1) then (bp (f_X4_isFull K P I ((P a0 1))) fun r2 => if r2 = 0 then (bi (f_X4_pop K P I ((P a0 0))) fun r4 I4 => bp (f_X4_push K P I4 ((P a0 1)) r4) fun I5 => some (0, I5)) else (some (3, I))) else (some (4, I))
theorem pm_X1_print : plainM yX1_print 0 := by decide +kernel
set_option maxRecDepth 100000 in
set_option maxHeartbeats 4000000 in
theorem c_X1_print (l : Launch) (D : va_G) (cy : Nat → ClassId) (B : Nat) (L : List Nat) (K : KT) (P : PT) (J : IT) (hWT : WT K P) (I : IT) (a0 : Nat) (ka0 : K a0 = 2) {r : Int} {I' : IT} (hf : f_X1_print K P I a0 = some (r, I')) : Met l yX1_print [.code yX1_print cX1_print 1 (some .int)] rm_X1_print (va_Pc [.ref a0] (FW D cy B L K P J I)) (QI D cy B L K P J (r, I')) 0 0 (fun q => B ≤ q) := by
  refine fl_body (own := "RejudgeHall$Machine") [.ref a0] (by decide) rfl (Nat.le_of_ble_eq_true rfl) ?_
  intro p e s m args below meth c ls C0 hr hF hl
  have hl : lv_has ls 1 [(0, .ref a0)] := hl
  unfold f_X1_print at hf
  refine lv_aload_n C0.1 C0.2.1 dX1_print_0 rfl (lv_at hl 0 rfl) ?_
  refine fl_getr (k := 0) (t := 5) ck_2 C0 hF ka0 rfl (wt_at (k := 0) (t := 5) hWT ka0 rfl) rfl ⟨rfl, rfl⟩ aw_120 dX1_print_1 ?_
  refine fl_getiN (k := 1) ck_5 C0 hF (wt_at (k := 0) (t := 5) hWT ka0 rfl) rfl ⟨rfl, rfl⟩ aw_105 dX1_print_4 ?_
  refine fl_iconst C0 dX1_print_7 ?_
  refine fl_icmp_ge (tgt := 13) C0 (hF.rI _ _) (rgk 1 rfl) dX1_print_8 (by decide) (fun c1 => ?_) (fun c1 => ?_)
  · replace hf := (if_pos c1).symm.trans hf
    refine lv_aload_n C0.1 C0.2.1 dX1_print_13 rfl (lv_at hl 0 rfl) ?_
    refine fl_getr (k := 1) (t := 5) ck_2 C0 hF ka0 rfl (wt_at (k := 1) (t := 5) hWT ka0 rfl) rfl ⟨rfl, rfl⟩ aw_121 dX1_print_14 ?_
    obtain ⟨r2, hq2, hf⟩ := bp_f hf
    refine fl_ri hF (fl_runN (As := []) (rest := []) C0 hF hl.1 ck_5 (wt_at (k := 1) (t := 5) hWT ka0 rfl) rfl (c_X4_isFull l D cy B L K P J hWT I ((P a0 1)) ((wt_at (k := 1) (t := 5) hWT ka0 rfl)) hq2) aw_397 aw_399 aw_11 aw_47 aw_400 rfl pm_X4_isFull rfl rfl ⟨Nat.le_of_ble_eq_true rfl, Nat.le_of_ble_eq_true rfl⟩ rfl (Nat.le_of_ble_eq_true rfl) dX1_print_17 ⟨Nat.le_of_ble_eq_true rfl, Nat.le_of_ble_eq_true rfl⟩) (fun H locs hF2 rr2 => ?_)
    refine fl_if_eq (tgt := 25) C0 rr2 dX1_print_20 (by decide) (fun c3 => ?_) (fun c3 => ?_)
    · replace hf := (if_pos c3).symm.trans hf
      refine lv_aload_n C0.1 C0.2.1 dX1_print_25 rfl (lv_at hl 0 rfl) ?_
      refine fl_getr (k := 1) (t := 5) ck_2 C0 hF2 ka0 rfl (wt_at (k := 1) (t := 5) hWT ka0 rfl) rfl ⟨rfl, rfl⟩ aw_121 dX1_print_26 ?_
      refine lv_aload_n C0.1 C0.2.1 dX1_print_29 rfl (lv_at hl 0 rfl) ?_
      refine fl_getr (k := 0) (t := 5) ck_2 C0 hF2 ka0 rfl (wt_at (k := 0) (t := 5) hWT ka0 rfl) rfl ⟨rfl, rfl⟩ aw_120 dX1_print_30 ?_
      obtain ⟨r4, I4, hq4, hf⟩ := bi_f hf
      refine fl_ri hF2 (fl_runN (As := []) (rest := [.ref (P a0 1)]) C0 hF2 hl.1 ck_5 (wt_at (k := 0) (t := 5) hWT ka0 rfl) rfl (c_X4_pop l D cy B L K P J hWT I ((P a0 0)) ((wt_at (k := 0) (t := 5) hWT ka0 rfl)) hq4) aw_406 aw_408 aw_13 aw_47 aw_409 rfl pm_X4_pop rfl rfl ⟨Nat.le_of_ble_eq_true rfl, Nat.le_of_ble_eq_true rfl⟩ rfl (Nat.le_of_ble_eq_true rfl) dX1_print_33 ⟨Nat.le_of_ble_eq_true rfl, Nat.le_of_ble_eq_true rfl⟩) (fun H locs hF4 rr4 => ?_)
      obtain ⟨I5, hq5, hf⟩ := bp_f hf
      refine fl_rv hF4 (fl_runN (As := [iv r4]) (rest := []) C0 hF4 hl.1 ck_5 (wt_at (k := 1) (t := 5) hWT ka0 rfl) rfl (c_X4_push l D cy B L K P J hWT I4 ((P a0 1)) r4 ((wt_at (k := 1) (t := 5) hWT ka0 rfl)) rr4 hq5) aw_401 aw_329 aw_2 aw_47 aw_330 rfl pm_X4_push rfl rfl ⟨Nat.le_of_ble_eq_true rfl, Nat.le_of_ble_eq_true rfl⟩ rfl (Nat.le_of_ble_eq_true rfl) dX1_print_36 ⟨Nat.le_of_ble_eq_true rfl, Nat.le_of_ble_eq_true rfl⟩) (fun H locs hF5 => ?_)
      refine fl_iconst C0 dX1_print_39 ?_
      cases hf
      exact fl_iret C0 hF5 hr (rgk 0 rfl) rfl dX1_print_40
    · replace hf := (if_neg c3).symm.trans hf
      refine fl_iconst C0 dX1_print_23 ?_
      cases hf
      exact fl_iret C0 hF2 hr (rgk 3 rfl) rfl dX1_print_24
  · replace hf := (if_neg c1).symm.trans hf
    refine fl_iconst C0 dX1_print_11 ?_
    cases hf
    exact fl_iret C0 hF hr (rgk 4 rfl) rfl dX1_print_12
-- RejudgeHall$Machine.step(LRejudgeHall$Program;LRejudgeHall$Row;)I
abbrev rm_X1_step : Room := { frames := 2, cells := 0, slots := 0, locals := 48 }
def f_X1_step_138 (K : KT) (P : PT) (I : IT) (a0 : Nat) (x3 : Int) : Option (Int × IT) := bi (f_X1_make K P I a0 x3) fun r25 I25 => some (r25, I25)
def f_X1_step (K : KT) (P : PT) (I : IT) (a0 : Nat) (a1 : Nat) (a2 : Nat) : Option (Int × IT) := bp (f_X3_has K P I a1 ((I a0 3))) fun r1 => if r1 = 0 then (some (4, I)) else (ck (0 ≤ (I a0 3) ∧ (I a0 3) < 16) <| ck (0 ≤ (I a0 3) ∧ (I a0 3) < 16) <| bnd (up I a0 3 (wr ((I a0 3) + 1))) fun I3 => if (I ((P a1 0)) ((I a0 3) : Int).toNat) = 0 then (if (I3 a2 1) ≤ (I3 a0 4) then (some (4, I3)) else (bnd (up I3 a0 4 (wr ((I3 a0 4) + 1))) fun I6 => bp (f_X4_at K P I6 a2 ((I3 a0 4))) fun r7 => bi (f_X1_put K P I6 a0 r7) fun r8 I8 => some (r8, I8))) else if (I ((P a1 0)) ((I a0 3) : Int).toNat) = 1 then (bi (f_X1_put K P I3 a0 ((I ((P a1 1)) ((I a0 3) : Int).toNat))) fun r10 I10 => some (r10, I10)) else if (I ((P a1 0)) ((I a0 3) : Int).toNat) = 2 then (f_X1_step_138 K P  I3 a0 ((I ((P a1 0)) ((I a0 3) : Int).toNat))) else if (I ((P a1 0)) ((I a0 3) : Int).toNat) = 3 then (f_X1_step_138 K P  I3 a0 ((I ((P a1 0)) ((I a0 3) : Int).toNat))) else if (I ((P a1 0)) ((I a0 3) : Int).toNat) = 4 then (f_X1_step_138 K P  I3 a0 ((I ((P a1 0)) ((I a0 3) : Int).toNat))) else if (I ((P a1 0)) ((I a0 3) : Int).toNat) = 5 then (if 1 ≤ (I3 ((P a0 0)) 1) then (bp (f_X4_at K P I3 ((P a0 0)) ((wr ((I3 ((P a0 0)) 1) - 1)))) fun r16 => bi (f_X1_put K P I3 a0 r16) fun r17 I17 => some (r17, I17)) else (some (4, I3))) else if (I ((P a1 0)) ((I a0 3) : Int).toNat) = 6 then (bi (f_X1_swap K P I3 a0) fun r19 I19 => some (r19, I19)) else if (I ((P a1 0)) ((I a0 3) : Int).toNat) = 7 then (bi (f_X1_goIfZero K P I3 a0 ((I ((P a1 1)) ((I a0 3) : Int).toNat)) ((I3 a1 2))) fun r21 I21 => some (r21, I21)) else if (I ((P a1 0)) ((I a0 3) : Int).toNat) = 8 then (bi (f_X1_goTo K P I3 a0 ((I ((P a1 1)) ((I a0 3) : Int).toNat)) ((I3 a1 2))) fun r23 I23 => some (r23, I23)) else (bi (f_X1_print K P I3 a0) fun r24 I24 => some (r24, I24)))
abbrev G_X1_step_138 (p : Program) (l : Launch) (e : Env) (s : State) (m : MethodId) (args : Array Value) (below : List Frame) (meth : Method) (c : Code) (D : va_G) (cy : Nat → ClassId) (B : Nat) (L : List Nat) (K : KT) (P : PT) (J : IT) (res : Int × IT) (f : IT → Nat → Int → Option (Int × IT)) : Prop := ∀ (I : IT) (a0 : Nat) (x3 : Int) (H : Heap) (locs : List Loc) (ls : Array Slot), K a0 = 2 → rg x3 → FS D cy B L K P J s.heap I H locs → lv_has ls 5 [(0, .ref a0), (3, iv x3)] → f I a0 x3 = some res → W p l e rm_X1_step s m args below meth c H locs 0 0 (MQ below (QI D cy B L K P J res) args s 0 0 (fun q => B ≤ q)) (F0 m 138 ls [])
set_option maxRecDepth 100000 in
set_option maxHeartbeats 4000000 in
theorem b_X1_step_138 {p : Program} {l : Launch} {e : Env} {s : State} {m : MethodId} {args : Array Value} {below : List Frame} {meth : Method} {c : Code} {D : va_G} {cy : Nat → ClassId} {B : Nat} {L : List Nat} {K : KT} {P : PT} {J : IT} {res : Int × IT} (C0 : FC D cy B p s m meth c "RejudgeHall$Machine" cX1_step 5) (hr : meth.sig.returnType = (some .int)) (hWT : WT K P) : G_X1_step_138 p l e s m args below meth c D cy B L K P J res (f_X1_step_138 K P ) := by
  intro I a0 x3 H locs ls ka0 rx3 hF hl hf
  unfold f_X1_step_138 at hf
  refine lv_aload_n C0.1 C0.2.1 dX1_step_138 rfl (lv_at hl 0 rfl) ?_
  refine lv_iload_n C0.1 C0.2.1 dX1_step_139 rfl (lv_at hl 1 rfl) ?_
  obtain ⟨r25, I25, hq25, hf⟩ := bi_f hf
  refine fl_ri hF (fl_runV (As := [iv x3]) (rest := []) C0 hF hl.1 ck_2 ka0 rfl (c_X1_make l D cy B L K P J hWT I a0 x3 ka0 rx3 hq25) aw_402 aw_404 aw_12 aw_48 aw_405 rfl rfl pm_X1_make rfl rfl ⟨Nat.le_of_ble_eq_true rfl, Nat.le_of_ble_eq_true rfl⟩ rfl (Nat.le_of_ble_eq_true rfl) dX1_step_140 ⟨Nat.le_of_ble_eq_true rfl, Nat.le_of_ble_eq_true rfl⟩) (fun H locs hF25 rr25 => ?_)
  cases hf
  exact fl_iret C0 hF25 hr rr25 rfl dX1_step_143
theorem pm_X1_step : plainM yX1_step 2 := by decide +kernel
set_option maxRecDepth 100000 in
set_option maxHeartbeats 4000000 in
theorem c_X1_step (l : Launch) (D : va_G) (cy : Nat → ClassId) (B : Nat) (L : List Nat) (K : KT) (P : PT) (J : IT) (hWT : WT K P) (I : IT) (a0 : Nat) (a1 : Nat) (a2 : Nat) (ka0 : K a0 = 2) (ka1 : K a1 = 4) (ka2 : K a2 = 5) {r : Int} {I' : IT} (hf : f_X1_step K P I a0 a1 a2 = some (r, I')) : Met l yX1_step [.code yX1_step cX1_step 5 (some .int)] rm_X1_step (va_Pc [.ref a0, .ref a1, .ref a2] (FW D cy B L K P J I)) (QI D cy B L K P J (r, I')) 0 0 (fun q => B ≤ q) := by
  refine fl_body (own := "RejudgeHall$Machine") [.ref a0, .ref a1, .ref a2] (by decide) rfl (Nat.le_of_ble_eq_true rfl) ?_
  intro p e s m args below meth c ls C0 hr hF hl
  have hl : lv_has ls 5 [(0, .ref a0), (1, .ref a1), (2, .ref a2)] := hl
  unfold f_X1_step at hf
  refine lv_aload_n C0.1 C0.2.1 dX1_step_0 rfl (lv_at hl 1 rfl) ?_
  refine lv_aload_n C0.1 C0.2.1 dX1_step_1 rfl (lv_at hl 0 rfl) ?_
  refine fl_geti (k := 3) ck_2 C0 hF ka0 rfl ⟨rfl, rfl⟩ aw_125 dX1_step_2 ?_
  obtain ⟨r1, hq1, hf⟩ := bp_f hf
  refine fl_ri hF (fl_runN (As := [iv (I a0 3)]) (rest := []) C0 hF hl.1 ck_4 ka1 rfl (c_X3_has l D cy B L K P J hWT I a1 ((I a0 3)) ka1 ((hF.rI _ _)) hq1) aw_385 aw_387 aw_8 aw_46 aw_388 rfl pm_X3_has rfl rfl ⟨Nat.le_of_ble_eq_true rfl, Nat.le_of_ble_eq_true rfl⟩ rfl (Nat.le_of_ble_eq_true rfl) dX1_step_5 ⟨Nat.le_of_ble_eq_true rfl, Nat.le_of_ble_eq_true rfl⟩) (fun H locs hF1 rr1 => ?_)
  refine fl_if_ne (tgt := 13) C0 rr1 dX1_step_8 (by decide) (fun c2 => ?_) (fun c2 => ?_)
  · replace hf := (if_neg c2).symm.trans hf
    refine lv_aload_n C0.1 C0.2.1 dX1_step_13 rfl (lv_at hl 1 rfl) ?_
    refine fl_getrN (k := 0) (t := 164) ck_4 C0 hF1 ka1 rfl (wt_at (k := 0) (t := 164) hWT ka1 rfl) rfl ⟨rfl, rfl⟩ aw_83 dX1_step_14 ?_
    refine lv_aload_n C0.1 C0.2.1 dX1_step_17 rfl (lv_at hl 0 rfl) ?_
    refine fl_geti (k := 3) ck_2 C0 hF1 ka0 rfl ⟨rfl, rfl⟩ aw_125 dX1_step_18 ?_
    obtain ⟨hc, hf⟩ := ck_f hf
    refine fl_iald (n := 16) C0 hF1 (wt_at (k := 0) (t := 164) hWT ka1 rfl) (hF1.rI _ _) hc dX1_step_21 ?_
    refine lv_istore_n (lv' := [(3, iv (I ((P a1 0)) ((I a0 3) : Int).toNat)), (0, .ref a0), (1, .ref a1), (2, .ref a2)]) C0.1 C0.2.1 dX1_step_22 rfl hl (by decide) rfl (fun ls hl => ?_)
    refine lv_aload_n C0.1 C0.2.1 dX1_step_23 rfl (lv_at hl 2 rfl) ?_
    refine fl_getrN (k := 1) (t := 164) ck_4 C0 hF1 ka1 rfl (wt_at (k := 1) (t := 164) hWT ka1 rfl) rfl ⟨rfl, rfl⟩ aw_85 dX1_step_24 ?_
    refine lv_aload_n C0.1 C0.2.1 dX1_step_27 rfl (lv_at hl 1 rfl) ?_
    refine fl_geti (k := 3) ck_2 C0 hF1 ka0 rfl ⟨rfl, rfl⟩ aw_125 dX1_step_28 ?_
    obtain ⟨hc, hf⟩ := ck_f hf
    refine fl_iald (n := 16) C0 hF1 (wt_at (k := 1) (t := 164) hWT ka1 rfl) (hF1.rI _ _) hc dX1_step_31 ?_
    refine lv_istore (lv' := [(4, iv (I ((P a1 1)) ((I a0 3) : Int).toNat)), (3, iv (I ((P a1 0)) ((I a0 3) : Int).toNat)), (0, .ref a0), (1, .ref a1), (2, .ref a2)]) C0.1 C0.2.1 dX1_step_32 hl (by decide) rfl (fun ls hl => ?_)
    refine lv_aload_n C0.1 C0.2.1 dX1_step_34 rfl (lv_at hl 2 rfl) ?_
    refine lv_dup C0.1 C0.2.1 dX1_step_35 rfl ?_
    refine fl_geti (k := 3) ck_2 C0 hF1 ka0 rfl ⟨rfl, rfl⟩ aw_125 dX1_step_36 ?_
    refine fl_iconst C0 dX1_step_39 ?_
    refine fl_iadd C0 dX1_step_40 ?_
    refine fl_puti (k := 3) ck_2 C0 hF1 ka0 rfl (rg_wr _) ⟨rfl, rfl, rfl⟩ aw_125 dX1_step_41 (fun H locs hF3 => ?_)
    obtain ⟨I3, eI3, hf⟩ := bnd_f hf
    rw [eI3] at hF3
    refine lv_iload_n C0.1 C0.2.1 dX1_step_44 rfl (lv_at hl 1 rfl) ?_
    rcases Classical.em ((I ((P a1 0)) ((I a0 3) : Int).toNat) = 0) with c4 | c4
    · replace hf := (if_pos c4).symm.trans hf
      refine fl_tableIn (v := 0) (tgt := 96) C0 (hF1.rI _ _) dX1_step_45 c4 (by decide) rfl (by decide) ?_
      refine lv_aload_n C0.1 C0.2.1 dX1_step_96 rfl (lv_at hl 2 rfl) ?_
      refine fl_geti (k := 4) ck_2 C0 hF3 ka0 rfl ⟨rfl, rfl⟩ aw_126 dX1_step_97 ?_
      refine lv_aload_n C0.1 C0.2.1 dX1_step_100 rfl (lv_at hl 4 rfl) ?_
      refine fl_getiN (k := 1) ck_5 C0 hF3 ka2 rfl ⟨rfl, rfl⟩ aw_105 dX1_step_101 ?_
      refine fl_icmp_ge (tgt := 129) C0 (hF3.rI _ _) (hF3.rI _ _) dX1_step_104 (by decide) (fun c5 => ?_) (fun c5 => ?_)
      · replace hf := (if_pos c5).symm.trans hf
        refine fl_iconst C0 dX1_step_129 ?_
        cases hf
        exact fl_iret C0 hF3 hr (rgk 4 rfl) rfl dX1_step_130
      · replace hf := (if_neg c5).symm.trans hf
        refine lv_aload_n C0.1 C0.2.1 dX1_step_107 rfl (lv_at hl 2 rfl) ?_
        refine lv_aload_n C0.1 C0.2.1 dX1_step_108 rfl (lv_at hl 4 rfl) ?_
        refine lv_aload_n C0.1 C0.2.1 dX1_step_109 rfl (lv_at hl 2 rfl) ?_
        refine lv_dup C0.1 C0.2.1 dX1_step_110 rfl ?_
        refine fl_geti (k := 4) ck_2 C0 hF3 ka0 rfl ⟨rfl, rfl⟩ aw_126 dX1_step_111 ?_
        refine lv_dup_x1 C0.1 C0.2.1 dX1_step_114 rfl rfl ?_
        refine fl_iconst C0 dX1_step_115 ?_
        refine fl_iadd C0 dX1_step_116 ?_
        refine fl_puti (k := 4) ck_2 C0 hF3 ka0 rfl (rg_wr _) ⟨rfl, rfl, rfl⟩ aw_126 dX1_step_117 (fun H locs hF6 => ?_)
        obtain ⟨I6, eI6, hf⟩ := bnd_f hf
        rw [eI6] at hF6
        obtain ⟨r7, hq7, hf⟩ := bp_f hf
        refine fl_ri hF6 (fl_runN (As := [iv (I3 a0 4)]) (rest := [.ref a0]) C0 hF6 hl.1 ck_5 ka2 rfl (c_X4_at l D cy B L K P J hWT I6 a2 ((I3 a0 4)) ka2 ((hF3.rI _ _)) hq7) aw_389 aw_391 aw_9 aw_47 aw_392 rfl pm_X4_at rfl rfl ⟨Nat.le_of_ble_eq_true rfl, Nat.le_of_ble_eq_true rfl⟩ rfl (Nat.le_of_ble_eq_true rfl) dX1_step_120 ⟨Nat.le_of_ble_eq_true rfl, Nat.le_of_ble_eq_true rfl⟩) (fun H locs hF7 rr7 => ?_)
        obtain ⟨r8, I8, hq8, hf⟩ := bi_f hf
        refine fl_ri hF7 (fl_runV (As := [iv r7]) (rest := []) C0 hF7 hl.1 ck_2 ka0 rfl (c_X1_put l D cy B L K P J hWT I6 a0 r7 ka0 rr7 hq8) aw_393 aw_395 aw_10 aw_48 aw_396 rfl rfl pm_X1_put rfl rfl ⟨Nat.le_of_ble_eq_true rfl, Nat.le_of_ble_eq_true rfl⟩ rfl (Nat.le_of_ble_eq_true rfl) dX1_step_123 ⟨Nat.le_of_ble_eq_true rfl, Nat.le_of_ble_eq_true rfl⟩) (fun H locs hF8 rr8 => ?_)
        refine fl_goto (tgt := 130) C0 dX1_step_126 (by decide) ?_
        cases hf
        exact fl_iret C0 hF8 hr rr8 rfl dX1_step_130
    · replace hf := (if_neg c4).symm.trans hf
      rcases Classical.em ((I ((P a1 0)) ((I a0 3) : Int).toNat) = 1) with c9 | c9
      · replace hf := (if_pos c9).symm.trans hf
        refine fl_tableIn (v := 1) (tgt := 131) C0 (hF1.rI _ _) dX1_step_45 c9 (by decide) rfl (by decide) ?_
        refine lv_aload_n C0.1 C0.2.1 dX1_step_131 rfl (lv_at hl 2 rfl) ?_
        refine lv_iload C0.1 C0.2.1 dX1_step_132 (lv_at hl 0 rfl) ?_
        obtain ⟨r10, I10, hq10, hf⟩ := bi_f hf
        refine fl_ri hF3 (fl_runV (As := [iv (I ((P a1 1)) ((I a0 3) : Int).toNat)]) (rest := []) C0 hF3 hl.1 ck_2 ka0 rfl (c_X1_put l D cy B L K P J hWT I3 a0 ((I ((P a1 1)) ((I a0 3) : Int).toNat)) ka0 ((hF1.rI _ _)) hq10) aw_393 aw_395 aw_10 aw_48 aw_396 rfl rfl pm_X1_put rfl rfl ⟨Nat.le_of_ble_eq_true rfl, Nat.le_of_ble_eq_true rfl⟩ rfl (Nat.le_of_ble_eq_true rfl) dX1_step_134 ⟨Nat.le_of_ble_eq_true rfl, Nat.le_of_ble_eq_true rfl⟩) (fun H locs hF10 rr10 => ?_)
        cases hf
        exact fl_iret C0 hF10 hr rr10 rfl dX1_step_137
      · replace hf := (if_neg c9).symm.trans hf
        rcases Classical.em ((I ((P a1 0)) ((I a0 3) : Int).toNat) = 2) with c11 | c11
        · replace hf := (if_pos c11).symm.trans hf
          refine fl_tableIn (v := 2) (tgt := 138) C0 (hF1.rI _ _) dX1_step_45 c11 (by decide) rfl (by decide) ?_
          exact b_X1_step_138 C0 hr hWT  I3 a0 ((I ((P a1 0)) ((I a0 3) : Int).toNat)) _ _ _ ka0 ((hF1.rI _ _)) hF3 (lv_sub hl [2, 1] rfl) hf
        · replace hf := (if_neg c11).symm.trans hf
          rcases Classical.em ((I ((P a1 0)) ((I a0 3) : Int).toNat) = 3) with c12 | c12
          · replace hf := (if_pos c12).symm.trans hf
            refine fl_tableIn (v := 3) (tgt := 138) C0 (hF1.rI _ _) dX1_step_45 c12 (by decide) rfl (by decide) ?_
            exact b_X1_step_138 C0 hr hWT  I3 a0 ((I ((P a1 0)) ((I a0 3) : Int).toNat)) _ _ _ ka0 ((hF1.rI _ _)) hF3 (lv_sub hl [2, 1] rfl) hf
          · replace hf := (if_neg c12).symm.trans hf
            rcases Classical.em ((I ((P a1 0)) ((I a0 3) : Int).toNat) = 4) with c13 | c13
            · replace hf := (if_pos c13).symm.trans hf
              refine fl_tableIn (v := 4) (tgt := 138) C0 (hF1.rI _ _) dX1_step_45 c13 (by decide) rfl (by decide) ?_
              exact b_X1_step_138 C0 hr hWT  I3 a0 ((I ((P a1 0)) ((I a0 3) : Int).toNat)) _ _ _ ka0 ((hF1.rI _ _)) hF3 (lv_sub hl [2, 1] rfl) hf
            · replace hf := (if_neg c13).symm.trans hf
              rcases Classical.em ((I ((P a1 0)) ((I a0 3) : Int).toNat) = 5) with c14 | c14
              · replace hf := (if_pos c14).symm.trans hf
                refine fl_tableIn (v := 5) (tgt := 144) C0 (hF1.rI _ _) dX1_step_45 c14 (by decide) rfl (by decide) ?_
                refine lv_aload_n C0.1 C0.2.1 dX1_step_144 rfl (lv_at hl 2 rfl) ?_
                refine fl_getr (k := 0) (t := 5) ck_2 C0 hF3 ka0 rfl (wt_at (k := 0) (t := 5) hWT ka0 rfl) rfl ⟨rfl, rfl⟩ aw_120 dX1_step_145 ?_
                refine fl_getiN (k := 1) ck_5 C0 hF3 (wt_at (k := 0) (t := 5) hWT ka0 rfl) rfl ⟨rfl, rfl⟩ aw_105 dX1_step_148 ?_
                refine fl_iconst C0 dX1_step_151 ?_
                refine fl_icmp_ge (tgt := 159) C0 (hF3.rI _ _) (rgk 1 rfl) dX1_step_152 (by decide) (fun c15 => ?_) (fun c15 => ?_)
                · replace hf := (if_pos c15).symm.trans hf
                  refine lv_aload_n C0.1 C0.2.1 dX1_step_159 rfl (lv_at hl 2 rfl) ?_
                  refine lv_aload_n C0.1 C0.2.1 dX1_step_160 rfl (lv_at hl 2 rfl) ?_
                  refine fl_getr (k := 0) (t := 5) ck_2 C0 hF3 ka0 rfl (wt_at (k := 0) (t := 5) hWT ka0 rfl) rfl ⟨rfl, rfl⟩ aw_120 dX1_step_161 ?_
                  refine lv_aload_n C0.1 C0.2.1 dX1_step_164 rfl (lv_at hl 2 rfl) ?_
                  refine fl_getr (k := 0) (t := 5) ck_2 C0 hF3 ka0 rfl (wt_at (k := 0) (t := 5) hWT ka0 rfl) rfl ⟨rfl, rfl⟩ aw_120 dX1_step_165 ?_
                  refine fl_getiN (k := 1) ck_5 C0 hF3 (wt_at (k := 0) (t := 5) hWT ka0 rfl) rfl ⟨rfl, rfl⟩ aw_105 dX1_step_168 ?_
                  refine fl_iconst C0 dX1_step_171 ?_
                  refine fl_isub C0 dX1_step_172 ?_
                  obtain ⟨r16, hq16, hf⟩ := bp_f hf
                  refine fl_ri hF3 (fl_runN (As := [iv (wr ((I3 ((P a0 0)) 1) - 1))]) (rest := [.ref a0]) C0 hF3 hl.1 ck_5 (wt_at (k := 0) (t := 5) hWT ka0 rfl) rfl (c_X4_at l D cy B L K P J hWT I3 ((P a0 0)) ((wr ((I3 ((P a0 0)) 1) - 1))) ((wt_at (k := 0) (t := 5) hWT ka0 rfl)) ((rg_wr _)) hq16) aw_389 aw_391 aw_9 aw_47 aw_392 rfl pm_X4_at rfl rfl ⟨Nat.le_of_ble_eq_true rfl, Nat.le_of_ble_eq_true rfl⟩ rfl (Nat.le_of_ble_eq_true rfl) dX1_step_173 ⟨Nat.le_of_ble_eq_true rfl, Nat.le_of_ble_eq_true rfl⟩) (fun H locs hF16 rr16 => ?_)
                  obtain ⟨r17, I17, hq17, hf⟩ := bi_f hf
                  refine fl_ri hF16 (fl_runV (As := [iv r16]) (rest := []) C0 hF16 hl.1 ck_2 ka0 rfl (c_X1_put l D cy B L K P J hWT I3 a0 r16 ka0 rr16 hq17) aw_393 aw_395 aw_10 aw_48 aw_396 rfl rfl pm_X1_put rfl rfl ⟨Nat.le_of_ble_eq_true rfl, Nat.le_of_ble_eq_true rfl⟩ rfl (Nat.le_of_ble_eq_true rfl) dX1_step_176 ⟨Nat.le_of_ble_eq_true rfl, Nat.le_of_ble_eq_true rfl⟩) (fun H locs hF17 rr17 => ?_)
                  cases hf
                  exact fl_iret C0 hF17 hr rr17 rfl dX1_step_179
                · replace hf := (if_neg c15).symm.trans hf
                  refine fl_iconst C0 dX1_step_155 ?_
                  refine fl_goto (tgt := 179) C0 dX1_step_156 (by decide) ?_
                  cases hf
                  exact fl_iret C0 hF3 hr (rgk 4 rfl) rfl dX1_step_179
              · replace hf := (if_neg c14).symm.trans hf
                rcases Classical.em ((I ((P a1 0)) ((I a0 3) : Int).toNat) = 6) with c18 | c18
                · replace hf := (if_pos c18).symm.trans hf
                  refine fl_tableIn (v := 6) (tgt := 180) C0 (hF1.rI _ _) dX1_step_45 c18 (by decide) rfl (by decide) ?_
                  refine lv_aload_n C0.1 C0.2.1 dX1_step_180 rfl (lv_at hl 2 rfl) ?_
                  obtain ⟨r19, I19, hq19, hf⟩ := bi_f hf
                  refine fl_ri hF3 (fl_runV (As := []) (rest := []) C0 hF3 hl.1 ck_2 ka0 rfl (c_X1_swap l D cy B L K P J hWT I3 a0 ka0 hq19) aw_412 aw_414 aw_14 aw_48 aw_415 rfl rfl pm_X1_swap rfl rfl ⟨Nat.le_of_ble_eq_true rfl, Nat.le_of_ble_eq_true rfl⟩ rfl (Nat.le_of_ble_eq_true rfl) dX1_step_181 ⟨Nat.le_of_ble_eq_true rfl, Nat.le_of_ble_eq_true rfl⟩) (fun H locs hF19 rr19 => ?_)
                  cases hf
                  exact fl_iret C0 hF19 hr rr19 rfl dX1_step_184
                · replace hf := (if_neg c18).symm.trans hf
                  rcases Classical.em ((I ((P a1 0)) ((I a0 3) : Int).toNat) = 7) with c20 | c20
                  · replace hf := (if_pos c20).symm.trans hf
                    refine fl_tableIn (v := 7) (tgt := 185) C0 (hF1.rI _ _) dX1_step_45 c20 (by decide) rfl (by decide) ?_
                    refine lv_aload_n C0.1 C0.2.1 dX1_step_185 rfl (lv_at hl 2 rfl) ?_
                    refine lv_iload C0.1 C0.2.1 dX1_step_186 (lv_at hl 0 rfl) ?_
                    refine lv_aload_n C0.1 C0.2.1 dX1_step_188 rfl (lv_at hl 3 rfl) ?_
                    refine fl_getiN (k := 2) ck_4 C0 hF3 ka1 rfl ⟨rfl, rfl⟩ aw_88 dX1_step_189 ?_
                    obtain ⟨r21, I21, hq21, hf⟩ := bi_f hf
                    refine fl_ri hF3 (fl_runV (As := [iv (I ((P a1 1)) ((I a0 3) : Int).toNat), iv (I3 a1 2)]) (rest := []) C0 hF3 hl.1 ck_2 ka0 rfl (c_X1_goIfZero l D cy B L K P J hWT I3 a0 ((I ((P a1 1)) ((I a0 3) : Int).toNat)) ((I3 a1 2)) ka0 ((hF1.rI _ _)) ((hF3.rI _ _)) hq21) aw_416 aw_418 aw_15 aw_48 aw_419 rfl rfl pm_X1_goIfZero rfl rfl ⟨Nat.le_of_ble_eq_true rfl, Nat.le_of_ble_eq_true rfl⟩ rfl (Nat.le_of_ble_eq_true rfl) dX1_step_192 ⟨Nat.le_of_ble_eq_true rfl, Nat.le_of_ble_eq_true rfl⟩) (fun H locs hF21 rr21 => ?_)
                    cases hf
                    exact fl_iret C0 hF21 hr rr21 rfl dX1_step_195
                  · replace hf := (if_neg c20).symm.trans hf
                    rcases Classical.em ((I ((P a1 0)) ((I a0 3) : Int).toNat) = 8) with c22 | c22
                    · replace hf := (if_pos c22).symm.trans hf
                      refine fl_tableIn (v := 8) (tgt := 196) C0 (hF1.rI _ _) dX1_step_45 c22 (by decide) rfl (by decide) ?_
                      refine lv_aload_n C0.1 C0.2.1 dX1_step_196 rfl (lv_at hl 2 rfl) ?_
                      refine lv_iload C0.1 C0.2.1 dX1_step_197 (lv_at hl 0 rfl) ?_
                      refine lv_aload_n C0.1 C0.2.1 dX1_step_199 rfl (lv_at hl 3 rfl) ?_
                      refine fl_getiN (k := 2) ck_4 C0 hF3 ka1 rfl ⟨rfl, rfl⟩ aw_88 dX1_step_200 ?_
                      obtain ⟨r23, I23, hq23, hf⟩ := bi_f hf
                      refine fl_ri hF3 (fl_runV (As := [iv (I ((P a1 1)) ((I a0 3) : Int).toNat), iv (I3 a1 2)]) (rest := []) C0 hF3 hl.1 ck_2 ka0 rfl (c_X1_goTo l D cy B L K P J hWT I3 a0 ((I ((P a1 1)) ((I a0 3) : Int).toNat)) ((I3 a1 2)) ka0 ((hF1.rI _ _)) ((hF3.rI _ _)) hq23) aw_420 aw_422 aw_16 aw_48 aw_423 rfl rfl pm_X1_goTo rfl rfl ⟨Nat.le_of_ble_eq_true rfl, Nat.le_of_ble_eq_true rfl⟩ rfl (Nat.le_of_ble_eq_true rfl) dX1_step_203 ⟨Nat.le_of_ble_eq_true rfl, Nat.le_of_ble_eq_true rfl⟩) (fun H locs hF23 rr23 => ?_)
                      cases hf
                      exact fl_iret C0 hF23 hr rr23 rfl dX1_step_206
                    · replace hf := (if_neg c22).symm.trans hf
                      refine fl_tableOut (tgt := 207) C0 (hF1.rI _ _) dX1_step_45 (by omega) (by decide) ?_
                      refine lv_aload_n C0.1 C0.2.1 dX1_step_207 rfl (lv_at hl 2 rfl) ?_
                      obtain ⟨r24, I24, hq24, hf⟩ := bi_f hf
                      refine fl_ri hF3 (fl_runV (As := []) (rest := []) C0 hF3 hl.1 ck_2 ka0 rfl (c_X1_print l D cy B L K P J hWT I3 a0 ka0 hq24) aw_424 aw_426 aw_17 aw_48 aw_427 rfl rfl pm_X1_print rfl rfl ⟨Nat.le_of_ble_eq_true rfl, Nat.le_of_ble_eq_true rfl⟩ rfl (Nat.le_of_ble_eq_true rfl) dX1_step_208 ⟨Nat.le_of_ble_eq_true rfl, Nat.le_of_ble_eq_true rfl⟩) (fun H locs hF24 rr24 => ?_)
                      cases hf
                      exact fl_iret C0 hF24 hr rr24 rfl dX1_step_211
  · replace hf := (if_pos c2).symm.trans hf
    refine fl_iconst C0 dX1_step_11 ?_
    cases hf
    exact fl_iret C0 hF1 hr (rgk 4 rfl) rfl dX1_step_12
-- RejudgeHall$Machine.execute(LRejudgeHall$Program;LRejudgeHall$Row;I)I
abbrev rm_X1_execute : Room := { frames := 3, cells := 0, slots := 0, locals := 72 }
def f_X1_execute_79 (K : KT) (P : PT) (I : IT) (a0 : Nat) (a1 : Nat) : Option (Int × IT) := if (I a0 3) = (I a1 2) then (some (0, I)) else (some (2, I))
def f_X1_execute_31 (K : KT) (P : PT) : Nat → IT → Nat → Nat → Nat → Int → Option (Int × IT)
  | 0, _, _, _, _, _ => none
  | n + 1, I, a0, a1, a2, x3 => if (I a0 3) = (I a1 2) then (f_X1_execute_79 K P  I a0 a1) else (if x3 ≤ (I a0 2) then (f_X1_execute_79 K P  I a0 a1) else (bnd (up I a0 2 (wr ((I a0 2) + 1))) fun I8 => bi (f_X1_step K P I8 a0 a1 a2) fun r9 I9 => if r9 = 0 then ((f_X1_execute_31 K P  n) I9 a0 a1 a2 x3) else (some (r9, I9))))
def f_X1_execute (K : KT) (P : PT) (I : IT) (a0 : Nat) (a1 : Nat) (a2 : Nat) (x3 : Int) : Option (Int × IT) := bnd (up I ((P a0 0)) 1 0) fun I1 => bnd (up I1 ((P a0 1)) 1 0) fun I2 => bnd (up I2 a0 2 0) fun I3 => bnd (up I3 a0 3 0) fun I4 => bnd (up I4 a0 4 0) fun I5 => f_X1_execute_31 K P  FU I5 a0 a1 a2 x3
abbrev G_X1_execute_79 (p : Program) (l : Launch) (e : Env) (s : State) (m : MethodId) (args : Array Value) (below : List Frame) (meth : Method) (c : Code) (D : va_G) (cy : Nat → ClassId) (B : Nat) (L : List Nat) (K : KT) (P : PT) (J : IT) (res : Int × IT) (f : IT → Nat → Nat → Option (Int × IT)) : Prop := ∀ (I : IT) (a0 : Nat) (a1 : Nat) (H : Heap) (locs : List Loc) (ls : Array Slot), K a0 = 2 → K a1 = 4 → FS D cy B L K P J s.heap I H locs → lv_has ls 5 [(0, .ref a0), (1, .ref a1)] → f I a0 a1 = some res → W p l e rm_X1_execute s m args below meth c H locs 0 0 (MQ below (QI D cy B L K P J res) args s 0 0 (fun q => B ≤ q)) (F0 m 79 ls [])
abbrev G_X1_execute_31 (p : Program) (l : Launch) (e : Env) (s : State) (m : MethodId) (args : Array Value) (below : List Frame) (meth : Method) (c : Code) (D : va_G) (cy : Nat → ClassId) (B : Nat) (L : List Nat) (K : KT) (P : PT) (J : IT) (res : Int × IT) (f : IT → Nat → Nat → Nat → Int → Option (Int × IT)) : Prop := ∀ (I : IT) (a0 : Nat) (a1 : Nat) (a2 : Nat) (x3 : Int) (H : Heap) (locs : List Loc) (ls : Array Slot), K a0 = 2 → K a1 = 4 → K a2 = 5 → rg x3 → FS D cy B L K P J s.heap I H locs → lv_has ls 5 [(0, .ref a0), (1, .ref a1), (2, .ref a2), (3, iv x3)] → f I a0 a1 a2 x3 = some res → W p l e rm_X1_execute s m args below meth c H locs 0 0 (MQ below (QI D cy B L K P J res) args s 0 0 (fun q => B ≤ q)) (F0 m 31 ls [])
set_option maxRecDepth 100000 in
set_option maxHeartbeats 4000000 in
theorem b_X1_execute_79 {p : Program} {l : Launch} {e : Env} {s : State} {m : MethodId} {args : Array Value} {below : List Frame} {meth : Method} {c : Code} {D : va_G} {cy : Nat → ClassId} {B : Nat} {L : List Nat} {K : KT} {P : PT} {J : IT} {res : Int × IT} (C0 : FC D cy B p s m meth c "RejudgeHall$Machine" cX1_execute 5) (hr : meth.sig.returnType = (some .int)) (hWT : WT K P) : G_X1_execute_79 p l e s m args below meth c D cy B L K P J res (f_X1_execute_79 K P ) := by
  intro I a0 a1 H locs ls ka0 ka1 hF hl hf
  unfold f_X1_execute_79 at hf
  refine lv_aload_n C0.1 C0.2.1 dX1_execute_79 rfl (lv_at hl 0 rfl) ?_
  refine fl_geti (k := 3) ck_2 C0 hF ka0 rfl ⟨rfl, rfl⟩ aw_125 dX1_execute_80 ?_
  refine lv_aload_n C0.1 C0.2.1 dX1_execute_83 rfl (lv_at hl 1 rfl) ?_
  refine fl_getiN (k := 2) ck_4 C0 hF ka1 rfl ⟨rfl, rfl⟩ aw_88 dX1_execute_84 ?_
  refine fl_icmp_ne (tgt := 94) C0 (hF.rI _ _) (hF.rI _ _) dX1_execute_87 (by decide) (fun c11 => ?_) (fun c11 => ?_)
  · replace hf := (if_neg c11).symm.trans hf
    refine fl_iconst C0 dX1_execute_94 ?_
    cases hf
    exact fl_iret C0 hF hr (rgk 2 rfl) rfl dX1_execute_95
  · replace hf := (if_pos c11).symm.trans hf
    refine fl_iconst C0 dX1_execute_90 ?_
    refine fl_goto (tgt := 95) C0 dX1_execute_91 (by decide) ?_
    cases hf
    exact fl_iret C0 hF hr (rgk 0 rfl) rfl dX1_execute_95
set_option maxRecDepth 100000 in
set_option maxHeartbeats 4000000 in
theorem b_X1_execute_31 {p : Program} {l : Launch} {e : Env} {s : State} {m : MethodId} {args : Array Value} {below : List Frame} {meth : Method} {c : Code} {D : va_G} {cy : Nat → ClassId} {B : Nat} {L : List Nat} {K : KT} {P : PT} {J : IT} {res : Int × IT} (C0 : FC D cy B p s m meth c "RejudgeHall$Machine" cX1_execute 5) (hr : meth.sig.returnType = (some .int)) (hWT : WT K P) : ∀ n : Nat, G_X1_execute_31 p l e s m args below meth c D cy B L K P J res (f_X1_execute_31 K P  n)
  | 0 => by
    intro I a0 a1 a2 x3 H locs ls ka0 ka1 ka2 rx3 hF hl hf
    cases hf
  | n + 1 => by
    have ih : G_X1_execute_31 p l e s m args below meth c D cy B L K P J res (f_X1_execute_31 K P  n)  := b_X1_execute_31 C0 hr hWT  n
    intro I a0 a1 a2 x3 H locs ls ka0 ka1 ka2 rx3 hF hl hf
    rw [f_X1_execute_31] at hf
    refine lv_aload_n C0.1 C0.2.1 dX1_execute_31 rfl (lv_at hl 0 rfl) ?_
    refine fl_geti (k := 3) ck_2 C0 hF ka0 rfl ⟨rfl, rfl⟩ aw_125 dX1_execute_32 ?_
    refine lv_aload_n C0.1 C0.2.1 dX1_execute_35 rfl (lv_at hl 1 rfl) ?_
    refine fl_getiN (k := 2) ck_4 C0 hF ka1 rfl ⟨rfl, rfl⟩ aw_88 dX1_execute_36 ?_
    refine fl_icmp_eq (tgt := 79) C0 (hF.rI _ _) (hF.rI _ _) dX1_execute_39 (by decide) (fun c6 => ?_) (fun c6 => ?_)
    · replace hf := (if_pos c6).symm.trans hf
      exact b_X1_execute_79 C0 hr hWT  I a0 a1 _ _ _ ka0 ka1 hF (lv_sub hl [0, 1] rfl) hf
    · replace hf := (if_neg c6).symm.trans hf
      refine lv_aload_n C0.1 C0.2.1 dX1_execute_42 rfl (lv_at hl 0 rfl) ?_
      refine fl_geti (k := 2) ck_2 C0 hF ka0 rfl ⟨rfl, rfl⟩ aw_123 dX1_execute_43 ?_
      refine lv_iload_n C0.1 C0.2.1 dX1_execute_46 rfl (lv_at hl 3 rfl) ?_
      refine fl_icmp_ge (tgt := 79) C0 (hF.rI _ _) rx3 dX1_execute_47 (by decide) (fun c7 => ?_) (fun c7 => ?_)
      · replace hf := (if_pos c7).symm.trans hf
        exact b_X1_execute_79 C0 hr hWT  I a0 a1 _ _ _ ka0 ka1 hF (lv_sub hl [0, 1] rfl) hf
      · replace hf := (if_neg c7).symm.trans hf
        refine lv_aload_n C0.1 C0.2.1 dX1_execute_50 rfl (lv_at hl 0 rfl) ?_
        refine lv_dup C0.1 C0.2.1 dX1_execute_51 rfl ?_
        refine fl_geti (k := 2) ck_2 C0 hF ka0 rfl ⟨rfl, rfl⟩ aw_123 dX1_execute_52 ?_
        refine fl_iconst C0 dX1_execute_55 ?_
        refine fl_iadd C0 dX1_execute_56 ?_
        refine fl_puti (k := 2) ck_2 C0 hF ka0 rfl (rg_wr _) ⟨rfl, rfl, rfl⟩ aw_123 dX1_execute_57 (fun H locs hF8 => ?_)
        obtain ⟨I8, eI8, hf⟩ := bnd_f hf
        rw [eI8] at hF8
        refine lv_aload_n C0.1 C0.2.1 dX1_execute_60 rfl (lv_at hl 0 rfl) ?_
        refine lv_aload_n C0.1 C0.2.1 dX1_execute_61 rfl (lv_at hl 1 rfl) ?_
        refine lv_aload_n C0.1 C0.2.1 dX1_execute_62 rfl (lv_at hl 2 rfl) ?_
        obtain ⟨r9, I9, hq9, hf⟩ := bi_f hf
        refine fl_ri hF8 (fl_runV (As := [.ref a1, .ref a2]) (rest := []) C0 hF8 hl.1 ck_2 ka0 rfl (c_X1_step l D cy B L K P J hWT I8 a0 a1 a2 ka0 ka1 ka2 hq9) aw_381 aw_383 aw_7 aw_48 aw_384 rfl rfl pm_X1_step rfl rfl ⟨Nat.le_of_ble_eq_true rfl, Nat.le_of_ble_eq_true rfl⟩ rfl (Nat.le_of_ble_eq_true rfl) dX1_execute_63 ⟨Nat.le_of_ble_eq_true rfl, Nat.le_of_ble_eq_true rfl⟩) (fun H locs hF9 rr9 => ?_)
        refine lv_istore (lv' := [(4, iv r9), (0, .ref a0), (1, .ref a1), (2, .ref a2), (3, iv x3)]) C0.1 C0.2.1 dX1_execute_66 hl (by decide) rfl (fun ls hl => ?_)
        refine lv_iload C0.1 C0.2.1 dX1_execute_68 (lv_at hl 0 rfl) ?_
        refine fl_if_eq (tgt := 76) C0 rr9 dX1_execute_70 (by decide) (fun c10 => ?_) (fun c10 => ?_)
        · replace hf := (if_pos c10).symm.trans hf
          refine fl_goto (tgt := 31) C0 dX1_execute_76 (by decide) ?_
          exact ih I9 a0 a1 a2 x3 _ _ _ ka0 ka1 ka2 rx3 hF9 (lv_sub hl [1, 2, 3, 4] rfl) hf
        · replace hf := (if_neg c10).symm.trans hf
          refine lv_iload C0.1 C0.2.1 dX1_execute_73 (lv_at hl 0 rfl) ?_
          cases hf
          exact fl_iret C0 hF9 hr rr9 rfl dX1_execute_75
theorem pm_X1_execute : plainM yX1_execute 3 := by decide +kernel
set_option maxRecDepth 100000 in
set_option maxHeartbeats 4000000 in
theorem c_X1_execute (l : Launch) (D : va_G) (cy : Nat → ClassId) (B : Nat) (L : List Nat) (K : KT) (P : PT) (J : IT) (hWT : WT K P) (I : IT) (a0 : Nat) (a1 : Nat) (a2 : Nat) (x3 : Int) (ka0 : K a0 = 2) (ka1 : K a1 = 4) (ka2 : K a2 = 5) (rx3 : rg x3) {r : Int} {I' : IT} (hf : f_X1_execute K P I a0 a1 a2 x3 = some (r, I')) : Met l yX1_execute [.code yX1_execute cX1_execute 5 (some .int)] rm_X1_execute (va_Pc [.ref a0, .ref a1, .ref a2, iv x3] (FW D cy B L K P J I)) (QI D cy B L K P J (r, I')) 0 0 (fun q => B ≤ q) := by
  refine fl_body (own := "RejudgeHall$Machine") [.ref a0, .ref a1, .ref a2, iv x3] (by decide) rfl (Nat.le_of_ble_eq_true rfl) ?_
  intro p e s m args below meth c ls C0 hr hF hl
  have hl : lv_has ls 5 [(0, .ref a0), (1, .ref a1), (2, .ref a2), (3, iv x3)] := hl
  unfold f_X1_execute at hf
  refine lv_aload_n C0.1 C0.2.1 dX1_execute_0 rfl (lv_at hl 0 rfl) ?_
  refine fl_getr (k := 0) (t := 5) ck_2 C0 hF ka0 rfl (wt_at (k := 0) (t := 5) hWT ka0 rfl) rfl ⟨rfl, rfl⟩ aw_120 dX1_execute_1 ?_
  refine fl_iconst C0 dX1_execute_4 ?_
  refine fl_putiN (k := 1) ck_5 C0 hF (wt_at (k := 0) (t := 5) hWT ka0 rfl) rfl (rgk 0 rfl) ⟨rfl, rfl, rfl⟩ aw_105 dX1_execute_5 (fun H locs hF1 => ?_)
  obtain ⟨I1, eI1, hf⟩ := bnd_f hf
  rw [eI1] at hF1
  refine lv_aload_n C0.1 C0.2.1 dX1_execute_8 rfl (lv_at hl 0 rfl) ?_
  refine fl_getr (k := 1) (t := 5) ck_2 C0 hF1 ka0 rfl (wt_at (k := 1) (t := 5) hWT ka0 rfl) rfl ⟨rfl, rfl⟩ aw_121 dX1_execute_9 ?_
  refine fl_iconst C0 dX1_execute_12 ?_
  refine fl_putiN (k := 1) ck_5 C0 hF1 (wt_at (k := 1) (t := 5) hWT ka0 rfl) rfl (rgk 0 rfl) ⟨rfl, rfl, rfl⟩ aw_105 dX1_execute_13 (fun H locs hF2 => ?_)
  obtain ⟨I2, eI2, hf⟩ := bnd_f hf
  rw [eI2] at hF2
  refine lv_aload_n C0.1 C0.2.1 dX1_execute_16 rfl (lv_at hl 0 rfl) ?_
  refine fl_iconst C0 dX1_execute_17 ?_
  refine fl_puti (k := 2) ck_2 C0 hF2 ka0 rfl (rgk 0 rfl) ⟨rfl, rfl, rfl⟩ aw_123 dX1_execute_18 (fun H locs hF3 => ?_)
  obtain ⟨I3, eI3, hf⟩ := bnd_f hf
  rw [eI3] at hF3
  refine lv_aload_n C0.1 C0.2.1 dX1_execute_21 rfl (lv_at hl 0 rfl) ?_
  refine fl_iconst C0 dX1_execute_22 ?_
  refine fl_puti (k := 3) ck_2 C0 hF3 ka0 rfl (rgk 0 rfl) ⟨rfl, rfl, rfl⟩ aw_125 dX1_execute_23 (fun H locs hF4 => ?_)
  obtain ⟨I4, eI4, hf⟩ := bnd_f hf
  rw [eI4] at hF4
  refine lv_aload_n C0.1 C0.2.1 dX1_execute_26 rfl (lv_at hl 0 rfl) ?_
  refine fl_iconst C0 dX1_execute_27 ?_
  refine fl_puti (k := 4) ck_2 C0 hF4 ka0 rfl (rgk 0 rfl) ⟨rfl, rfl, rfl⟩ aw_126 dX1_execute_28 (fun H locs hF5 => ?_)
  obtain ⟨I5, eI5, hf⟩ := bnd_f hf
  rw [eI5] at hF5
  exact b_X1_execute_31 C0 hr hWT  FU I5 a0 a1 a2 x3 _ _ _ ka0 ka1 ka2 rx3 hF5 (lv_sub hl [0, 1, 2, 3] rfl) hf
