/-- making a list -/
def w_linit (t : Nat) (L : List Nat) (K : KT) (P : PT) (I : IT) (a : Nat) (post : PO) : Prop := post L (va_up K a t) (up P a 1 1) (up I a 0 0)
theorem a_linit (l : Launch) (D : va_G) (cy : Nat → ClassId) (B : Nat) (L : List Nat) (K : KT) (P : PT) (J : IT) (I : IT) (hWT : WT K P) (a t : Nat) (ka : K a = 20) (ht : cok t 0 = true) (htt : ∀ k, tt t k = 0) (post : PO) (hf : w_linit t L K P I a post) : Met l yJx4a65c_init_da8c8 [.code yJx4a65c_init_da8c8 cJx4a65c_init_da8c8 1 none] rm_linit (va_Pc [.ref a] (FW D cy B L K P J I)) (AVc D cy B J K P a t post) 0 0 (fun q => B ≤ q) := c_linit l D cy B L K P J I hWT a t ka ht htt post hf
theorem el_3 : Elt 3 3 RX2 TX2 tyX2 := ⟨ck_3, rfl, aw_846⟩
theorem el_7 : Elt 7 7 RX6 TX6 tyX6 := ⟨ck_7, rfl, aw_848⟩
theorem el_1 : Elt 1 1 RX0 TX0 tyX0 := ⟨ck_1, rfl, aw_849⟩
theorem ek0 {D : va_G} {cy : Nat → ClassId} {B : Nat} {L : List Nat} {K0 K : KT} {P : PT} {J I : IT} {H0 H : Heap} {locs : List Loc} {q : Nat} (hE : EK K0 K) (hF : FS D cy B L K P J H0 I H locs) (hq : q ∉ L) : K0 q = 0 := by
  refine Classical.byContradiction (fun h => ?_)
  have h1 := hE q h
  rw [hF.k0 hq] at h1
  exact h h1.symm
theorem ekc {K0 K K1 : KT} {P P1 : PT} {q : Nat} (hE : EK K0 K) (h : EX K P K1 P1 q) (hq : K0 q = 0) : EK K0 K1 := by
  intro b hb
  have h1 := hE b hb
  exact ((h b (by rw [h1]; exact hb) (fun e => hb (e ▸ hq))).1).trans h1
theorem dv_0 : ∀ j, j < knf 0 → defaultValue (tyJx4a65c j) = if krf 0 j = true then .null else .int 0 := by
  intro j hj
  have h : j < 3 := hj
  rcases (show j = 0 ∨ j = 1 ∨ j = 2 by omega) with rfl | rfl | rfl <;> rfl
theorem dv_1 : ∀ j, j < knf 1 → defaultValue (tyX0 j) = if krf 1 j = true then .null else .int 0 := by
  intro j hj
  have h : j < 8 := hj
  rcases (show j = 0 ∨ j = 1 ∨ j = 2 ∨ j = 3 ∨ j = 4 ∨ j = 5 ∨ j = 6 ∨ j = 7 by omega) with rfl | rfl | rfl | rfl | rfl | rfl | rfl | rfl <;> rfl
theorem dv_2 : ∀ j, j < knf 2 → defaultValue (tyX1 j) = if krf 2 j = true then .null else .int 0 := by
  intro j hj
  have h : j < 5 := hj
  rcases (show j = 0 ∨ j = 1 ∨ j = 2 ∨ j = 3 ∨ j = 4 by omega) with rfl | rfl | rfl | rfl | rfl <;> rfl
theorem dv_3 : ∀ j, j < knf 3 → defaultValue (tyX2 j) = if krf 3 j = true then .null else .int 0 := by
  intro j hj
  have h : j < 7 := hj
  rcases (show j = 0 ∨ j = 1 ∨ j = 2 ∨ j = 3 ∨ j = 4 ∨ j = 5 ∨ j = 6 by omega) with rfl | rfl | rfl | rfl | rfl | rfl | rfl <;> rfl
theorem dv_4 : ∀ j, j < knf 4 → defaultValue (tyX3 j) = if krf 4 j = true then .null else .int 0 := by
  intro j hj
  have h : j < 3 := hj
  rcases (show j = 0 ∨ j = 1 ∨ j = 2 by omega) with rfl | rfl | rfl <;> rfl
theorem dv_5 : ∀ j, j < knf 5 → defaultValue (tyX4 j) = if krf 5 j = true then .null else .int 0 := by
  intro j hj
  have h : j < 2 := hj
  rcases (show j = 0 ∨ j = 1 by omega) with rfl | rfl <;> rfl
theorem dv_6 : ∀ j, j < knf 6 → defaultValue (tyX5 j) = if krf 6 j = true then .null else .int 0 := by
  intro j hj
  have h : j < 5 := hj
  rcases (show j = 0 ∨ j = 1 ∨ j = 2 ∨ j = 3 ∨ j = 4 by omega) with rfl | rfl | rfl | rfl | rfl <;> rfl
theorem dv_7 : ∀ j, j < knf 7 → defaultValue (tyX6 j) = if krf 7 j = true then .null else .int 0 := by
  intro j hj
  have h : j < 3 := hj
  rcases (show j = 0 ∨ j = 1 ∨ j = 2 by omega) with rfl | rfl | rfl <;> rfl
theorem dv_8 : ∀ j, j < knf 8 → defaultValue (tyX7 j) = if krf 8 j = true then .null else .int 0 := by
  intro j hj
  have h : j < 12 := hj
  rcases (show j = 0 ∨ j = 1 ∨ j = 2 ∨ j = 3 ∨ j = 4 ∨ j = 5 ∨ j = 6 ∨ j = 7 ∨ j = 8 ∨ j = 9 ∨ j = 10 ∨ j = 11 by omega) with rfl | rfl | rfl | rfl | rfl | rfl | rfl | rfl | rfl | rfl | rfl | rfl <;> rfl
/-- the model's points: 25 from x on -/
def fill25 : Nat → IT → Nat → Int → Option IT
  | 0, _, _, _ => none
  | n + 1, I, a, x => if 24 ≤ x then some I else ck (0 ≤ x ∧ x < 24) <| bnd (up I a x.toNat 25) fun I1 => fill25 n I1 a (wr (x + 1))
-- RejudgeHall$Program.<init>()V
abbrev rm_X3_init : Room := { frames := 1, cells := 2, slots := 32, locals := 20 }
def w_X3_init (L : List Nat) (K : KT) (P : PT) (I : IT) (a0 : Nat) (post : PO) : Prop := nwP L K P I 164 fun q1 L1 K1 P1 I1 => bndP (up P1 a0 0 q1) fun P3 => nwP L1 K1 P3 I1 164 fun q4 L4 K4 P4 I4 => bndP (up P4 a0 1 q4) fun P8 => bndP (up I4 a0 2 0) fun I10 => post L4 (va_up K4 a0 4) P8 I10
theorem pm_X3_init : plainM yX3_init 0 := by decide +kernel
set_option maxRecDepth 100000 in
set_option maxHeartbeats 8000000 in
theorem a_X3_init (l : Launch) (D : va_G) (cy : Nat → ClassId) (B : Nat) (L : List Nat) (K : KT) (P : PT) (J : IT) (I : IT) (hWT : WT K P) (a0 : Nat) (ka0 : K a0 = 24) (post : PO) (hf : w_X3_init L K P I a0 post) : Met l yX3_init [.code yX3_init cX3_init 1 none] rm_X3_init (va_Pc [.ref a0] (FW D cy B L K P J I)) (AVc D cy B J K P a0 4 post) 2 32 (fun q => B ≤ q) := by
  refine fl_bodyI (own := "RejudgeHall$Program") [.ref a0] (by decide) rfl rfl (Nat.le_of_ble_eq_true rfl) ?_
  intro p e s m args below meth c ls C0 hr hin hF hl
  have hl : lv_has ls 1 [(0, .ref a0)] := hl
  have hE : EX K P K P a0 := EX.rf
  unfold w_X3_init at hf
  refine lv_aload_n C0.1 C0.2.1 dX3_init_0 rfl (lv_at hl 0 rfl) ?_
  refine fl_objInit (nm0 := yX3_init) C0 hl.1 aw_81 aw_74 aw_75 dX3_init_1 (Nat.le_of_ble_eq_true rfl) (Nat.le_of_ble_eq_true rfl) ?_
  refine lv_aload_n C0.1 C0.2.1 dX3_init_4 rfl (lv_at hl 0 rfl) ?_
  refine fl_bipush C0 dX3_init_5 (by decide) ?_
  refine fl_newi C0 hF (rgk 16 rfl) (by decide) (by decide) aw_96 (Nat.le_of_ble_eq_true rfl) (Nat.le_of_ble_eq_true rfl) dX3_init_7 (fun q1 H hq1 hF1 => ?_)
  have hF1 : FS D cy B (L ++ [q1]) (va_up K q1 164) (clrN P q1) J s.heap (clr I q1) H _ := hF1
  have h1q1 : 1 < q1 := hF1.ne0 (by rw [va_up_self]; decide)
  have n2 := nn hF hq1 ka0 rfl
  have k2 := kn (t := 164) hF hq1 ka0 rfl
  have z1 := k00 hE hF hq1 n2
  have hWT1 := wn (t := 164) hF hq1 hWT (fun k => tt_arr 164 (by decide) k)
  have hE1 := en (t := 164) hE hF hq1
  have kq1 : va_up K q1 164 q1 = 164 := va_up_self _ _ _
  obtain ⟨L1, K1, P1, I1, eL1, eK1, eP1, eI1, hf⟩ := nwP_f hf hq1 (by omega)
  rw [eL1, eK1, eP1, eI1] at hF1
  rw [eK1] at k2 kq1
  rw [eK1, eP1] at hWT1 hE1
  refine fl_putFr (k := 0) ck_4 C0 hF1 hin k2 rfl (hF1.ne0 (by rw [kq1]; decide)) ⟨rfl, rfl, rfl, rfl⟩ ⟨rfl, rfl⟩ aw_82 dX3_init_9 (fun H locs hF3 => ?_)
  have hWT3 := wu (k := 0) (v := q1) hWT1 k2 (fun k => tt_arr 24 (by decide) k)
  have hE3 := eu (k := 0) (v := q1) hE1
  have hp3 := up_s P1 a0 0 q1
  obtain ⟨P3, eP3, hf⟩ := bndP_f hf
  rw [eP3] at hF3 hWT3 hE3 hp3
  refine lv_aload_n C0.1 C0.2.1 dX3_init_12 rfl (lv_at hl 0 rfl) ?_
  refine fl_bipush C0 dX3_init_13 (by decide) ?_
  refine fl_newi C0 hF3 (rgk 16 rfl) (by decide) (by decide) aw_96 (Nat.le_of_ble_eq_true rfl) (Nat.le_of_ble_eq_true rfl) dX3_init_15 (fun q4 H hq4 hF4 => ?_)
  have hF4 : FS D cy B (L1 ++ [q4]) (va_up K1 q4 164) (clrN P3 q4) J s.heap (clr I1 q4) H _ := hF4
  have h1q4 : 1 < q4 := hF4.ne0 (by rw [va_up_self]; decide)
  have n5 := nn hF3 hq4 k2 rfl
  have k5 := kn (t := 164) hF3 hq4 k2 rfl
  have n6 := nn hF3 hq4 kq1 rfl
  have k6 := kn (t := 164) hF3 hq4 kq1 rfl
  have z4 := k00 hE3 hF3 hq4 n5
  have hp7 := pn hF3 hq4 k2 rfl hp3
  have hWT4 := wn (t := 164) hF3 hq4 hWT3 (fun k => tt_arr 164 (by decide) k)
  have hE4 := en (t := 164) hE3 hF3 hq4
  have kq4 : va_up K1 q4 164 q4 = 164 := va_up_self _ _ _
  obtain ⟨L4, K4, P4, I4, eL4, eK4, eP4, eI4, hf⟩ := nwP_f hf hq4 (by omega)
  rw [eL4, eK4, eP4, eI4] at hF4
  rw [eK4] at k5 k6 kq4
  rw [eK4, eP4] at hWT4 hE4
  rw [eP4] at hp7
  refine fl_putFr (k := 1) ck_4 C0 hF4 hin k5 rfl (hF4.ne0 (by rw [kq4]; decide)) ⟨rfl, rfl, rfl, rfl⟩ ⟨rfl, rfl⟩ aw_84 dX3_init_17 (fun H locs hF8 => ?_)
  have hWT8 := wu (k := 1) (v := q4) hWT4 k5 (fun k => tt_arr 24 (by decide) k)
  have hE8 := eu (k := 1) (v := q4) hE4
  have hp8 := up_s P4 a0 1 q4
  have hp9 := (up_k P4 a0 a0 q4 (by decide : 0 ≠ 1)).trans hp7
  obtain ⟨P8, eP8, hf⟩ := bndP_f hf
  rw [eP8] at hF8 hWT8 hE8 hp8 hp9
  refine lv_aload_n C0.1 C0.2.1 dX3_init_20 rfl (lv_at hl 0 rfl) ?_
  refine fl_iconst C0 dX3_init_21 ?_
  refine fl_puti (k := 2) ck_4 C0 hF8 k5 rfl (rgk 0 rfl) ⟨rfl, rfl, rfl⟩ aw_86 dX3_init_22 (fun H locs hF10 => ?_)
  obtain ⟨I10, eI10, hf⟩ := bndP_f hf
  rw [eI10] at hF10
  have ht : ∀ k, tt 4 k ≠ 0 → K4 (P8 a0 k) = tt 4 k ∧ P8 a0 k ≠ a0 := by
    intro k hk
    by_cases h0 : k = 0
    · subst h0; rw [hp9]; exact ⟨k6, fun e => by have h9 := k6; rw [e, k5] at h9; exact absurd h9 (by decide)⟩
    by_cases h1 : k = 1
    · subst h1; rw [hp8]; exact ⟨kq4, fun e => by have h9 := kq4; rw [e, k5] at h9; exact absurd h9 (by decide)⟩
    exact absurd (show tt 4 k = 0 by simp [tt, h0, h1]) hk
  exact fl_vretC C0 (hF10.done (ci := 4) (co2 := 4) k5 rfl rfl) hr hf (wd hWT8 k5 ht (wraw hWT8 k5 rfl)) (ked hE8 k5) (va_up_self _ _ _) dX3_init_25 (Nat.le_of_ble_eq_true rfl) (Nat.le_of_ble_eq_true rfl)
-- RejudgeHall$Row.<init>()V
abbrev rm_X4_init : Room := { frames := 1, cells := 1, slots := 8, locals := 20 }
def w_X4_init (L : List Nat) (K : KT) (P : PT) (I : IT) (a0 : Nat) (post : PO) : Prop := nwP L K P I 132 fun q1 L1 K1 P1 I1 => bndP (up P1 a0 0 q1) fun P3 => bndP (up I1 a0 1 0) fun I4 => post L1 (va_up K1 a0 5) P3 I4
theorem pm_X4_init : plainM yX4_init 0 := by decide +kernel
set_option maxRecDepth 100000 in
set_option maxHeartbeats 8000000 in
theorem a_X4_init (l : Launch) (D : va_G) (cy : Nat → ClassId) (B : Nat) (L : List Nat) (K : KT) (P : PT) (J : IT) (I : IT) (hWT : WT K P) (a0 : Nat) (ka0 : K a0 = 25) (post : PO) (hf : w_X4_init L K P I a0 post) : Met l yX4_init [.code yX4_init cX4_init 1 none] rm_X4_init (va_Pc [.ref a0] (FW D cy B L K P J I)) (AVc D cy B J K P a0 5 post) 1 8 (fun q => B ≤ q) := by
  refine fl_bodyI (own := "RejudgeHall$Row") [.ref a0] (by decide) rfl rfl (Nat.le_of_ble_eq_true rfl) ?_
  intro p e s m args below meth c ls C0 hr hin hF hl
  have hl : lv_has ls 1 [(0, .ref a0)] := hl
  have hE : EX K P K P a0 := EX.rf
  unfold w_X4_init at hf
  refine lv_aload_n C0.1 C0.2.1 dX4_init_0 rfl (lv_at hl 0 rfl) ?_
  refine fl_objInit (nm0 := yX4_init) C0 hl.1 aw_102 aw_74 aw_75 dX4_init_1 (Nat.le_of_ble_eq_true rfl) (Nat.le_of_ble_eq_true rfl) ?_
  refine lv_aload_n C0.1 C0.2.1 dX4_init_4 rfl (lv_at hl 0 rfl) ?_
  refine fl_bipush C0 dX4_init_5 (by decide) ?_
  refine fl_newi C0 hF (rgk 8 rfl) (by decide) (by decide) aw_96 (Nat.le_of_ble_eq_true rfl) (Nat.le_of_ble_eq_true rfl) dX4_init_7 (fun q1 H hq1 hF1 => ?_)
  have hF1 : FS D cy B (L ++ [q1]) (va_up K q1 132) (clrN P q1) J s.heap (clr I q1) H _ := hF1
  have h1q1 : 1 < q1 := hF1.ne0 (by rw [va_up_self]; decide)
  have n2 := nn hF hq1 ka0 rfl
  have k2 := kn (t := 132) hF hq1 ka0 rfl
  have z1 := k00 hE hF hq1 n2
  have hWT1 := wn (t := 132) hF hq1 hWT (fun k => tt_arr 132 (by decide) k)
  have hE1 := en (t := 132) hE hF hq1
  have kq1 : va_up K q1 132 q1 = 132 := va_up_self _ _ _
  obtain ⟨L1, K1, P1, I1, eL1, eK1, eP1, eI1, hf⟩ := nwP_f hf hq1 (by omega)
  rw [eL1, eK1, eP1, eI1] at hF1
  rw [eK1] at k2 kq1
  rw [eK1, eP1] at hWT1 hE1
  refine fl_putFr (k := 0) ck_5 C0 hF1 hin k2 rfl (hF1.ne0 (by rw [kq1]; decide)) ⟨rfl, rfl, rfl, rfl⟩ ⟨rfl, rfl⟩ aw_103 dX4_init_9 (fun H locs hF3 => ?_)
  have hWT3 := wu (k := 0) (v := q1) hWT1 k2 (fun k => tt_arr 25 (by decide) k)
  have hE3 := eu (k := 0) (v := q1) hE1
  have hp3 := up_s P1 a0 0 q1
  obtain ⟨P3, eP3, hf⟩ := bndP_f hf
  rw [eP3] at hF3 hWT3 hE3 hp3
  refine lv_aload_n C0.1 C0.2.1 dX4_init_12 rfl (lv_at hl 0 rfl) ?_
  refine fl_iconst C0 dX4_init_13 ?_
  refine fl_puti (k := 1) ck_5 C0 hF3 k2 rfl (rgk 0 rfl) ⟨rfl, rfl, rfl⟩ aw_104 dX4_init_14 (fun H locs hF4 => ?_)
  obtain ⟨I4, eI4, hf⟩ := bndP_f hf
  rw [eI4] at hF4
  have ht : ∀ k, tt 5 k ≠ 0 → K1 (P3 a0 k) = tt 5 k ∧ P3 a0 k ≠ a0 := by
    intro k hk
    by_cases h0 : k = 0
    · subst h0; rw [hp3]; exact ⟨kq1, fun e => by have h9 := kq1; rw [e, k2] at h9; exact absurd h9 (by decide)⟩
    exact absurd (show tt 5 k = 0 by simp [tt, h0]) hk
  exact fl_vretC C0 (hF4.done (ci := 5) (co2 := 5) k2 rfl rfl) hr hf (wd hWT3 k2 ht (wraw hWT3 k2 rfl)) (ked hE3 k2) (va_up_self _ _ _) dX4_init_17 (Nat.le_of_ble_eq_true rfl) (Nat.le_of_ble_eq_true rfl)
-- RejudgeHall$Machine.<init>()V
abbrev rm_X1_init : Room := { frames := 2, cells := 4, slots := 20, locals := 40 }
def w_X1_init (L : List Nat) (K : KT) (P : PT) (I : IT) (a0 : Nat) (post : PO) : Prop := nwP L K P I 25 fun q1 L1 K1 P1 I1 => w_X4_init L1 K1 P1 I1 q1 fun L3 K3 P3 I3 => bndP (up P3 a0 0 q1) fun P5 => nwP L3 K3 P5 I3 25 fun q6 L6 K6 P6 I6 => w_X4_init L6 K6 P6 I6 q6 fun L10 K10 P10 I10 => bndP (up P10 a0 1 q6) fun P14 => bndP (up I10 a0 2 0) fun I16 => bndP (up I16 a0 3 0) fun I17 => bndP (up I17 a0 4 0) fun I18 => post L10 (va_up K10 a0 2) P14 I18
theorem pm_X1_init : plainM yX1_init 0 := by decide +kernel
set_option maxRecDepth 100000 in
set_option maxHeartbeats 8000000 in
theorem a_X1_init (l : Launch) (D : va_G) (cy : Nat → ClassId) (B : Nat) (L : List Nat) (K : KT) (P : PT) (J : IT) (I : IT) (hWT : WT K P) (a0 : Nat) (ka0 : K a0 = 22) (post : PO) (hf : w_X1_init L K P I a0 post) : Met l yX1_init [.code yX1_init cX1_init 1 none] rm_X1_init (va_Pc [.ref a0] (FW D cy B L K P J I)) (AVc D cy B J K P a0 2 post) 4 20 (fun q => B ≤ q) := by
  refine fl_bodyI (own := "RejudgeHall$Machine") [.ref a0] (by decide) rfl rfl (Nat.le_of_ble_eq_true rfl) ?_
  intro p e s m args below meth c ls C0 hr hin hF hl
  have hl : lv_has ls 1 [(0, .ref a0)] := hl
  have hE : EX K P K P a0 := EX.rf
  unfold w_X1_init at hf
  refine lv_aload_n C0.1 C0.2.1 dX1_init_0 rfl (lv_at hl 0 rfl) ?_
  refine fl_objInit (nm0 := yX1_init) C0 hl.1 aw_117 aw_74 aw_75 dX1_init_1 (Nat.le_of_ble_eq_true rfl) (Nat.le_of_ble_eq_true rfl) ?_
  refine lv_aload_n C0.1 C0.2.1 dX1_init_4 rfl (lv_at hl 0 rfl) ?_
  refine fl_new ck_5 dv_5 C0 hF (co := 25) rfl aw_118 aw_98 aw_47 (Nat.le_of_ble_eq_true rfl) (Nat.le_of_ble_eq_true rfl) dX1_init_5 (fun q1 H hq1 hF1 => ?_)
  have hF1 : FS D cy B (L ++ [q1]) (va_up K q1 25) (clrN P q1) J s.heap (clr I q1) H _ := hF1
  have h1q1 : 1 < q1 := hF1.ne0 (by rw [va_up_self]; decide)
  have n2 := nn hF hq1 ka0 rfl
  have k2 := kn (t := 25) hF hq1 ka0 rfl
  have z1 := k00 hE hF hq1 n2
  have hWT1 := wn (t := 25) hF hq1 hWT (fun k => tt_arr 25 (by decide) k)
  have hE1 := en (t := 25) hE hF hq1
  have kq1 : va_up K q1 25 q1 = 25 := va_up_self _ _ _
  obtain ⟨L1, K1, P1, I1, eL1, eK1, eP1, eI1, hf⟩ := nwP_f hf hq1 (by omega)
  rw [eL1, eK1, eP1, eI1] at hF1
  rw [eK1] at k2 kq1
  rw [eK1, eP1] at hWT1 hE1
  refine lv_dup C0.1 C0.2.1 dX1_init_8 rfl ?_
  refine fl_avc hF1 (fl_runIN (As := []) (rest := [.ref q1, .ref a0]) C0 hF1 hl.1 (a_X4_init l D cy B L1 K1 P1 J I1 hWT1 q1 kq1 _ hf) aw_119 aw_100 aw_47 aw_101 rfl rfl pm_X4_init rfl rfl ⟨(Nat.le_of_ble_eq_true rfl), (Nat.le_of_ble_eq_true rfl)⟩ rfl (Nat.le_of_ble_eq_true rfl) dX1_init_9 ⟨(Nat.le_of_ble_eq_true rfl), (Nat.le_of_ble_eq_true rfl)⟩) (fun L3 K3 P3 I3 H locs hF3 hf hWT3 hX3 kq3 => ?_)
  have k4 := kx hX3 k2 rfl n2
  have hE3 := ec hE1 hX3 z1
  refine fl_putFr (k := 0) ck_2 C0 hF3 hin k4 rfl (hF3.ne0 (by rw [kq3]; decide)) ⟨rfl, rfl, rfl, rfl⟩ ⟨rfl, rfl⟩ aw_120 dX1_init_12 (fun H locs hF5 => ?_)
  have hWT5 := wu (k := 0) (v := q1) hWT3 k4 (fun k => tt_arr 22 (by decide) k)
  have hE5 := eu (k := 0) (v := q1) hE3
  have hp5 := up_s P3 a0 0 q1
  obtain ⟨P5, eP5, hf⟩ := bndP_f hf
  rw [eP5] at hF5 hWT5 hE5 hp5
  refine lv_aload_n C0.1 C0.2.1 dX1_init_15 rfl (lv_at hl 0 rfl) ?_
  refine fl_new ck_5 dv_5 C0 hF5 (co := 25) rfl aw_118 aw_98 aw_47 (Nat.le_of_ble_eq_true rfl) (Nat.le_of_ble_eq_true rfl) dX1_init_16 (fun q6 H hq6 hF6 => ?_)
  have hF6 : FS D cy B (L3 ++ [q6]) (va_up K3 q6 25) (clrN P5 q6) J s.heap (clr I3 q6) H _ := hF6
  have h1q6 : 1 < q6 := hF6.ne0 (by rw [va_up_self]; decide)
  have n7 := nn hF5 hq6 k4 rfl
  have k7 := kn (t := 25) hF5 hq6 k4 rfl
  have n8 := nn hF5 hq6 kq3 rfl
  have k8 := kn (t := 25) hF5 hq6 kq3 rfl
  have z6 := k00 hE5 hF5 hq6 n7
  have hp9 := pn hF5 hq6 k4 rfl hp5
  have hWT6 := wn (t := 25) hF5 hq6 hWT5 (fun k => tt_arr 25 (by decide) k)
  have hE6 := en (t := 25) hE5 hF5 hq6
  have kq6 : va_up K3 q6 25 q6 = 25 := va_up_self _ _ _
  obtain ⟨L6, K6, P6, I6, eL6, eK6, eP6, eI6, hf⟩ := nwP_f hf hq6 (by omega)
  rw [eL6, eK6, eP6, eI6] at hF6
  rw [eK6] at k7 k8 kq6
  rw [eK6, eP6] at hWT6 hE6
  rw [eP6] at hp9
  refine lv_dup C0.1 C0.2.1 dX1_init_19 rfl ?_
  refine fl_avc hF6 (fl_runIN (As := []) (rest := [.ref q6, .ref a0]) C0 hF6 hl.1 (a_X4_init l D cy B L6 K6 P6 J I6 hWT6 q6 kq6 _ hf) aw_119 aw_100 aw_47 aw_101 rfl rfl pm_X4_init rfl rfl ⟨(Nat.le_of_ble_eq_true rfl), (Nat.le_of_ble_eq_true rfl)⟩ rfl (Nat.le_of_ble_eq_true rfl) dX1_init_20 ⟨(Nat.le_of_ble_eq_true rfl), (Nat.le_of_ble_eq_true rfl)⟩) (fun L10 K10 P10 I10 H locs hF10 hf hWT10 hX10 kq10 => ?_)
  have k11 := kx hX10 k7 rfl n7
  have k12 := kx hX10 k8 rfl n8
  have hp13 := px hX10 k7 rfl n7 hp9
  have hE10 := ec hE6 hX10 z6
  refine fl_putFr (k := 1) ck_2 C0 hF10 hin k11 rfl (hF10.ne0 (by rw [kq10]; decide)) ⟨rfl, rfl, rfl, rfl⟩ ⟨rfl, rfl⟩ aw_121 dX1_init_23 (fun H locs hF14 => ?_)
  have hWT14 := wu (k := 1) (v := q6) hWT10 k11 (fun k => tt_arr 22 (by decide) k)
  have hE14 := eu (k := 1) (v := q6) hE10
  have hp14 := up_s P10 a0 1 q6
  have hp15 := (up_k P10 a0 a0 q6 (by decide : 0 ≠ 1)).trans hp13
  obtain ⟨P14, eP14, hf⟩ := bndP_f hf
  rw [eP14] at hF14 hWT14 hE14 hp14 hp15
  refine lv_aload_n C0.1 C0.2.1 dX1_init_26 rfl (lv_at hl 0 rfl) ?_
  refine fl_iconst C0 dX1_init_27 ?_
  refine fl_puti (k := 2) ck_2 C0 hF14 k11 rfl (rgk 0 rfl) ⟨rfl, rfl, rfl⟩ aw_123 dX1_init_28 (fun H locs hF16 => ?_)
  obtain ⟨I16, eI16, hf⟩ := bndP_f hf
  rw [eI16] at hF16
  refine lv_aload_n C0.1 C0.2.1 dX1_init_31 rfl (lv_at hl 0 rfl) ?_
  refine fl_iconst C0 dX1_init_32 ?_
  refine fl_puti (k := 3) ck_2 C0 hF16 k11 rfl (rgk 0 rfl) ⟨rfl, rfl, rfl⟩ aw_125 dX1_init_33 (fun H locs hF17 => ?_)
  obtain ⟨I17, eI17, hf⟩ := bndP_f hf
  rw [eI17] at hF17
  refine lv_aload_n C0.1 C0.2.1 dX1_init_36 rfl (lv_at hl 0 rfl) ?_
  refine fl_iconst C0 dX1_init_37 ?_
  refine fl_puti (k := 4) ck_2 C0 hF17 k11 rfl (rgk 0 rfl) ⟨rfl, rfl, rfl⟩ aw_126 dX1_init_38 (fun H locs hF18 => ?_)
  obtain ⟨I18, eI18, hf⟩ := bndP_f hf
  rw [eI18] at hF18
  have ht : ∀ k, tt 2 k ≠ 0 → K10 (P14 a0 k) = tt 2 k ∧ P14 a0 k ≠ a0 := by
    intro k hk
    by_cases h0 : k = 0
    · subst h0; rw [hp15]; exact ⟨k12, fun e => by have h9 := k12; rw [e, k11] at h9; exact absurd h9 (by decide)⟩
    by_cases h1 : k = 1
    · subst h1; rw [hp14]; exact ⟨kq10, fun e => by have h9 := kq10; rw [e, k11] at h9; exact absurd h9 (by decide)⟩
    exact absurd (show tt 2 k = 0 by simp [tt, h0, h1]) hk
  exact fl_vretC C0 (hF18.done (ci := 2) (co2 := 2) k11 rfl rfl) hr hf (wd hWT14 k11 ht (wraw hWT14 k11 rfl)) (ked hE14 k11) (va_up_self _ _ _) dX1_init_41 (Nat.le_of_ble_eq_true rfl) (Nat.le_of_ble_eq_true rfl)
-- RejudgeHall$Standings.<init>()V
abbrev rm_X5_init : Room := { frames := 1, cells := 5, slots := 120, locals := 20 }
def w_X5_init (L : List Nat) (K : KT) (P : PT) (I : IT) (a0 : Nat) (post : PO) : Prop := nwP L K P I 132 fun q1 L1 K1 P1 I1 => bndP (up P1 a0 0 q1) fun P3 => nwP L1 K1 P3 I1 132 fun q4 L4 K4 P4 I4 => bndP (up P4 a0 1 q4) fun P8 => nwP L4 K4 P8 I4 132 fun q10 L10 K10 P10 I10 => bndP (up P10 a0 2 q10) fun P16 => nwP L10 K10 P16 I10 292 fun q19 L19 K19 P19 I19 => bndP (up P19 a0 3 q19) fun P27 => nwP L19 K19 P27 I19 293 fun q31 L31 K31 P31 I31 => bndP (up P31 a0 4 q31) fun P41 => post L31 (va_up K31 a0 6) P41 I31
theorem pm_X5_init : plainM yX5_init 0 := by decide +kernel
set_option maxRecDepth 100000 in
set_option maxHeartbeats 8000000 in
theorem a_X5_init (l : Launch) (D : va_G) (cy : Nat → ClassId) (B : Nat) (L : List Nat) (K : KT) (P : PT) (J : IT) (I : IT) (hWT : WT K P) (a0 : Nat) (ka0 : K a0 = 26) (post : PO) (hf : w_X5_init L K P I a0 post) : Met l yX5_init [.code yX5_init cX5_init 1 none] rm_X5_init (va_Pc [.ref a0] (FW D cy B L K P J I)) (AVc D cy B J K P a0 6 post) 5 120 (fun q => B ≤ q) := by
  refine fl_bodyI (own := "RejudgeHall$Standings") [.ref a0] (by decide) rfl rfl (Nat.le_of_ble_eq_true rfl) ?_
  intro p e s m args below meth c ls C0 hr hin hF hl
  have hl : lv_has ls 1 [(0, .ref a0)] := hl
  have hE : EX K P K P a0 := EX.rf
  unfold w_X5_init at hf
  refine lv_aload_n C0.1 C0.2.1 dX5_init_0 rfl (lv_at hl 0 rfl) ?_
  refine fl_objInit (nm0 := yX5_init) C0 hl.1 aw_169 aw_74 aw_75 dX5_init_1 (Nat.le_of_ble_eq_true rfl) (Nat.le_of_ble_eq_true rfl) ?_
  refine lv_aload_n C0.1 C0.2.1 dX5_init_4 rfl (lv_at hl 0 rfl) ?_
  refine fl_bipush C0 dX5_init_5 (by decide) ?_
  refine fl_newi C0 hF (rgk 8 rfl) (by decide) (by decide) aw_96 (Nat.le_of_ble_eq_true rfl) (Nat.le_of_ble_eq_true rfl) dX5_init_7 (fun q1 H hq1 hF1 => ?_)
  have hF1 : FS D cy B (L ++ [q1]) (va_up K q1 132) (clrN P q1) J s.heap (clr I q1) H _ := hF1
  have h1q1 : 1 < q1 := hF1.ne0 (by rw [va_up_self]; decide)
  have n2 := nn hF hq1 ka0 rfl
  have k2 := kn (t := 132) hF hq1 ka0 rfl
  have z1 := k00 hE hF hq1 n2
  have hWT1 := wn (t := 132) hF hq1 hWT (fun k => tt_arr 132 (by decide) k)
  have hE1 := en (t := 132) hE hF hq1
  have kq1 : va_up K q1 132 q1 = 132 := va_up_self _ _ _
  obtain ⟨L1, K1, P1, I1, eL1, eK1, eP1, eI1, hf⟩ := nwP_f hf hq1 (by omega)
  rw [eL1, eK1, eP1, eI1] at hF1
  rw [eK1] at k2 kq1
  rw [eK1, eP1] at hWT1 hE1
  refine fl_putFr (k := 0) ck_6 C0 hF1 hin k2 rfl (hF1.ne0 (by rw [kq1]; decide)) ⟨rfl, rfl, rfl, rfl⟩ ⟨rfl, rfl⟩ aw_170 dX5_init_9 (fun H locs hF3 => ?_)
  have hWT3 := wu (k := 0) (v := q1) hWT1 k2 (fun k => tt_arr 26 (by decide) k)
  have hE3 := eu (k := 0) (v := q1) hE1
  have hp3 := up_s P1 a0 0 q1
  obtain ⟨P3, eP3, hf⟩ := bndP_f hf
  rw [eP3] at hF3 hWT3 hE3 hp3
  refine lv_aload_n C0.1 C0.2.1 dX5_init_12 rfl (lv_at hl 0 rfl) ?_
  refine fl_bipush C0 dX5_init_13 (by decide) ?_
  refine fl_newi C0 hF3 (rgk 8 rfl) (by decide) (by decide) aw_96 (Nat.le_of_ble_eq_true rfl) (Nat.le_of_ble_eq_true rfl) dX5_init_15 (fun q4 H hq4 hF4 => ?_)
  have hF4 : FS D cy B (L1 ++ [q4]) (va_up K1 q4 132) (clrN P3 q4) J s.heap (clr I1 q4) H _ := hF4
  have h1q4 : 1 < q4 := hF4.ne0 (by rw [va_up_self]; decide)
  have n5 := nn hF3 hq4 k2 rfl
  have k5 := kn (t := 132) hF3 hq4 k2 rfl
  have n6 := nn hF3 hq4 kq1 rfl
  have k6 := kn (t := 132) hF3 hq4 kq1 rfl
  have z4 := k00 hE3 hF3 hq4 n5
  have hp7 := pn hF3 hq4 k2 rfl hp3
  have hWT4 := wn (t := 132) hF3 hq4 hWT3 (fun k => tt_arr 132 (by decide) k)
  have hE4 := en (t := 132) hE3 hF3 hq4
  have kq4 : va_up K1 q4 132 q4 = 132 := va_up_self _ _ _
  obtain ⟨L4, K4, P4, I4, eL4, eK4, eP4, eI4, hf⟩ := nwP_f hf hq4 (by omega)
  rw [eL4, eK4, eP4, eI4] at hF4
  rw [eK4] at k5 k6 kq4
  rw [eK4, eP4] at hWT4 hE4
  rw [eP4] at hp7
  refine fl_putFr (k := 1) ck_6 C0 hF4 hin k5 rfl (hF4.ne0 (by rw [kq4]; decide)) ⟨rfl, rfl, rfl, rfl⟩ ⟨rfl, rfl⟩ aw_172 dX5_init_17 (fun H locs hF8 => ?_)
  have hWT8 := wu (k := 1) (v := q4) hWT4 k5 (fun k => tt_arr 26 (by decide) k)
  have hE8 := eu (k := 1) (v := q4) hE4
  have hp8 := up_s P4 a0 1 q4
  have hp9 := (up_k P4 a0 a0 q4 (by decide : 0 ≠ 1)).trans hp7
  obtain ⟨P8, eP8, hf⟩ := bndP_f hf
  rw [eP8] at hF8 hWT8 hE8 hp8 hp9
  refine lv_aload_n C0.1 C0.2.1 dX5_init_20 rfl (lv_at hl 0 rfl) ?_
  refine fl_bipush C0 dX5_init_21 (by decide) ?_
  refine fl_newi C0 hF8 (rgk 8 rfl) (by decide) (by decide) aw_96 (Nat.le_of_ble_eq_true rfl) (Nat.le_of_ble_eq_true rfl) dX5_init_23 (fun q10 H hq10 hF10 => ?_)
  have hF10 : FS D cy B (L4 ++ [q10]) (va_up K4 q10 132) (clrN P8 q10) J s.heap (clr I4 q10) H _ := hF10
  have h1q10 : 1 < q10 := hF10.ne0 (by rw [va_up_self]; decide)
  have n11 := nn hF8 hq10 k5 rfl
  have k11 := kn (t := 132) hF8 hq10 k5 rfl
  have n12 := nn hF8 hq10 kq4 rfl
  have k12 := kn (t := 132) hF8 hq10 kq4 rfl
  have n13 := nn hF8 hq10 k6 rfl
  have k13 := kn (t := 132) hF8 hq10 k6 rfl
  have z10 := k00 hE8 hF8 hq10 n11
  have hp14 := pn hF8 hq10 k5 rfl hp8
  have hp15 := pn hF8 hq10 k5 rfl hp9
  have hWT10 := wn (t := 132) hF8 hq10 hWT8 (fun k => tt_arr 132 (by decide) k)
  have hE10 := en (t := 132) hE8 hF8 hq10
  have kq10 : va_up K4 q10 132 q10 = 132 := va_up_self _ _ _
  obtain ⟨L10, K10, P10, I10, eL10, eK10, eP10, eI10, hf⟩ := nwP_f hf hq10 (by omega)
  rw [eL10, eK10, eP10, eI10] at hF10
  rw [eK10] at k11 k12 k13 kq10
  rw [eK10, eP10] at hWT10 hE10
  rw [eP10] at hp14 hp15
  refine fl_putFr (k := 2) ck_6 C0 hF10 hin k11 rfl (hF10.ne0 (by rw [kq10]; decide)) ⟨rfl, rfl, rfl, rfl⟩ ⟨rfl, rfl⟩ aw_174 dX5_init_25 (fun H locs hF16 => ?_)
  have hWT16 := wu (k := 2) (v := q10) hWT10 k11 (fun k => tt_arr 26 (by decide) k)
  have hE16 := eu (k := 2) (v := q10) hE10
  have hp16 := up_s P10 a0 2 q10
  have hp17 := (up_k P10 a0 a0 q10 (by decide : 1 ≠ 2)).trans hp14
  have hp18 := (up_k P10 a0 a0 q10 (by decide : 0 ≠ 2)).trans hp15
  obtain ⟨P16, eP16, hf⟩ := bndP_f hf
  rw [eP16] at hF16 hWT16 hE16 hp16 hp17 hp18
  refine lv_aload_n C0.1 C0.2.1 dX5_init_28 rfl (lv_at hl 0 rfl) ?_
  refine fl_bipush C0 dX5_init_29 (by decide) ?_
  refine fl_newi C0 hF16 (rgk 48 rfl) (by decide) (by decide) aw_96 (Nat.le_of_ble_eq_true rfl) (Nat.le_of_ble_eq_true rfl) dX5_init_31 (fun q19 H hq19 hF19 => ?_)
  have hF19 : FS D cy B (L10 ++ [q19]) (va_up K10 q19 292) (clrN P16 q19) J s.heap (clr I10 q19) H _ := hF19
  have h1q19 : 1 < q19 := hF19.ne0 (by rw [va_up_self]; decide)
  have n20 := nn hF16 hq19 k11 rfl
  have k20 := kn (t := 292) hF16 hq19 k11 rfl
  have n21 := nn hF16 hq19 kq10 rfl
  have k21 := kn (t := 292) hF16 hq19 kq10 rfl
  have n22 := nn hF16 hq19 k12 rfl
  have k22 := kn (t := 292) hF16 hq19 k12 rfl
  have n23 := nn hF16 hq19 k13 rfl
  have k23 := kn (t := 292) hF16 hq19 k13 rfl
  have z19 := k00 hE16 hF16 hq19 n20
  have hp24 := pn hF16 hq19 k11 rfl hp16
  have hp25 := pn hF16 hq19 k11 rfl hp17
  have hp26 := pn hF16 hq19 k11 rfl hp18
  have hWT19 := wn (t := 292) hF16 hq19 hWT16 (fun k => tt_arr 292 (by decide) k)
  have hE19 := en (t := 292) hE16 hF16 hq19
  have kq19 : va_up K10 q19 292 q19 = 292 := va_up_self _ _ _
  obtain ⟨L19, K19, P19, I19, eL19, eK19, eP19, eI19, hf⟩ := nwP_f hf hq19 (by omega)
  rw [eL19, eK19, eP19, eI19] at hF19
  rw [eK19] at k20 k21 k22 k23 kq19
  rw [eK19, eP19] at hWT19 hE19
  rw [eP19] at hp24 hp25 hp26
  refine fl_putFr (k := 3) ck_6 C0 hF19 hin k20 rfl (hF19.ne0 (by rw [kq19]; decide)) ⟨rfl, rfl, rfl, rfl⟩ ⟨rfl, rfl⟩ aw_176 dX5_init_33 (fun H locs hF27 => ?_)
  have hWT27 := wu (k := 3) (v := q19) hWT19 k20 (fun k => tt_arr 26 (by decide) k)
  have hE27 := eu (k := 3) (v := q19) hE19
  have hp27 := up_s P19 a0 3 q19
  have hp28 := (up_k P19 a0 a0 q19 (by decide : 2 ≠ 3)).trans hp24
  have hp29 := (up_k P19 a0 a0 q19 (by decide : 1 ≠ 3)).trans hp25
  have hp30 := (up_k P19 a0 a0 q19 (by decide : 0 ≠ 3)).trans hp26
  obtain ⟨P27, eP27, hf⟩ := bndP_f hf
  rw [eP27] at hF27 hWT27 hE27 hp27 hp28 hp29 hp30
  refine lv_aload_n C0.1 C0.2.1 dX5_init_36 rfl (lv_at hl 0 rfl) ?_
  refine fl_bipush C0 dX5_init_37 (by decide) ?_
  refine fl_newz C0 hF27 (rgk 48 rfl) (by decide) (by decide) aw_189 (Nat.le_of_ble_eq_true rfl) (Nat.le_of_ble_eq_true rfl) dX5_init_39 (fun q31 H hq31 hF31 => ?_)
  have hF31 : FS D cy B (L19 ++ [q31]) (va_up K19 q31 293) (clrN P27 q31) J s.heap (clr I19 q31) H _ := hF31
  have h1q31 : 1 < q31 := hF31.ne0 (by rw [va_up_self]; decide)
  have n32 := nn hF27 hq31 k20 rfl
  have k32 := kn (t := 293) hF27 hq31 k20 rfl
  have n33 := nn hF27 hq31 kq19 rfl
  have k33 := kn (t := 293) hF27 hq31 kq19 rfl
  have n34 := nn hF27 hq31 k21 rfl
  have k34 := kn (t := 293) hF27 hq31 k21 rfl
  have n35 := nn hF27 hq31 k22 rfl
  have k35 := kn (t := 293) hF27 hq31 k22 rfl
  have n36 := nn hF27 hq31 k23 rfl
  have k36 := kn (t := 293) hF27 hq31 k23 rfl
  have z31 := k00 hE27 hF27 hq31 n32
  have hp37 := pn hF27 hq31 k20 rfl hp27
  have hp38 := pn hF27 hq31 k20 rfl hp28
  have hp39 := pn hF27 hq31 k20 rfl hp29
  have hp40 := pn hF27 hq31 k20 rfl hp30
  have hWT31 := wn (t := 293) hF27 hq31 hWT27 (fun k => tt_arr 293 (by decide) k)
  have hE31 := en (t := 293) hE27 hF27 hq31
  have kq31 : va_up K19 q31 293 q31 = 293 := va_up_self _ _ _
  obtain ⟨L31, K31, P31, I31, eL31, eK31, eP31, eI31, hf⟩ := nwP_f hf hq31 (by omega)
  rw [eL31, eK31, eP31, eI31] at hF31
  rw [eK31] at k32 k33 k34 k35 k36 kq31
  rw [eK31, eP31] at hWT31 hE31
  rw [eP31] at hp37 hp38 hp39 hp40
  refine fl_putFr (k := 4) ck_6 C0 hF31 hin k32 rfl (hF31.ne0 (by rw [kq31]; decide)) ⟨rfl, rfl, rfl, rfl⟩ ⟨rfl, rfl⟩ aw_177 dX5_init_41 (fun H locs hF41 => ?_)
  have hWT41 := wu (k := 4) (v := q31) hWT31 k32 (fun k => tt_arr 26 (by decide) k)
  have hE41 := eu (k := 4) (v := q31) hE31
  have hp41 := up_s P31 a0 4 q31
  have hp42 := (up_k P31 a0 a0 q31 (by decide : 3 ≠ 4)).trans hp37
  have hp43 := (up_k P31 a0 a0 q31 (by decide : 2 ≠ 4)).trans hp38
  have hp44 := (up_k P31 a0 a0 q31 (by decide : 1 ≠ 4)).trans hp39
  have hp45 := (up_k P31 a0 a0 q31 (by decide : 0 ≠ 4)).trans hp40
  obtain ⟨P41, eP41, hf⟩ := bndP_f hf
  rw [eP41] at hF41 hWT41 hE41 hp41 hp42 hp43 hp44 hp45
  have ht : ∀ k, tt 6 k ≠ 0 → K31 (P41 a0 k) = tt 6 k ∧ P41 a0 k ≠ a0 := by
    intro k hk
    by_cases h0 : k = 0
    · subst h0; rw [hp45]; exact ⟨k36, fun e => by have h9 := k36; rw [e, k32] at h9; exact absurd h9 (by decide)⟩
    by_cases h1 : k = 1
    · subst h1; rw [hp44]; exact ⟨k35, fun e => by have h9 := k35; rw [e, k32] at h9; exact absurd h9 (by decide)⟩
    by_cases h2 : k = 2
    · subst h2; rw [hp43]; exact ⟨k34, fun e => by have h9 := k34; rw [e, k32] at h9; exact absurd h9 (by decide)⟩
    by_cases h3 : k = 3
    · subst h3; rw [hp42]; exact ⟨k33, fun e => by have h9 := k33; rw [e, k32] at h9; exact absurd h9 (by decide)⟩
    by_cases h4 : k = 4
    · subst h4; rw [hp41]; exact ⟨kq31, fun e => by have h9 := kq31; rw [e, k32] at h9; exact absurd h9 (by decide)⟩
    exact absurd (show tt 6 k = 0 by simp [tt, h0, h1, h2, h3, h4]) hk
  exact fl_vretC C0 (hF41.done (ci := 6) (co2 := 6) k32 rfl rfl) hr hf (wd hWT41 k32 ht (wraw hWT41 k32 rfl)) (ked hE41 k32) (va_up_self _ _ _) dX5_init_44 (Nat.le_of_ble_eq_true rfl) (Nat.le_of_ble_eq_true rfl)
-- RejudgeHall$Trial.<init>(LRejudgeHall$Row;LRejudgeHall$Row;I)V
abbrev rm_X6_init : Room := { frames := 2, cells := 4, slots := 20, locals := 47 }
def w_X6_init (L : List Nat) (K : KT) (P : PT) (I : IT) (a0 : Nat) (a1 : Nat) (a2 : Nat) (x3 : Int) (post : PO) : Prop := nwP L K P I 25 fun q1 L1 K1 P1 I1 => w_X4_init L1 K1 P1 I1 q1 fun L5 K5 P5 I5 => bndP (up P5 a0 0 q1) fun P9 => nwP L5 K5 P9 I5 25 fun q10 L10 K10 P10 I10 => w_X4_init L10 K10 P10 I10 q10 fun L16 K16 P16 I16 => bndP (up P16 a0 1 q10) fun P22 => bpP (f_X4_copyFrom K16 P22 I16 ((P22 a0 0)) a1) fun I25 => bpP (f_X4_copyFrom K16 P22 I25 ((P22 a0 1)) a2) fun I27 => bndP (up I27 a0 2 x3) fun I28 => post L16 (va_up K16 a0 7) P22 I28
theorem pm_X6_init : plainM yX6_init 3 := by decide +kernel
set_option maxRecDepth 100000 in
set_option maxHeartbeats 8000000 in
theorem a_X6_init (l : Launch) (D : va_G) (cy : Nat → ClassId) (B : Nat) (L : List Nat) (K : KT) (P : PT) (J : IT) (I : IT) (hWT : WT K P) (a0 : Nat) (a1 : Nat) (a2 : Nat) (x3 : Int) (ka0 : K a0 = 27) (ka1 : K a1 = 5) (ka2 : K a2 = 5) (rx3 : rg x3) (post : PO) (hf : w_X6_init L K P I a0 a1 a2 x3 post) : Met l yX6_init [.code yX6_init cX6_init 4 none] rm_X6_init (va_Pc [.ref a0, .ref a1, .ref a2, iv x3] (FW D cy B L K P J I)) (AVc D cy B J K P a0 7 post) 4 20 (fun q => B ≤ q) := by
  refine fl_bodyI (own := "RejudgeHall$Trial") [.ref a0, .ref a1, .ref a2, iv x3] (by decide) rfl rfl (Nat.le_of_ble_eq_true rfl) ?_
  intro p e s m args below meth c ls C0 hr hin hF hl
  have hl : lv_has ls 4 [(0, .ref a0), (1, .ref a1), (2, .ref a2), (3, iv x3)] := hl
  have hE : EX K P K P a0 := EX.rf
  unfold w_X6_init at hf
  refine lv_aload_n C0.1 C0.2.1 dX6_init_0 rfl (lv_at hl 0 rfl) ?_
  refine fl_objInit (nm0 := yX6_init) C0 hl.1 aw_687 aw_74 aw_75 dX6_init_1 (Nat.le_of_ble_eq_true rfl) (Nat.le_of_ble_eq_true rfl) ?_
  refine lv_aload_n C0.1 C0.2.1 dX6_init_4 rfl (lv_at hl 0 rfl) ?_
  refine fl_new ck_5 dv_5 C0 hF (co := 25) rfl aw_688 aw_98 aw_47 (Nat.le_of_ble_eq_true rfl) (Nat.le_of_ble_eq_true rfl) dX6_init_5 (fun q1 H hq1 hF1 => ?_)
  have hF1 : FS D cy B (L ++ [q1]) (va_up K q1 25) (clrN P q1) J s.heap (clr I q1) H _ := hF1
  have h1q1 : 1 < q1 := hF1.ne0 (by rw [va_up_self]; decide)
  have n2 := nn hF hq1 ka0 rfl
  have k2 := kn (t := 25) hF hq1 ka0 rfl
  have n3 := nn hF hq1 ka1 rfl
  have k3 := kn (t := 25) hF hq1 ka1 rfl
  have n4 := nn hF hq1 ka2 rfl
  have k4 := kn (t := 25) hF hq1 ka2 rfl
  have z1 := k00 hE hF hq1 n2
  have hWT1 := wn (t := 25) hF hq1 hWT (fun k => tt_arr 25 (by decide) k)
  have hE1 := en (t := 25) hE hF hq1
  have kq1 : va_up K q1 25 q1 = 25 := va_up_self _ _ _
  obtain ⟨L1, K1, P1, I1, eL1, eK1, eP1, eI1, hf⟩ := nwP_f hf hq1 (by omega)
  rw [eL1, eK1, eP1, eI1] at hF1
  rw [eK1] at k2 k3 k4 kq1
  rw [eK1, eP1] at hWT1 hE1
  refine lv_dup C0.1 C0.2.1 dX6_init_8 rfl ?_
  refine fl_avc hF1 (fl_runIN (As := []) (rest := [.ref q1, .ref a0]) C0 hF1 hl.1 (a_X4_init l D cy B L1 K1 P1 J I1 hWT1 q1 kq1 _ hf) aw_689 aw_100 aw_47 aw_101 rfl rfl pm_X4_init rfl rfl ⟨(Nat.le_of_ble_eq_true rfl), (Nat.le_of_ble_eq_true rfl)⟩ rfl (Nat.le_of_ble_eq_true rfl) dX6_init_9 ⟨(Nat.le_of_ble_eq_true rfl), (Nat.le_of_ble_eq_true rfl)⟩) (fun L5 K5 P5 I5 H locs hF5 hf hWT5 hX5 kq5 => ?_)
  have k6 := kx hX5 k2 rfl n2
  have k7 := kx hX5 k3 rfl n3
  have k8 := kx hX5 k4 rfl n4
  have hE5 := ec hE1 hX5 z1
  refine fl_putFr (k := 0) ck_7 C0 hF5 hin k6 rfl (hF5.ne0 (by rw [kq5]; decide)) ⟨rfl, rfl, rfl, rfl⟩ ⟨rfl, rfl⟩ aw_695 dX6_init_12 (fun H locs hF9 => ?_)
  have hWT9 := wu (k := 0) (v := q1) hWT5 k6 (fun k => tt_arr 27 (by decide) k)
  have hE9 := eu (k := 0) (v := q1) hE5
  have hp9 := up_s P5 a0 0 q1
  obtain ⟨P9, eP9, hf⟩ := bndP_f hf
  rw [eP9] at hF9 hWT9 hE9 hp9
  refine lv_aload_n C0.1 C0.2.1 dX6_init_15 rfl (lv_at hl 0 rfl) ?_
  refine fl_new ck_5 dv_5 C0 hF9 (co := 25) rfl aw_688 aw_98 aw_47 (Nat.le_of_ble_eq_true rfl) (Nat.le_of_ble_eq_true rfl) dX6_init_16 (fun q10 H hq10 hF10 => ?_)
  have hF10 : FS D cy B (L5 ++ [q10]) (va_up K5 q10 25) (clrN P9 q10) J s.heap (clr I5 q10) H _ := hF10
  have h1q10 : 1 < q10 := hF10.ne0 (by rw [va_up_self]; decide)
  have n11 := nn hF9 hq10 k6 rfl
  have k11 := kn (t := 25) hF9 hq10 k6 rfl
  have n12 := nn hF9 hq10 k7 rfl
  have k12 := kn (t := 25) hF9 hq10 k7 rfl
  have n13 := nn hF9 hq10 k8 rfl
  have k13 := kn (t := 25) hF9 hq10 k8 rfl
  have n14 := nn hF9 hq10 kq5 rfl
  have k14 := kn (t := 25) hF9 hq10 kq5 rfl
  have z10 := k00 hE9 hF9 hq10 n11
  have hp15 := pn hF9 hq10 k6 rfl hp9
  have hWT10 := wn (t := 25) hF9 hq10 hWT9 (fun k => tt_arr 25 (by decide) k)
  have hE10 := en (t := 25) hE9 hF9 hq10
  have kq10 : va_up K5 q10 25 q10 = 25 := va_up_self _ _ _
  obtain ⟨L10, K10, P10, I10, eL10, eK10, eP10, eI10, hf⟩ := nwP_f hf hq10 (by omega)
  rw [eL10, eK10, eP10, eI10] at hF10
  rw [eK10] at k11 k12 k13 k14 kq10
  rw [eK10, eP10] at hWT10 hE10
  rw [eP10] at hp15
  refine lv_dup C0.1 C0.2.1 dX6_init_19 rfl ?_
  refine fl_avc hF10 (fl_runIN (As := []) (rest := [.ref q10, .ref a0]) C0 hF10 hl.1 (a_X4_init l D cy B L10 K10 P10 J I10 hWT10 q10 kq10 _ hf) aw_689 aw_100 aw_47 aw_101 rfl rfl pm_X4_init rfl rfl ⟨(Nat.le_of_ble_eq_true rfl), (Nat.le_of_ble_eq_true rfl)⟩ rfl (Nat.le_of_ble_eq_true rfl) dX6_init_20 ⟨(Nat.le_of_ble_eq_true rfl), (Nat.le_of_ble_eq_true rfl)⟩) (fun L16 K16 P16 I16 H locs hF16 hf hWT16 hX16 kq16 => ?_)
  have k17 := kx hX16 k11 rfl n11
  have k18 := kx hX16 k12 rfl n12
  have k19 := kx hX16 k13 rfl n13
  have k20 := kx hX16 k14 rfl n14
  have hp21 := px hX16 k11 rfl n11 hp15
  have hE16 := ec hE10 hX16 z10
  refine fl_putFr (k := 1) ck_7 C0 hF16 hin k17 rfl (hF16.ne0 (by rw [kq16]; decide)) ⟨rfl, rfl, rfl, rfl⟩ ⟨rfl, rfl⟩ aw_697 dX6_init_23 (fun H locs hF22 => ?_)
  have hWT22 := wu (k := 1) (v := q10) hWT16 k17 (fun k => tt_arr 27 (by decide) k)
  have hE22 := eu (k := 1) (v := q10) hE16
  have hp22 := up_s P16 a0 1 q10
  have hp23 := (up_k P16 a0 a0 q10 (by decide : 0 ≠ 1)).trans hp21
  obtain ⟨P22, eP22, hf⟩ := bndP_f hf
  rw [eP22] at hF22 hWT22 hE22 hp22 hp23
  refine lv_aload_n C0.1 C0.2.1 dX6_init_26 rfl (lv_at hl 0 rfl) ?_
  have k24 : K16 (P22 a0 0) = 5 := (by rw [hp23]; exact k20)
  refine fl_getr (k := 0) (t := 5) ck_7 C0 hF22 k17 rfl k24 rfl ⟨rfl, rfl⟩ aw_695 dX6_init_27 ?_
  refine lv_aload_n C0.1 C0.2.1 dX6_init_30 rfl (lv_at hl 1 rfl) ?_
  obtain ⟨I25, hq25, hf⟩ := hf
  refine fl_rv hF22 (fl_runN (As := [.ref a1]) (rest := []) C0 hF22 hl.1 ck_5 k24 rfl (c_X4_copyFrom l D cy B L16 K16 P22 J hWT22 I16 ((P22 a0 0)) a1 k24 k18 hq25) aw_690 aw_692 aw_39 aw_47 aw_693 rfl pm_X4_copyFrom rfl rfl ⟨(Nat.le_of_ble_eq_true rfl), (Nat.le_of_ble_eq_true rfl)⟩ rfl (Nat.le_of_ble_eq_true rfl) dX6_init_31 ⟨(Nat.le_of_ble_eq_true rfl), (Nat.le_of_ble_eq_true rfl)⟩) (fun H locs hF25 => ?_)
  refine lv_aload_n C0.1 C0.2.1 dX6_init_34 rfl (lv_at hl 0 rfl) ?_
  have k26 : K16 (P22 a0 1) = 5 := (by rw [hp22]; exact kq16)
  refine fl_getr (k := 1) (t := 5) ck_7 C0 hF25 k17 rfl k26 rfl ⟨rfl, rfl⟩ aw_697 dX6_init_35 ?_
  refine lv_aload_n C0.1 C0.2.1 dX6_init_38 rfl (lv_at hl 2 rfl) ?_
  obtain ⟨I27, hq27, hf⟩ := hf
  refine fl_rv hF25 (fl_runN (As := [.ref a2]) (rest := []) C0 hF25 hl.1 ck_5 k26 rfl (c_X4_copyFrom l D cy B L16 K16 P22 J hWT22 I25 ((P22 a0 1)) a2 k26 k19 hq27) aw_690 aw_692 aw_39 aw_47 aw_693 rfl pm_X4_copyFrom rfl rfl ⟨(Nat.le_of_ble_eq_true rfl), (Nat.le_of_ble_eq_true rfl)⟩ rfl (Nat.le_of_ble_eq_true rfl) dX6_init_39 ⟨(Nat.le_of_ble_eq_true rfl), (Nat.le_of_ble_eq_true rfl)⟩) (fun H locs hF27 => ?_)
  refine lv_aload_n C0.1 C0.2.1 dX6_init_42 rfl (lv_at hl 0 rfl) ?_
  refine lv_iload_n C0.1 C0.2.1 dX6_init_43 rfl (lv_at hl 3 rfl) ?_
  refine fl_putFi (k := 2) ck_7 C0 hF27 hin k17 rfl rx3 ⟨rfl, rfl, rfl, rfl⟩ aw_699 dX6_init_44 (fun H locs hF28 => ?_)
  obtain ⟨I28, eI28, hf⟩ := bndP_f hf
  rw [eI28] at hF28
  have ht : ∀ k, tt 7 k ≠ 0 → K16 (P22 a0 k) = tt 7 k ∧ P22 a0 k ≠ a0 := by
    intro k hk
    by_cases h0 : k = 0
    · subst h0; rw [hp23]; exact ⟨k20, fun e => by have h9 := k20; rw [e, k17] at h9; exact absurd h9 (by decide)⟩
    by_cases h1 : k = 1
    · subst h1; rw [hp22]; exact ⟨kq16, fun e => by have h9 := kq16; rw [e, k17] at h9; exact absurd h9 (by decide)⟩
    exact absurd (show tt 7 k = 0 by simp [tt, h0, h1]) hk
  exact fl_vretC C0 (hF28.done (ci := 7) (co2 := 7) k17 rfl rfl) hr hf (wd hWT22 k17 ht (wraw hWT22 k17 rfl)) (ked hE22 k17) (va_up_self _ _ _) dX6_init_47 (Nat.le_of_ble_eq_true rfl) (Nat.le_of_ble_eq_true rfl)
-- RejudgeHall$Problem.<init>(III)V
abbrev rm_X2_init : Room := { frames := 4, cells := 5, slots := 42, locals := 80 }
def w_X2_init (L : List Nat) (K : KT) (P : PT) (I : IT) (a0 : Nat) (x1 : Int) (x2 : Int) (x3 : Int) (post : PO) : Prop := nwP L K P I 24 fun q1 L1 K1 P1 I1 => w_X3_init L1 K1 P1 I1 q1 fun L3 K3 P3 I3 => bndP (up P3 a0 2 q1) fun P5 => nwP L3 K3 P5 I3 20 fun q6 L6 K6 P6 I6 => w_linit 12 L6 K6 P6 I6 q6 fun L10 K10 P10 I10 => bndP (up P10 a0 3 q6) fun P14 => nwP L10 K10 P14 I10 116 fun q16 L16 K16 P16 I16 => bndP (up P16 a0 4 q16) fun P22 => bndP (up I16 a0 6 0) fun I25 => bndP (up I25 a0 0 x1) fun I26 => bndP (up I26 a0 1 x2) fun I27 => bndP (up I27 a0 5 x3) fun I28 => bpP (f_J7_fill_116 K16 P22 I28 ((P22 a0 4)) 25) fun I30 => post L16 (va_up K16 a0 3) P22 I30
theorem pm_X2_init : plainM yX2_init 3 := by decide +kernel
set_option maxRecDepth 100000 in
set_option maxHeartbeats 8000000 in
theorem a_X2_init (l : Launch) (D : va_G) (cy : Nat → ClassId) (B : Nat) (L : List Nat) (K : KT) (P : PT) (J : IT) (I : IT) (hWT : WT K P) (a0 : Nat) (x1 : Int) (x2 : Int) (x3 : Int) (ka0 : K a0 = 23) (rx1 : rg x1) (rx2 : rg x2) (rx3 : rg x3) (post : PO) (hf : w_X2_init L K P I a0 x1 x2 x3 post) : Met l yX2_init [.code yX2_init cX2_init 4 none] rm_X2_init (va_Pc [.ref a0, iv x1, iv x2, iv x3] (FW D cy B L K P J I)) (AVc D cy B J K P a0 3 post) 5 42 (fun q => B ≤ q) := by
  refine fl_bodyI (own := "RejudgeHall$Problem") [.ref a0, iv x1, iv x2, iv x3] (by decide) rfl rfl (Nat.le_of_ble_eq_true rfl) ?_
  intro p e s m args below meth c ls C0 hr hin hF hl
  have hl : lv_has ls 4 [(0, .ref a0), (1, iv x1), (2, iv x2), (3, iv x3)] := hl
  have hE : EX K P K P a0 := EX.rf
  unfold w_X2_init at hf
  refine lv_aload_n C0.1 C0.2.1 dX2_init_0 rfl (lv_at hl 0 rfl) ?_
  refine fl_objInit (nm0 := yX2_init) C0 hl.1 aw_577 aw_74 aw_75 dX2_init_1 (Nat.le_of_ble_eq_true rfl) (Nat.le_of_ble_eq_true rfl) ?_
  refine lv_aload_n C0.1 C0.2.1 dX2_init_4 rfl (lv_at hl 0 rfl) ?_
  refine fl_new ck_4 dv_4 C0 hF (co := 24) rfl aw_578 aw_77 aw_46 (Nat.le_of_ble_eq_true rfl) (Nat.le_of_ble_eq_true rfl) dX2_init_5 (fun q1 H hq1 hF1 => ?_)
  have hF1 : FS D cy B (L ++ [q1]) (va_up K q1 24) (clrN P q1) J s.heap (clr I q1) H _ := hF1
  have h1q1 : 1 < q1 := hF1.ne0 (by rw [va_up_self]; decide)
  have n2 := nn hF hq1 ka0 rfl
  have k2 := kn (t := 24) hF hq1 ka0 rfl
  have z1 := k00 hE hF hq1 n2
  have hWT1 := wn (t := 24) hF hq1 hWT (fun k => tt_arr 24 (by decide) k)
  have hE1 := en (t := 24) hE hF hq1
  have kq1 : va_up K q1 24 q1 = 24 := va_up_self _ _ _
  obtain ⟨L1, K1, P1, I1, eL1, eK1, eP1, eI1, hf⟩ := nwP_f hf hq1 (by omega)
  rw [eL1, eK1, eP1, eI1] at hF1
  rw [eK1] at k2 kq1
  rw [eK1, eP1] at hWT1 hE1
  refine lv_dup C0.1 C0.2.1 dX2_init_8 rfl ?_
  refine fl_avc hF1 (fl_runIN (As := []) (rest := [.ref q1, .ref a0]) C0 hF1 hl.1 (a_X3_init l D cy B L1 K1 P1 J I1 hWT1 q1 kq1 _ hf) aw_579 aw_79 aw_46 aw_80 rfl rfl pm_X3_init rfl rfl ⟨(Nat.le_of_ble_eq_true rfl), (Nat.le_of_ble_eq_true rfl)⟩ rfl (Nat.le_of_ble_eq_true rfl) dX2_init_9 ⟨(Nat.le_of_ble_eq_true rfl), (Nat.le_of_ble_eq_true rfl)⟩) (fun L3 K3 P3 I3 H locs hF3 hf hWT3 hX3 kq3 => ?_)
  have k4 := kx hX3 k2 rfl n2
  have hE3 := ec hE1 hX3 z1
  refine fl_putFr (k := 2) ck_3 C0 hF3 hin k4 rfl (hF3.ne0 (by rw [kq3]; decide)) ⟨rfl, rfl, rfl, rfl⟩ ⟨rfl, rfl⟩ aw_588 dX2_init_12 (fun H locs hF5 => ?_)
  have hWT5 := wu (k := 2) (v := q1) hWT3 k4 (fun k => tt_arr 23 (by decide) k)
  have hE5 := eu (k := 2) (v := q1) hE3
  have hp5 := up_s P3 a0 2 q1
  obtain ⟨P5, eP5, hf⟩ := bndP_f hf
  rw [eP5] at hF5 hWT5 hE5 hp5
  refine lv_aload_n C0.1 C0.2.1 dX2_init_15 rfl (lv_at hl 0 rfl) ?_
  refine fl_new ck_0 dv_0 C0 hF5 (co := 20) rfl aw_580 aw_139 aw_51 (Nat.le_of_ble_eq_true rfl) (Nat.le_of_ble_eq_true rfl) dX2_init_16 (fun q6 H hq6 hF6 => ?_)
  have hF6 : FS D cy B (L3 ++ [q6]) (va_up K3 q6 20) (clrN P5 q6) J s.heap (clr I3 q6) H _ := hF6
  have h1q6 : 1 < q6 := hF6.ne0 (by rw [va_up_self]; decide)
  have n7 := nn hF5 hq6 k4 rfl
  have k7 := kn (t := 20) hF5 hq6 k4 rfl
  have n8 := nn hF5 hq6 kq3 rfl
  have k8 := kn (t := 20) hF5 hq6 kq3 rfl
  have z6 := k00 hE5 hF5 hq6 n7
  have hp9 := pn hF5 hq6 k4 rfl hp5
  have hWT6 := wn (t := 20) hF5 hq6 hWT5 (fun k => tt_arr 20 (by decide) k)
  have hE6 := en (t := 20) hE5 hF5 hq6
  have kq6 : va_up K3 q6 20 q6 = 20 := va_up_self _ _ _
  obtain ⟨L6, K6, P6, I6, eL6, eK6, eP6, eI6, hf⟩ := nwP_f hf hq6 (by omega)
  rw [eL6, eK6, eP6, eI6] at hF6
  rw [eK6] at k7 k8 kq6
  rw [eK6, eP6] at hWT6 hE6
  rw [eP6] at hp9
  refine lv_dup C0.1 C0.2.1 dX2_init_19 rfl ?_
  refine fl_avc hF6 (fl_runI (As := []) (rest := [.ref q6, .ref a0]) C0 hF6 hl.1 (a_linit l D cy B L6 K6 P6 J I6 hWT6 q6 12 kq6 rfl (fun k => tt_arr 12 (by decide) k) _ hf) aw_581 aw_141 aw_51 aw_142 rfl rfl pm_linit rfl rfl ⟨(Nat.le_of_ble_eq_true rfl), (Nat.le_of_ble_eq_true rfl)⟩ rfl (Nat.le_of_ble_eq_true rfl) dX2_init_20 ⟨(Nat.le_of_ble_eq_true rfl), (Nat.le_of_ble_eq_true rfl)⟩) (fun L10 K10 P10 I10 H locs hF10 hf hWT10 hX10 kq10 => ?_)
  have k11 := kx hX10 k7 rfl n7
  have k12 := kx hX10 k8 rfl n8
  have hp13 := px hX10 k7 rfl n7 hp9
  have hE10 := ec hE6 hX10 z6
  refine fl_putFr (k := 3) ck_3 C0 hF10 hin k11 rfl (hF10.ne0 (by rw [kq10]; decide)) ⟨rfl, rfl, rfl, rfl⟩ ⟨rfl, rfl⟩ aw_590 dX2_init_23 (fun H locs hF14 => ?_)
  have hWT14 := wu (k := 3) (v := q6) hWT10 k11 (fun k => tt_arr 23 (by decide) k)
  have hE14 := eu (k := 3) (v := q6) hE10
  have hp14 := up_s P10 a0 3 q6
  have hp15 := (up_k P10 a0 a0 q6 (by decide : 2 ≠ 3)).trans hp13
  obtain ⟨P14, eP14, hf⟩ := bndP_f hf
  rw [eP14] at hF14 hWT14 hE14 hp14 hp15
  refine lv_aload_n C0.1 C0.2.1 dX2_init_26 rfl (lv_at hl 0 rfl) ?_
  refine fl_iconst C0 dX2_init_27 ?_
  refine fl_newi C0 hF14 (rgk 4 rfl) (by decide) (by decide) aw_96 (Nat.le_of_ble_eq_true rfl) (Nat.le_of_ble_eq_true rfl) dX2_init_28 (fun q16 H hq16 hF16 => ?_)
  have hF16 : FS D cy B (L10 ++ [q16]) (va_up K10 q16 116) (clrN P14 q16) J s.heap (clr I10 q16) H _ := hF16
  have h1q16 : 1 < q16 := hF16.ne0 (by rw [va_up_self]; decide)
  have n17 := nn hF14 hq16 k11 rfl
  have k17 := kn (t := 116) hF14 hq16 k11 rfl
  have n18 := nn hF14 hq16 kq10 rfl
  have k18 := kn (t := 116) hF14 hq16 kq10 rfl
  have n19 := nn hF14 hq16 k12 rfl
  have k19 := kn (t := 116) hF14 hq16 k12 rfl
  have z16 := k00 hE14 hF14 hq16 n17
  have hp20 := pn hF14 hq16 k11 rfl hp14
  have hp21 := pn hF14 hq16 k11 rfl hp15
  have hWT16 := wn (t := 116) hF14 hq16 hWT14 (fun k => tt_arr 116 (by decide) k)
  have hE16 := en (t := 116) hE14 hF14 hq16
  have kq16 : va_up K10 q16 116 q16 = 116 := va_up_self _ _ _
  obtain ⟨L16, K16, P16, I16, eL16, eK16, eP16, eI16, hf⟩ := nwP_f hf hq16 (by omega)
  rw [eL16, eK16, eP16, eI16] at hF16
  rw [eK16] at k17 k18 k19 kq16
  rw [eK16, eP16] at hWT16 hE16
  rw [eP16] at hp20 hp21
  refine fl_putFr (k := 4) ck_3 C0 hF16 hin k17 rfl (hF16.ne0 (by rw [kq16]; decide)) ⟨rfl, rfl, rfl, rfl⟩ ⟨rfl, rfl⟩ aw_592 dX2_init_30 (fun H locs hF22 => ?_)
  have hWT22 := wu (k := 4) (v := q16) hWT16 k17 (fun k => tt_arr 23 (by decide) k)
  have hE22 := eu (k := 4) (v := q16) hE16
  have hp22 := up_s P16 a0 4 q16
  have hp23 := (up_k P16 a0 a0 q16 (by decide : 3 ≠ 4)).trans hp20
  have hp24 := (up_k P16 a0 a0 q16 (by decide : 2 ≠ 4)).trans hp21
  obtain ⟨P22, eP22, hf⟩ := bndP_f hf
  rw [eP22] at hF22 hWT22 hE22 hp22 hp23 hp24
  refine lv_aload_n C0.1 C0.2.1 dX2_init_33 rfl (lv_at hl 0 rfl) ?_
  refine fl_iconst C0 dX2_init_34 ?_
  refine fl_puti (k := 6) ck_3 C0 hF22 k17 rfl (rgk 0 rfl) ⟨rfl, rfl, rfl⟩ aw_596 dX2_init_35 (fun H locs hF25 => ?_)
  obtain ⟨I25, eI25, hf⟩ := bndP_f hf
  rw [eI25] at hF25
  refine lv_aload_n C0.1 C0.2.1 dX2_init_38 rfl (lv_at hl 0 rfl) ?_
  refine lv_iload_n C0.1 C0.2.1 dX2_init_39 rfl (lv_at hl 1 rfl) ?_
  refine fl_putFi (k := 0) ck_3 C0 hF25 hin k17 rfl rx1 ⟨rfl, rfl, rfl, rfl⟩ aw_583 dX2_init_40 (fun H locs hF26 => ?_)
  obtain ⟨I26, eI26, hf⟩ := bndP_f hf
  rw [eI26] at hF26
  refine lv_aload_n C0.1 C0.2.1 dX2_init_43 rfl (lv_at hl 0 rfl) ?_
  refine lv_iload_n C0.1 C0.2.1 dX2_init_44 rfl (lv_at hl 2 rfl) ?_
  refine fl_putFi (k := 1) ck_3 C0 hF26 hin k17 rfl rx2 ⟨rfl, rfl, rfl, rfl⟩ aw_586 dX2_init_45 (fun H locs hF27 => ?_)
  obtain ⟨I27, eI27, hf⟩ := bndP_f hf
  rw [eI27] at hF27
  refine lv_aload_n C0.1 C0.2.1 dX2_init_48 rfl (lv_at hl 0 rfl) ?_
  refine lv_iload_n C0.1 C0.2.1 dX2_init_49 rfl (lv_at hl 3 rfl) ?_
  refine fl_puti (k := 5) ck_3 C0 hF27 k17 rfl rx3 ⟨rfl, rfl, rfl⟩ aw_594 dX2_init_50 (fun H locs hF28 => ?_)
  obtain ⟨I28, eI28, hf⟩ := bndP_f hf
  rw [eI28] at hF28
  refine lv_aload_n C0.1 C0.2.1 dX2_init_53 rfl (lv_at hl 0 rfl) ?_
  have k29 : K16 (P22 a0 4) = 116 := (by rw [hp22]; exact kq16)
  refine fl_getr (k := 4) (t := 116) ck_3 C0 hF28 k17 rfl k29 rfl ⟨rfl, rfl⟩ aw_592 dX2_init_54 ?_
  refine fl_bipush C0 dX2_init_57 (by decide) ?_
  obtain ⟨I30, hq30, hf⟩ := hf
  refine fl_rv hF28 (fl_runSG (As := [.ref (P22 a0 4), iv 25]) (rest := []) C0 hF28 hl.1 (c_J7_fill_116 l D cy B L16 K16 P22 J hWT22 I28 ((P22 a0 4)) 25 k29 (rgk 25 rfl) hq30) aw_582 aw_493 aw_59 aw_494 rfl pm_J7_fill_116 rfl rfl ⟨(Nat.le_of_ble_eq_true rfl), (Nat.le_of_ble_eq_true rfl)⟩ rfl (Nat.le_of_ble_eq_true rfl) dX2_init_59 ⟨(Nat.le_of_ble_eq_true rfl), (Nat.le_of_ble_eq_true rfl)⟩) (fun H locs hF30 => ?_)
  have ht : ∀ k, tt 3 k ≠ 0 → K16 (P22 a0 k) = tt 3 k ∧ P22 a0 k ≠ a0 := by
    intro k hk
    by_cases h2 : k = 2
    · subst h2; rw [hp24]; exact ⟨k19, fun e => by have h9 := k19; rw [e, k17] at h9; exact absurd h9 (by decide)⟩
    by_cases h3 : k = 3
    · subst h3; rw [hp23]; exact ⟨k18, fun e => by have h9 := k18; rw [e, k17] at h9; exact absurd h9 (by decide)⟩
    by_cases h4 : k = 4
    · subst h4; rw [hp22]; exact ⟨kq16, fun e => by have h9 := kq16; rw [e, k17] at h9; exact absurd h9 (by decide)⟩
    exact absurd (show tt 3 k = 0 by simp [tt, h2, h3, h4]) hk
  exact fl_vretC C0 (hF30.done (ci := 3) (co2 := 3) k17 rfl rfl) hr hf (wd hWT22 k17 ht (wraw hWT22 k17 rfl)) (ked hE22 k17) (va_up_self _ _ _) dX2_init_62 (Nat.le_of_ble_eq_true rfl) (Nat.le_of_ble_eq_true rfl)
-- RejudgeHall$Entry.<init>(ILRejudgeHall$Problem;I)V
abbrev rm_X0_init : Room := { frames := 2, cells := 3, slots := 35, locals := 40 }
def w_X0_init (L : List Nat) (K : KT) (P : PT) (I : IT) (a0 : Nat) (x1 : Int) (a2 : Nat) (x3 : Int) (post : PO) : Prop := nwP L K P I 24 fun q1 L1 K1 P1 I1 => w_X3_init L1 K1 P1 I1 q1 fun L4 K4 P4 I4 => bndP (up P4 a0 3 q1) fun P7 => bndP (up I4 a0 4 (-1)) fun I8 => bndP (up I8 a0 5 (-1)) fun I9 => bndP (up I9 a0 6 0) fun I10 => bndP (up I10 a0 7 (-1)) fun I11 => bndP (up I11 a0 0 x1) fun I12 => bndP (up P7 a0 1 a2) fun P13 => bndP (up I12 a0 2 x3) fun I15 => post L4 (va_up K4 a0 1) P13 I15
theorem pm_X0_init : plainM yX0_init 3 := by decide +kernel
set_option maxRecDepth 100000 in
set_option maxHeartbeats 8000000 in
theorem a_X0_init (l : Launch) (D : va_G) (cy : Nat → ClassId) (B : Nat) (L : List Nat) (K : KT) (P : PT) (J : IT) (I : IT) (hWT : WT K P) (a0 : Nat) (x1 : Int) (a2 : Nat) (x3 : Int) (ka0 : K a0 = 21) (rx1 : rg x1) (ka2 : K a2 = 3) (rx3 : rg x3) (post : PO) (hf : w_X0_init L K P I a0 x1 a2 x3 post) : Met l yX0_init [.code yX0_init cX0_init 4 none] rm_X0_init (va_Pc [.ref a0, iv x1, .ref a2, iv x3] (FW D cy B L K P J I)) (AVc D cy B J K P a0 1 post) 3 35 (fun q => B ≤ q) := by
  refine fl_bodyI (own := "RejudgeHall$Entry") [.ref a0, iv x1, .ref a2, iv x3] (by decide) rfl rfl (Nat.le_of_ble_eq_true rfl) ?_
  intro p e s m args below meth c ls C0 hr hin hF hl
  have hl : lv_has ls 4 [(0, .ref a0), (1, iv x1), (2, .ref a2), (3, iv x3)] := hl
  have hE : EX K P K P a0 := EX.rf
  unfold w_X0_init at hf
  refine lv_aload_n C0.1 C0.2.1 dX0_init_0 rfl (lv_at hl 0 rfl) ?_
  refine fl_objInit (nm0 := yX0_init) C0 hl.1 aw_744 aw_74 aw_75 dX0_init_1 (Nat.le_of_ble_eq_true rfl) (Nat.le_of_ble_eq_true rfl) ?_
  refine lv_aload_n C0.1 C0.2.1 dX0_init_4 rfl (lv_at hl 0 rfl) ?_
  refine fl_new ck_4 dv_4 C0 hF (co := 24) rfl aw_745 aw_77 aw_46 (Nat.le_of_ble_eq_true rfl) (Nat.le_of_ble_eq_true rfl) dX0_init_5 (fun q1 H hq1 hF1 => ?_)
  have hF1 : FS D cy B (L ++ [q1]) (va_up K q1 24) (clrN P q1) J s.heap (clr I q1) H _ := hF1
  have h1q1 : 1 < q1 := hF1.ne0 (by rw [va_up_self]; decide)
  have n2 := nn hF hq1 ka0 rfl
  have k2 := kn (t := 24) hF hq1 ka0 rfl
  have n3 := nn hF hq1 ka2 rfl
  have k3 := kn (t := 24) hF hq1 ka2 rfl
  have z1 := k00 hE hF hq1 n2
  have hWT1 := wn (t := 24) hF hq1 hWT (fun k => tt_arr 24 (by decide) k)
  have hE1 := en (t := 24) hE hF hq1
  have kq1 : va_up K q1 24 q1 = 24 := va_up_self _ _ _
  obtain ⟨L1, K1, P1, I1, eL1, eK1, eP1, eI1, hf⟩ := nwP_f hf hq1 (by omega)
  rw [eL1, eK1, eP1, eI1] at hF1
  rw [eK1] at k2 k3 kq1
  rw [eK1, eP1] at hWT1 hE1
  refine lv_dup C0.1 C0.2.1 dX0_init_8 rfl ?_
  refine fl_avc hF1 (fl_runIN (As := []) (rest := [.ref q1, .ref a0]) C0 hF1 hl.1 (a_X3_init l D cy B L1 K1 P1 J I1 hWT1 q1 kq1 _ hf) aw_746 aw_79 aw_46 aw_80 rfl rfl pm_X3_init rfl rfl ⟨(Nat.le_of_ble_eq_true rfl), (Nat.le_of_ble_eq_true rfl)⟩ rfl (Nat.le_of_ble_eq_true rfl) dX0_init_9 ⟨(Nat.le_of_ble_eq_true rfl), (Nat.le_of_ble_eq_true rfl)⟩) (fun L4 K4 P4 I4 H locs hF4 hf hWT4 hX4 kq4 => ?_)
  have k5 := kx hX4 k2 rfl n2
  have k6 := kx hX4 k3 rfl n3
  have hE4 := ec hE1 hX4 z1
  refine fl_putFr (k := 3) ck_1 C0 hF4 hin k5 rfl (hF4.ne0 (by rw [kq4]; decide)) ⟨rfl, rfl, rfl, rfl⟩ ⟨rfl, rfl⟩ aw_756 dX0_init_12 (fun H locs hF7 => ?_)
  have hWT7 := wu (k := 3) (v := q1) hWT4 k5 (fun k => tt_arr 21 (by decide) k)
  have hE7 := eu (k := 3) (v := q1) hE4
  have hp7 := up_s P4 a0 3 q1
  obtain ⟨P7, eP7, hf⟩ := bndP_f hf
  rw [eP7] at hF7 hWT7 hE7 hp7
  refine lv_aload_n C0.1 C0.2.1 dX0_init_15 rfl (lv_at hl 0 rfl) ?_
  refine fl_iconst C0 dX0_init_16 ?_
  refine fl_puti (k := 4) ck_1 C0 hF7 k5 rfl (rgk (-1) rfl) ⟨rfl, rfl, rfl⟩ aw_758 dX0_init_17 (fun H locs hF8 => ?_)
  obtain ⟨I8, eI8, hf⟩ := bndP_f hf
  rw [eI8] at hF8
  refine lv_aload_n C0.1 C0.2.1 dX0_init_20 rfl (lv_at hl 0 rfl) ?_
  refine fl_iconst C0 dX0_init_21 ?_
  refine fl_puti (k := 5) ck_1 C0 hF8 k5 rfl (rgk (-1) rfl) ⟨rfl, rfl, rfl⟩ aw_760 dX0_init_22 (fun H locs hF9 => ?_)
  obtain ⟨I9, eI9, hf⟩ := bndP_f hf
  rw [eI9] at hF9
  refine lv_aload_n C0.1 C0.2.1 dX0_init_25 rfl (lv_at hl 0 rfl) ?_
  refine fl_iconst C0 dX0_init_26 ?_
  refine fl_puti (k := 6) ck_1 C0 hF9 k5 rfl (rgk 0 rfl) ⟨rfl, rfl, rfl⟩ aw_762 dX0_init_27 (fun H locs hF10 => ?_)
  obtain ⟨I10, eI10, hf⟩ := bndP_f hf
  rw [eI10] at hF10
  refine lv_aload_n C0.1 C0.2.1 dX0_init_30 rfl (lv_at hl 0 rfl) ?_
  refine fl_iconst C0 dX0_init_31 ?_
  refine fl_puti (k := 7) ck_1 C0 hF10 k5 rfl (rgk (-1) rfl) ⟨rfl, rfl, rfl⟩ aw_764 dX0_init_32 (fun H locs hF11 => ?_)
  obtain ⟨I11, eI11, hf⟩ := bndP_f hf
  rw [eI11] at hF11
  refine lv_aload_n C0.1 C0.2.1 dX0_init_35 rfl (lv_at hl 0 rfl) ?_
  refine lv_iload_n C0.1 C0.2.1 dX0_init_36 rfl (lv_at hl 1 rfl) ?_
  refine fl_putFi (k := 0) ck_1 C0 hF11 hin k5 rfl rx1 ⟨rfl, rfl, rfl, rfl⟩ aw_747 dX0_init_37 (fun H locs hF12 => ?_)
  obtain ⟨I12, eI12, hf⟩ := bndP_f hf
  rw [eI12] at hF12
  refine lv_aload_n C0.1 C0.2.1 dX0_init_40 rfl (lv_at hl 0 rfl) ?_
  refine lv_aload_n C0.1 C0.2.1 dX0_init_41 rfl (lv_at hl 2 rfl) ?_
  refine fl_putFr (k := 1) ck_1 C0 hF12 hin k5 rfl (hF12.ne0 (by rw [k6]; decide)) ⟨rfl, rfl, rfl, rfl⟩ ⟨rfl, rfl⟩ aw_750 dX0_init_42 (fun H locs hF13 => ?_)
  have hWT13 := wu (k := 1) (v := a2) hWT7 k5 (fun k => tt_arr 21 (by decide) k)
  have hE13 := eu (k := 1) (v := a2) hE7
  have hp13 := up_s P7 a0 1 a2
  have hp14 := (up_k P7 a0 a0 a2 (by decide : 3 ≠ 1)).trans hp7
  obtain ⟨P13, eP13, hf⟩ := bndP_f hf
  rw [eP13] at hF13 hWT13 hE13 hp13 hp14
  refine lv_aload_n C0.1 C0.2.1 dX0_init_45 rfl (lv_at hl 0 rfl) ?_
  refine lv_iload_n C0.1 C0.2.1 dX0_init_46 rfl (lv_at hl 3 rfl) ?_
  refine fl_putFi (k := 2) ck_1 C0 hF13 hin k5 rfl rx3 ⟨rfl, rfl, rfl, rfl⟩ aw_753 dX0_init_47 (fun H locs hF15 => ?_)
  obtain ⟨I15, eI15, hf⟩ := bndP_f hf
  rw [eI15] at hF15
  have ht : ∀ k, tt 1 k ≠ 0 → K4 (P13 a0 k) = tt 1 k ∧ P13 a0 k ≠ a0 := by
    intro k hk
    by_cases h1 : k = 1
    · subst h1; rw [hp13]; exact ⟨k6, fun e => by have h9 := k6; rw [e, k5] at h9; exact absurd h9 (by decide)⟩
    by_cases h3 : k = 3
    · subst h3; rw [hp14]; exact ⟨kq4, fun e => by have h9 := kq4; rw [e, k5] at h9; exact absurd h9 (by decide)⟩
    exact absurd (show tt 1 k = 0 by simp [tt, h1, h3]) hk
  exact fl_vretC C0 (hF15.done (ci := 1) (co2 := 1) k5 rfl rfl) hr hf (wd hWT13 k5 ht (wraw hWT13 k5 rfl)) (ked hE13 k5) (va_up_self _ _ _) dX0_init_50 (Nat.le_of_ble_eq_true rfl) (Nat.le_of_ble_eq_true rfl)
-- RejudgeHall.<init>()V
abbrev rm_X7_init : Room := { frames := 4, cells := 22, slots := 282, locals := 80 }
def w_X7_init (L : List Nat) (K : KT) (P : PT) (I : IT) (a0 : Nat) (post : PO) : Prop := nwP L K P I 24 fun q1 L1 K1 P1 I1 => w_X3_init L1 K1 P1 I1 q1 fun L3 K3 P3 I3 => bndP (up P3 a0 0 q1) fun P5 => nwP L3 K3 P5 I3 25 fun q6 L6 K6 P6 I6 => w_X4_init L6 K6 P6 I6 q6 fun L10 K10 P10 I10 => bndP (up P10 a0 1 q6) fun P14 => nwP L10 K10 P14 I10 22 fun q16 L16 K16 P16 I16 => w_X1_init L16 K16 P16 I16 q16 fun L22 K22 P22 I22 => bndP (up P22 a0 2 q16) fun P28 => nwP L22 K22 P28 I22 20 fun q31 L31 K31 P31 I31 => w_linit 10 L31 K31 P31 I31 q31 fun L39 K39 P39 I39 => bndP (up P39 a0 3 q31) fun P47 => nwP L39 K39 P47 I39 20 fun q51 L51 K51 P51 I51 => w_linit 11 L51 K51 P51 I51 q51 fun L61 K61 P61 I61 => bndP (up P61 a0 4 q51) fun P71 => nwP L61 K61 P71 I61 26 fun q76 L76 K76 P76 I76 => w_X5_init L76 K76 P76 I76 q76 fun L88 K88 P88 I88 => bndP (up P88 a0 5 q76) fun P100 => nwP L88 K88 P100 I88 132 fun q106 L106 K106 P106 I106 => bndP (up P106 a0 6 q106) fun P120 => nwP L106 K106 P120 I106 132 fun q127 L127 K127 P127 I127 => bndP (up P127 a0 7 q127) fun P143 => nwP L127 K127 P143 I127 293 fun q151 L151 K151 P151 I151 => bndP (up P151 a0 8 q151) fun P169 => nwP L151 K151 P169 I151 168 fun q178 L178 K178 P178 I178 => bndP (up P178 a0 9 q178) fun P198 => bndP (up I178 a0 10 0) fun I208 => bndP (up I208 a0 11 (-1)) fun I209 => post L178 (va_up K178 a0 8) P198 I209
theorem pm_X7_init : plainM yX7_init 0 := by decide +kernel
set_option maxRecDepth 100000 in
set_option maxHeartbeats 8000000 in
theorem a_X7_init (l : Launch) (D : va_G) (cy : Nat → ClassId) (B : Nat) (L : List Nat) (K : KT) (P : PT) (J : IT) (I : IT) (hWT : WT K P) (a0 : Nat) (ka0 : K a0 = 28) (post : PO) (hf : w_X7_init L K P I a0 post) : Met l yX7_init [.code yX7_init cX7_init 1 none] rm_X7_init (va_Pc [.ref a0] (FW D cy B L K P J I)) (AVc D cy B J K P a0 8 post) 22 282 (fun q => B ≤ q) := by
  refine fl_bodyI (own := "RejudgeHall") [.ref a0] (by decide) rfl rfl (Nat.le_of_ble_eq_true rfl) ?_
  intro p e s m args below meth c ls C0 hr hin hF hl
  have hl : lv_has ls 1 [(0, .ref a0)] := hl
  have hE : EX K P K P a0 := EX.rf
  unfold w_X7_init at hf
  refine lv_aload_n C0.1 C0.2.1 dX7_init_0 rfl (lv_at hl 0 rfl) ?_
  refine fl_objInit (nm0 := yX7_init) C0 hl.1 aw_73 aw_74 aw_75 dX7_init_1 (Nat.le_of_ble_eq_true rfl) (Nat.le_of_ble_eq_true rfl) ?_
  refine lv_aload_n C0.1 C0.2.1 dX7_init_4 rfl (lv_at hl 0 rfl) ?_
  refine fl_new ck_4 dv_4 C0 hF (co := 24) rfl aw_76 aw_77 aw_46 (Nat.le_of_ble_eq_true rfl) (Nat.le_of_ble_eq_true rfl) dX7_init_5 (fun q1 H hq1 hF1 => ?_)
  have hF1 : FS D cy B (L ++ [q1]) (va_up K q1 24) (clrN P q1) J s.heap (clr I q1) H _ := hF1
  have h1q1 : 1 < q1 := hF1.ne0 (by rw [va_up_self]; decide)
  have n2 := nn hF hq1 ka0 rfl
  have k2 := kn (t := 24) hF hq1 ka0 rfl
  have z1 := k00 hE hF hq1 n2
  have hWT1 := wn (t := 24) hF hq1 hWT (fun k => tt_arr 24 (by decide) k)
  have hE1 := en (t := 24) hE hF hq1
  have kq1 : va_up K q1 24 q1 = 24 := va_up_self _ _ _
  obtain ⟨L1, K1, P1, I1, eL1, eK1, eP1, eI1, hf⟩ := nwP_f hf hq1 (by omega)
  rw [eL1, eK1, eP1, eI1] at hF1
  rw [eK1] at k2 kq1
  rw [eK1, eP1] at hWT1 hE1
  refine lv_dup C0.1 C0.2.1 dX7_init_8 rfl ?_
  refine fl_avc hF1 (fl_runIN (As := []) (rest := [.ref q1, .ref a0]) C0 hF1 hl.1 (a_X3_init l D cy B L1 K1 P1 J I1 hWT1 q1 kq1 _ hf) aw_78 aw_79 aw_46 aw_80 rfl rfl pm_X3_init rfl rfl ⟨(Nat.le_of_ble_eq_true rfl), (Nat.le_of_ble_eq_true rfl)⟩ rfl (Nat.le_of_ble_eq_true rfl) dX7_init_9 ⟨(Nat.le_of_ble_eq_true rfl), (Nat.le_of_ble_eq_true rfl)⟩) (fun L3 K3 P3 I3 H locs hF3 hf hWT3 hX3 kq3 => ?_)
  have k4 := kx hX3 k2 rfl n2
  have hE3 := ec hE1 hX3 z1
  refine fl_putFr (k := 0) ck_8 C0 hF3 hin k4 rfl (hF3.ne0 (by rw [kq3]; decide)) ⟨rfl, rfl, rfl, rfl⟩ ⟨rfl, rfl⟩ aw_190 dX7_init_12 (fun H locs hF5 => ?_)
  have hWT5 := wu (k := 0) (v := q1) hWT3 k4 (fun k => tt_arr 28 (by decide) k)
  have hE5 := eu (k := 0) (v := q1) hE3
  have hp5 := up_s P3 a0 0 q1
  obtain ⟨P5, eP5, hf⟩ := bndP_f hf
  rw [eP5] at hF5 hWT5 hE5 hp5
  refine lv_aload_n C0.1 C0.2.1 dX7_init_15 rfl (lv_at hl 0 rfl) ?_
  refine fl_new ck_5 dv_5 C0 hF5 (co := 25) rfl aw_97 aw_98 aw_47 (Nat.le_of_ble_eq_true rfl) (Nat.le_of_ble_eq_true rfl) dX7_init_16 (fun q6 H hq6 hF6 => ?_)
  have hF6 : FS D cy B (L3 ++ [q6]) (va_up K3 q6 25) (clrN P5 q6) J s.heap (clr I3 q6) H _ := hF6
  have h1q6 : 1 < q6 := hF6.ne0 (by rw [va_up_self]; decide)
  have n7 := nn hF5 hq6 k4 rfl
  have k7 := kn (t := 25) hF5 hq6 k4 rfl
  have n8 := nn hF5 hq6 kq3 rfl
  have k8 := kn (t := 25) hF5 hq6 kq3 rfl
  have z6 := k00 hE5 hF5 hq6 n7
  have hp9 := pn hF5 hq6 k4 rfl hp5
  have hWT6 := wn (t := 25) hF5 hq6 hWT5 (fun k => tt_arr 25 (by decide) k)
  have hE6 := en (t := 25) hE5 hF5 hq6
  have kq6 : va_up K3 q6 25 q6 = 25 := va_up_self _ _ _
  obtain ⟨L6, K6, P6, I6, eL6, eK6, eP6, eI6, hf⟩ := nwP_f hf hq6 (by omega)
  rw [eL6, eK6, eP6, eI6] at hF6
  rw [eK6] at k7 k8 kq6
  rw [eK6, eP6] at hWT6 hE6
  rw [eP6] at hp9
  refine lv_dup C0.1 C0.2.1 dX7_init_19 rfl ?_
  refine fl_avc hF6 (fl_runIN (As := []) (rest := [.ref q6, .ref a0]) C0 hF6 hl.1 (a_X4_init l D cy B L6 K6 P6 J I6 hWT6 q6 kq6 _ hf) aw_99 aw_100 aw_47 aw_101 rfl rfl pm_X4_init rfl rfl ⟨(Nat.le_of_ble_eq_true rfl), (Nat.le_of_ble_eq_true rfl)⟩ rfl (Nat.le_of_ble_eq_true rfl) dX7_init_20 ⟨(Nat.le_of_ble_eq_true rfl), (Nat.le_of_ble_eq_true rfl)⟩) (fun L10 K10 P10 I10 H locs hF10 hf hWT10 hX10 kq10 => ?_)
  have k11 := kx hX10 k7 rfl n7
  have k12 := kx hX10 k8 rfl n8
  have hp13 := px hX10 k7 rfl n7 hp9
  have hE10 := ec hE6 hX10 z6
  refine fl_putFr (k := 1) ck_8 C0 hF10 hin k11 rfl (hF10.ne0 (by rw [kq10]; decide)) ⟨rfl, rfl, rfl, rfl⟩ ⟨rfl, rfl⟩ aw_191 dX7_init_23 (fun H locs hF14 => ?_)
  have hWT14 := wu (k := 1) (v := q6) hWT10 k11 (fun k => tt_arr 28 (by decide) k)
  have hE14 := eu (k := 1) (v := q6) hE10
  have hp14 := up_s P10 a0 1 q6
  have hp15 := (up_k P10 a0 a0 q6 (by decide : 0 ≠ 1)).trans hp13
  obtain ⟨P14, eP14, hf⟩ := bndP_f hf
  rw [eP14] at hF14 hWT14 hE14 hp14 hp15
  refine lv_aload_n C0.1 C0.2.1 dX7_init_26 rfl (lv_at hl 0 rfl) ?_
  refine fl_new ck_2 dv_2 C0 hF14 (co := 22) rfl aw_112 aw_113 aw_48 (Nat.le_of_ble_eq_true rfl) (Nat.le_of_ble_eq_true rfl) dX7_init_27 (fun q16 H hq16 hF16 => ?_)
  have hF16 : FS D cy B (L10 ++ [q16]) (va_up K10 q16 22) (clrN P14 q16) J s.heap (clr I10 q16) H _ := hF16
  have h1q16 : 1 < q16 := hF16.ne0 (by rw [va_up_self]; decide)
  have n17 := nn hF14 hq16 k11 rfl
  have k17 := kn (t := 22) hF14 hq16 k11 rfl
  have n18 := nn hF14 hq16 kq10 rfl
  have k18 := kn (t := 22) hF14 hq16 kq10 rfl
  have n19 := nn hF14 hq16 k12 rfl
  have k19 := kn (t := 22) hF14 hq16 k12 rfl
  have z16 := k00 hE14 hF14 hq16 n17
  have hp20 := pn hF14 hq16 k11 rfl hp14
  have hp21 := pn hF14 hq16 k11 rfl hp15
  have hWT16 := wn (t := 22) hF14 hq16 hWT14 (fun k => tt_arr 22 (by decide) k)
  have hE16 := en (t := 22) hE14 hF14 hq16
  have kq16 : va_up K10 q16 22 q16 = 22 := va_up_self _ _ _
  obtain ⟨L16, K16, P16, I16, eL16, eK16, eP16, eI16, hf⟩ := nwP_f hf hq16 (by omega)
  rw [eL16, eK16, eP16, eI16] at hF16
  rw [eK16] at k17 k18 k19 kq16
  rw [eK16, eP16] at hWT16 hE16
  rw [eP16] at hp20 hp21
  refine lv_dup C0.1 C0.2.1 dX7_init_30 rfl ?_
  refine fl_avc hF16 (fl_runIN (As := []) (rest := [.ref q16, .ref a0]) C0 hF16 hl.1 (a_X1_init l D cy B L16 K16 P16 J I16 hWT16 q16 kq16 _ hf) aw_114 aw_115 aw_48 aw_116 rfl rfl pm_X1_init rfl rfl ⟨(Nat.le_of_ble_eq_true rfl), (Nat.le_of_ble_eq_true rfl)⟩ rfl (Nat.le_of_ble_eq_true rfl) dX7_init_31 ⟨(Nat.le_of_ble_eq_true rfl), (Nat.le_of_ble_eq_true rfl)⟩) (fun L22 K22 P22 I22 H locs hF22 hf hWT22 hX22 kq22 => ?_)
  have k23 := kx hX22 k17 rfl n17
  have k24 := kx hX22 k18 rfl n18
  have k25 := kx hX22 k19 rfl n19
  have hp26 := px hX22 k17 rfl n17 hp20
  have hp27 := px hX22 k17 rfl n17 hp21
  have hE22 := ec hE16 hX22 z16
  refine fl_putFr (k := 2) ck_8 C0 hF22 hin k23 rfl (hF22.ne0 (by rw [kq22]; decide)) ⟨rfl, rfl, rfl, rfl⟩ ⟨rfl, rfl⟩ aw_192 dX7_init_34 (fun H locs hF28 => ?_)
  have hWT28 := wu (k := 2) (v := q16) hWT22 k23 (fun k => tt_arr 28 (by decide) k)
  have hE28 := eu (k := 2) (v := q16) hE22
  have hp28 := up_s P22 a0 2 q16
  have hp29 := (up_k P22 a0 a0 q16 (by decide : 1 ≠ 2)).trans hp26
  have hp30 := (up_k P22 a0 a0 q16 (by decide : 0 ≠ 2)).trans hp27
  obtain ⟨P28, eP28, hf⟩ := bndP_f hf
  rw [eP28] at hF28 hWT28 hE28 hp28 hp29 hp30
  refine lv_aload_n C0.1 C0.2.1 dX7_init_37 rfl (lv_at hl 0 rfl) ?_
  refine fl_new ck_0 dv_0 C0 hF28 (co := 20) rfl aw_138 aw_139 aw_51 (Nat.le_of_ble_eq_true rfl) (Nat.le_of_ble_eq_true rfl) dX7_init_38 (fun q31 H hq31 hF31 => ?_)
  have hF31 : FS D cy B (L22 ++ [q31]) (va_up K22 q31 20) (clrN P28 q31) J s.heap (clr I22 q31) H _ := hF31
  have h1q31 : 1 < q31 := hF31.ne0 (by rw [va_up_self]; decide)
  have n32 := nn hF28 hq31 k23 rfl
  have k32 := kn (t := 20) hF28 hq31 k23 rfl
  have n33 := nn hF28 hq31 kq22 rfl
  have k33 := kn (t := 20) hF28 hq31 kq22 rfl
  have n34 := nn hF28 hq31 k24 rfl
  have k34 := kn (t := 20) hF28 hq31 k24 rfl
  have n35 := nn hF28 hq31 k25 rfl
  have k35 := kn (t := 20) hF28 hq31 k25 rfl
  have z31 := k00 hE28 hF28 hq31 n32
  have hp36 := pn hF28 hq31 k23 rfl hp28
  have hp37 := pn hF28 hq31 k23 rfl hp29
  have hp38 := pn hF28 hq31 k23 rfl hp30
  have hWT31 := wn (t := 20) hF28 hq31 hWT28 (fun k => tt_arr 20 (by decide) k)
  have hE31 := en (t := 20) hE28 hF28 hq31
  have kq31 : va_up K22 q31 20 q31 = 20 := va_up_self _ _ _
  obtain ⟨L31, K31, P31, I31, eL31, eK31, eP31, eI31, hf⟩ := nwP_f hf hq31 (by omega)
  rw [eL31, eK31, eP31, eI31] at hF31
  rw [eK31] at k32 k33 k34 k35 kq31
  rw [eK31, eP31] at hWT31 hE31
  rw [eP31] at hp36 hp37 hp38
  refine lv_dup C0.1 C0.2.1 dX7_init_41 rfl ?_
  refine fl_avc hF31 (fl_runI (As := []) (rest := [.ref q31, .ref a0]) C0 hF31 hl.1 (a_linit l D cy B L31 K31 P31 J I31 hWT31 q31 10 kq31 rfl (fun k => tt_arr 10 (by decide) k) _ hf) aw_140 aw_141 aw_51 aw_142 rfl rfl pm_linit rfl rfl ⟨(Nat.le_of_ble_eq_true rfl), (Nat.le_of_ble_eq_true rfl)⟩ rfl (Nat.le_of_ble_eq_true rfl) dX7_init_42 ⟨(Nat.le_of_ble_eq_true rfl), (Nat.le_of_ble_eq_true rfl)⟩) (fun L39 K39 P39 I39 H locs hF39 hf hWT39 hX39 kq39 => ?_)
  have k40 := kx hX39 k32 rfl n32
  have k41 := kx hX39 k33 rfl n33
  have k42 := kx hX39 k34 rfl n34
  have k43 := kx hX39 k35 rfl n35
  have hp44 := px hX39 k32 rfl n32 hp36
  have hp45 := px hX39 k32 rfl n32 hp37
  have hp46 := px hX39 k32 rfl n32 hp38
  have hE39 := ec hE31 hX39 z31
  refine fl_putFr (k := 3) ck_8 C0 hF39 hin k40 rfl (hF39.ne0 (by rw [kq39]; decide)) ⟨rfl, rfl, rfl, rfl⟩ ⟨rfl, rfl⟩ aw_193 dX7_init_45 (fun H locs hF47 => ?_)
  have hWT47 := wu (k := 3) (v := q31) hWT39 k40 (fun k => tt_arr 28 (by decide) k)
  have hE47 := eu (k := 3) (v := q31) hE39
  have hp47 := up_s P39 a0 3 q31
  have hp48 := (up_k P39 a0 a0 q31 (by decide : 2 ≠ 3)).trans hp44
  have hp49 := (up_k P39 a0 a0 q31 (by decide : 1 ≠ 3)).trans hp45
  have hp50 := (up_k P39 a0 a0 q31 (by decide : 0 ≠ 3)).trans hp46
  obtain ⟨P47, eP47, hf⟩ := bndP_f hf
  rw [eP47] at hF47 hWT47 hE47 hp47 hp48 hp49 hp50
  refine lv_aload_n C0.1 C0.2.1 dX7_init_48 rfl (lv_at hl 0 rfl) ?_
  refine fl_new ck_0 dv_0 C0 hF47 (co := 20) rfl aw_138 aw_139 aw_51 (Nat.le_of_ble_eq_true rfl) (Nat.le_of_ble_eq_true rfl) dX7_init_49 (fun q51 H hq51 hF51 => ?_)
  have hF51 : FS D cy B (L39 ++ [q51]) (va_up K39 q51 20) (clrN P47 q51) J s.heap (clr I39 q51) H _ := hF51
  have h1q51 : 1 < q51 := hF51.ne0 (by rw [va_up_self]; decide)
  have n52 := nn hF47 hq51 k40 rfl
  have k52 := kn (t := 20) hF47 hq51 k40 rfl
  have n53 := nn hF47 hq51 kq39 rfl
  have k53 := kn (t := 20) hF47 hq51 kq39 rfl
  have n54 := nn hF47 hq51 k41 rfl
  have k54 := kn (t := 20) hF47 hq51 k41 rfl
  have n55 := nn hF47 hq51 k42 rfl
  have k55 := kn (t := 20) hF47 hq51 k42 rfl
  have n56 := nn hF47 hq51 k43 rfl
  have k56 := kn (t := 20) hF47 hq51 k43 rfl
  have z51 := k00 hE47 hF47 hq51 n52
  have hp57 := pn hF47 hq51 k40 rfl hp47
  have hp58 := pn hF47 hq51 k40 rfl hp48
  have hp59 := pn hF47 hq51 k40 rfl hp49
  have hp60 := pn hF47 hq51 k40 rfl hp50
  have hWT51 := wn (t := 20) hF47 hq51 hWT47 (fun k => tt_arr 20 (by decide) k)
  have hE51 := en (t := 20) hE47 hF47 hq51
  have kq51 : va_up K39 q51 20 q51 = 20 := va_up_self _ _ _
  obtain ⟨L51, K51, P51, I51, eL51, eK51, eP51, eI51, hf⟩ := nwP_f hf hq51 (by omega)
  rw [eL51, eK51, eP51, eI51] at hF51
  rw [eK51] at k52 k53 k54 k55 k56 kq51
  rw [eK51, eP51] at hWT51 hE51
  rw [eP51] at hp57 hp58 hp59 hp60
  refine lv_dup C0.1 C0.2.1 dX7_init_52 rfl ?_
  refine fl_avc hF51 (fl_runI (As := []) (rest := [.ref q51, .ref a0]) C0 hF51 hl.1 (a_linit l D cy B L51 K51 P51 J I51 hWT51 q51 11 kq51 rfl (fun k => tt_arr 11 (by decide) k) _ hf) aw_140 aw_141 aw_51 aw_142 rfl rfl pm_linit rfl rfl ⟨(Nat.le_of_ble_eq_true rfl), (Nat.le_of_ble_eq_true rfl)⟩ rfl (Nat.le_of_ble_eq_true rfl) dX7_init_53 ⟨(Nat.le_of_ble_eq_true rfl), (Nat.le_of_ble_eq_true rfl)⟩) (fun L61 K61 P61 I61 H locs hF61 hf hWT61 hX61 kq61 => ?_)
  have k62 := kx hX61 k52 rfl n52
  have k63 := kx hX61 k53 rfl n53
  have k64 := kx hX61 k54 rfl n54
  have k65 := kx hX61 k55 rfl n55
  have k66 := kx hX61 k56 rfl n56
  have hp67 := px hX61 k52 rfl n52 hp57
  have hp68 := px hX61 k52 rfl n52 hp58
  have hp69 := px hX61 k52 rfl n52 hp59
  have hp70 := px hX61 k52 rfl n52 hp60
  have hE61 := ec hE51 hX61 z51
  refine fl_putFr (k := 4) ck_8 C0 hF61 hin k62 rfl (hF61.ne0 (by rw [kq61]; decide)) ⟨rfl, rfl, rfl, rfl⟩ ⟨rfl, rfl⟩ aw_194 dX7_init_56 (fun H locs hF71 => ?_)
  have hWT71 := wu (k := 4) (v := q51) hWT61 k62 (fun k => tt_arr 28 (by decide) k)
  have hE71 := eu (k := 4) (v := q51) hE61
  have hp71 := up_s P61 a0 4 q51
  have hp72 := (up_k P61 a0 a0 q51 (by decide : 3 ≠ 4)).trans hp67
  have hp73 := (up_k P61 a0 a0 q51 (by decide : 2 ≠ 4)).trans hp68
  have hp74 := (up_k P61 a0 a0 q51 (by decide : 1 ≠ 4)).trans hp69
  have hp75 := (up_k P61 a0 a0 q51 (by decide : 0 ≠ 4)).trans hp70
  obtain ⟨P71, eP71, hf⟩ := bndP_f hf
  rw [eP71] at hF71 hWT71 hE71 hp71 hp72 hp73 hp74 hp75
  refine lv_aload_n C0.1 C0.2.1 dX7_init_59 rfl (lv_at hl 0 rfl) ?_
  refine fl_new ck_6 dv_6 C0 hF71 (co := 26) rfl aw_164 aw_165 aw_52 (Nat.le_of_ble_eq_true rfl) (Nat.le_of_ble_eq_true rfl) dX7_init_60 (fun q76 H hq76 hF76 => ?_)
  have hF76 : FS D cy B (L61 ++ [q76]) (va_up K61 q76 26) (clrN P71 q76) J s.heap (clr I61 q76) H _ := hF76
  have h1q76 : 1 < q76 := hF76.ne0 (by rw [va_up_self]; decide)
  have n77 := nn hF71 hq76 k62 rfl
  have k77 := kn (t := 26) hF71 hq76 k62 rfl
  have n78 := nn hF71 hq76 kq61 rfl
  have k78 := kn (t := 26) hF71 hq76 kq61 rfl
  have n79 := nn hF71 hq76 k63 rfl
  have k79 := kn (t := 26) hF71 hq76 k63 rfl
  have n80 := nn hF71 hq76 k64 rfl
  have k80 := kn (t := 26) hF71 hq76 k64 rfl
  have n81 := nn hF71 hq76 k65 rfl
  have k81 := kn (t := 26) hF71 hq76 k65 rfl
  have n82 := nn hF71 hq76 k66 rfl
  have k82 := kn (t := 26) hF71 hq76 k66 rfl
  have z76 := k00 hE71 hF71 hq76 n77
  have hp83 := pn hF71 hq76 k62 rfl hp71
  have hp84 := pn hF71 hq76 k62 rfl hp72
  have hp85 := pn hF71 hq76 k62 rfl hp73
  have hp86 := pn hF71 hq76 k62 rfl hp74
  have hp87 := pn hF71 hq76 k62 rfl hp75
  have hWT76 := wn (t := 26) hF71 hq76 hWT71 (fun k => tt_arr 26 (by decide) k)
  have hE76 := en (t := 26) hE71 hF71 hq76
  have kq76 : va_up K61 q76 26 q76 = 26 := va_up_self _ _ _
  obtain ⟨L76, K76, P76, I76, eL76, eK76, eP76, eI76, hf⟩ := nwP_f hf hq76 (by omega)
  rw [eL76, eK76, eP76, eI76] at hF76
  rw [eK76] at k77 k78 k79 k80 k81 k82 kq76
  rw [eK76, eP76] at hWT76 hE76
  rw [eP76] at hp83 hp84 hp85 hp86 hp87
  refine lv_dup C0.1 C0.2.1 dX7_init_63 rfl ?_
  refine fl_avc hF76 (fl_runIN (As := []) (rest := [.ref q76, .ref a0]) C0 hF76 hl.1 (a_X5_init l D cy B L76 K76 P76 J I76 hWT76 q76 kq76 _ hf) aw_166 aw_167 aw_52 aw_168 rfl rfl pm_X5_init rfl rfl ⟨(Nat.le_of_ble_eq_true rfl), (Nat.le_of_ble_eq_true rfl)⟩ rfl (Nat.le_of_ble_eq_true rfl) dX7_init_64 ⟨(Nat.le_of_ble_eq_true rfl), (Nat.le_of_ble_eq_true rfl)⟩) (fun L88 K88 P88 I88 H locs hF88 hf hWT88 hX88 kq88 => ?_)
  have k89 := kx hX88 k77 rfl n77
  have k90 := kx hX88 k78 rfl n78
  have k91 := kx hX88 k79 rfl n79
  have k92 := kx hX88 k80 rfl n80
  have k93 := kx hX88 k81 rfl n81
  have k94 := kx hX88 k82 rfl n82
  have hp95 := px hX88 k77 rfl n77 hp83
  have hp96 := px hX88 k77 rfl n77 hp84
  have hp97 := px hX88 k77 rfl n77 hp85
  have hp98 := px hX88 k77 rfl n77 hp86
  have hp99 := px hX88 k77 rfl n77 hp87
  have hE88 := ec hE76 hX88 z76
  refine fl_putFr (k := 5) ck_8 C0 hF88 hin k89 rfl (hF88.ne0 (by rw [kq88]; decide)) ⟨rfl, rfl, rfl, rfl⟩ ⟨rfl, rfl⟩ aw_195 dX7_init_67 (fun H locs hF100 => ?_)
  have hWT100 := wu (k := 5) (v := q76) hWT88 k89 (fun k => tt_arr 28 (by decide) k)
  have hE100 := eu (k := 5) (v := q76) hE88
  have hp100 := up_s P88 a0 5 q76
  have hp101 := (up_k P88 a0 a0 q76 (by decide : 4 ≠ 5)).trans hp95
  have hp102 := (up_k P88 a0 a0 q76 (by decide : 3 ≠ 5)).trans hp96
  have hp103 := (up_k P88 a0 a0 q76 (by decide : 2 ≠ 5)).trans hp97
  have hp104 := (up_k P88 a0 a0 q76 (by decide : 1 ≠ 5)).trans hp98
  have hp105 := (up_k P88 a0 a0 q76 (by decide : 0 ≠ 5)).trans hp99
  obtain ⟨P100, eP100, hf⟩ := bndP_f hf
  rw [eP100] at hF100 hWT100 hE100 hp100 hp101 hp102 hp103 hp104 hp105
  refine lv_aload_n C0.1 C0.2.1 dX7_init_70 rfl (lv_at hl 0 rfl) ?_
  refine fl_bipush C0 dX7_init_71 (by decide) ?_
  refine fl_newi C0 hF100 (rgk 8 rfl) (by decide) (by decide) aw_96 (Nat.le_of_ble_eq_true rfl) (Nat.le_of_ble_eq_true rfl) dX7_init_73 (fun q106 H hq106 hF106 => ?_)
  have hF106 : FS D cy B (L88 ++ [q106]) (va_up K88 q106 132) (clrN P100 q106) J s.heap (clr I88 q106) H _ := hF106
  have h1q106 : 1 < q106 := hF106.ne0 (by rw [va_up_self]; decide)
  have n107 := nn hF100 hq106 k89 rfl
  have k107 := kn (t := 132) hF100 hq106 k89 rfl
  have n108 := nn hF100 hq106 kq88 rfl
  have k108 := kn (t := 132) hF100 hq106 kq88 rfl
  have n109 := nn hF100 hq106 k90 rfl
  have k109 := kn (t := 132) hF100 hq106 k90 rfl
  have n110 := nn hF100 hq106 k91 rfl
  have k110 := kn (t := 132) hF100 hq106 k91 rfl
  have n111 := nn hF100 hq106 k92 rfl
  have k111 := kn (t := 132) hF100 hq106 k92 rfl
  have n112 := nn hF100 hq106 k93 rfl
  have k112 := kn (t := 132) hF100 hq106 k93 rfl
  have n113 := nn hF100 hq106 k94 rfl
  have k113 := kn (t := 132) hF100 hq106 k94 rfl
  have z106 := k00 hE100 hF100 hq106 n107
  have hp114 := pn hF100 hq106 k89 rfl hp100
  have hp115 := pn hF100 hq106 k89 rfl hp101
  have hp116 := pn hF100 hq106 k89 rfl hp102
  have hp117 := pn hF100 hq106 k89 rfl hp103
  have hp118 := pn hF100 hq106 k89 rfl hp104
  have hp119 := pn hF100 hq106 k89 rfl hp105
  have hWT106 := wn (t := 132) hF100 hq106 hWT100 (fun k => tt_arr 132 (by decide) k)
  have hE106 := en (t := 132) hE100 hF100 hq106
  have kq106 : va_up K88 q106 132 q106 = 132 := va_up_self _ _ _
  obtain ⟨L106, K106, P106, I106, eL106, eK106, eP106, eI106, hf⟩ := nwP_f hf hq106 (by omega)
  rw [eL106, eK106, eP106, eI106] at hF106
  rw [eK106] at k107 k108 k109 k110 k111 k112 k113 kq106
  rw [eK106, eP106] at hWT106 hE106
  rw [eP106] at hp114 hp115 hp116 hp117 hp118 hp119
  refine fl_putFr (k := 6) ck_8 C0 hF106 hin k107 rfl (hF106.ne0 (by rw [kq106]; decide)) ⟨rfl, rfl, rfl, rfl⟩ ⟨rfl, rfl⟩ aw_196 dX7_init_75 (fun H locs hF120 => ?_)
  have hWT120 := wu (k := 6) (v := q106) hWT106 k107 (fun k => tt_arr 28 (by decide) k)
  have hE120 := eu (k := 6) (v := q106) hE106
  have hp120 := up_s P106 a0 6 q106
  have hp121 := (up_k P106 a0 a0 q106 (by decide : 5 ≠ 6)).trans hp114
  have hp122 := (up_k P106 a0 a0 q106 (by decide : 4 ≠ 6)).trans hp115
  have hp123 := (up_k P106 a0 a0 q106 (by decide : 3 ≠ 6)).trans hp116
  have hp124 := (up_k P106 a0 a0 q106 (by decide : 2 ≠ 6)).trans hp117
  have hp125 := (up_k P106 a0 a0 q106 (by decide : 1 ≠ 6)).trans hp118
  have hp126 := (up_k P106 a0 a0 q106 (by decide : 0 ≠ 6)).trans hp119
  obtain ⟨P120, eP120, hf⟩ := bndP_f hf
  rw [eP120] at hF120 hWT120 hE120 hp120 hp121 hp122 hp123 hp124 hp125 hp126
  refine lv_aload_n C0.1 C0.2.1 dX7_init_78 rfl (lv_at hl 0 rfl) ?_
  refine fl_bipush C0 dX7_init_79 (by decide) ?_
  refine fl_newi C0 hF120 (rgk 8 rfl) (by decide) (by decide) aw_96 (Nat.le_of_ble_eq_true rfl) (Nat.le_of_ble_eq_true rfl) dX7_init_81 (fun q127 H hq127 hF127 => ?_)
  have hF127 : FS D cy B (L106 ++ [q127]) (va_up K106 q127 132) (clrN P120 q127) J s.heap (clr I106 q127) H _ := hF127
  have h1q127 : 1 < q127 := hF127.ne0 (by rw [va_up_self]; decide)
  have n128 := nn hF120 hq127 k107 rfl
  have k128 := kn (t := 132) hF120 hq127 k107 rfl
  have n129 := nn hF120 hq127 kq106 rfl
  have k129 := kn (t := 132) hF120 hq127 kq106 rfl
  have n130 := nn hF120 hq127 k108 rfl
  have k130 := kn (t := 132) hF120 hq127 k108 rfl
  have n131 := nn hF120 hq127 k109 rfl
  have k131 := kn (t := 132) hF120 hq127 k109 rfl
  have n132 := nn hF120 hq127 k110 rfl
  have k132 := kn (t := 132) hF120 hq127 k110 rfl
  have n133 := nn hF120 hq127 k111 rfl
  have k133 := kn (t := 132) hF120 hq127 k111 rfl
  have n134 := nn hF120 hq127 k112 rfl
  have k134 := kn (t := 132) hF120 hq127 k112 rfl
  have n135 := nn hF120 hq127 k113 rfl
  have k135 := kn (t := 132) hF120 hq127 k113 rfl
  have z127 := k00 hE120 hF120 hq127 n128
  have hp136 := pn hF120 hq127 k107 rfl hp120
  have hp137 := pn hF120 hq127 k107 rfl hp121
  have hp138 := pn hF120 hq127 k107 rfl hp122
  have hp139 := pn hF120 hq127 k107 rfl hp123
  have hp140 := pn hF120 hq127 k107 rfl hp124
  have hp141 := pn hF120 hq127 k107 rfl hp125
  have hp142 := pn hF120 hq127 k107 rfl hp126
  have hWT127 := wn (t := 132) hF120 hq127 hWT120 (fun k => tt_arr 132 (by decide) k)
  have hE127 := en (t := 132) hE120 hF120 hq127
  have kq127 : va_up K106 q127 132 q127 = 132 := va_up_self _ _ _
  obtain ⟨L127, K127, P127, I127, eL127, eK127, eP127, eI127, hf⟩ := nwP_f hf hq127 (by omega)
  rw [eL127, eK127, eP127, eI127] at hF127
  rw [eK127] at k128 k129 k130 k131 k132 k133 k134 k135 kq127
  rw [eK127, eP127] at hWT127 hE127
  rw [eP127] at hp136 hp137 hp138 hp139 hp140 hp141 hp142
  refine fl_putFr (k := 7) ck_8 C0 hF127 hin k128 rfl (hF127.ne0 (by rw [kq127]; decide)) ⟨rfl, rfl, rfl, rfl⟩ ⟨rfl, rfl⟩ aw_197 dX7_init_83 (fun H locs hF143 => ?_)
  have hWT143 := wu (k := 7) (v := q127) hWT127 k128 (fun k => tt_arr 28 (by decide) k)
  have hE143 := eu (k := 7) (v := q127) hE127
  have hp143 := up_s P127 a0 7 q127
  have hp144 := (up_k P127 a0 a0 q127 (by decide : 6 ≠ 7)).trans hp136
  have hp145 := (up_k P127 a0 a0 q127 (by decide : 5 ≠ 7)).trans hp137
  have hp146 := (up_k P127 a0 a0 q127 (by decide : 4 ≠ 7)).trans hp138
  have hp147 := (up_k P127 a0 a0 q127 (by decide : 3 ≠ 7)).trans hp139
  have hp148 := (up_k P127 a0 a0 q127 (by decide : 2 ≠ 7)).trans hp140
  have hp149 := (up_k P127 a0 a0 q127 (by decide : 1 ≠ 7)).trans hp141
  have hp150 := (up_k P127 a0 a0 q127 (by decide : 0 ≠ 7)).trans hp142
  obtain ⟨P143, eP143, hf⟩ := bndP_f hf
  rw [eP143] at hF143 hWT143 hE143 hp143 hp144 hp145 hp146 hp147 hp148 hp149 hp150
  refine lv_aload_n C0.1 C0.2.1 dX7_init_86 rfl (lv_at hl 0 rfl) ?_
  refine fl_bipush C0 dX7_init_87 (by decide) ?_
  refine fl_newz C0 hF143 (rgk 48 rfl) (by decide) (by decide) aw_189 (Nat.le_of_ble_eq_true rfl) (Nat.le_of_ble_eq_true rfl) dX7_init_89 (fun q151 H hq151 hF151 => ?_)
  have hF151 : FS D cy B (L127 ++ [q151]) (va_up K127 q151 293) (clrN P143 q151) J s.heap (clr I127 q151) H _ := hF151
  have h1q151 : 1 < q151 := hF151.ne0 (by rw [va_up_self]; decide)
  have n152 := nn hF143 hq151 k128 rfl
  have k152 := kn (t := 293) hF143 hq151 k128 rfl
  have n153 := nn hF143 hq151 kq127 rfl
  have k153 := kn (t := 293) hF143 hq151 kq127 rfl
  have n154 := nn hF143 hq151 k129 rfl
  have k154 := kn (t := 293) hF143 hq151 k129 rfl
  have n155 := nn hF143 hq151 k130 rfl
  have k155 := kn (t := 293) hF143 hq151 k130 rfl
  have n156 := nn hF143 hq151 k131 rfl
  have k156 := kn (t := 293) hF143 hq151 k131 rfl
  have n157 := nn hF143 hq151 k132 rfl
  have k157 := kn (t := 293) hF143 hq151 k132 rfl
  have n158 := nn hF143 hq151 k133 rfl
  have k158 := kn (t := 293) hF143 hq151 k133 rfl
  have n159 := nn hF143 hq151 k134 rfl
  have k159 := kn (t := 293) hF143 hq151 k134 rfl
  have n160 := nn hF143 hq151 k135 rfl
  have k160 := kn (t := 293) hF143 hq151 k135 rfl
  have z151 := k00 hE143 hF143 hq151 n152
  have hp161 := pn hF143 hq151 k128 rfl hp143
  have hp162 := pn hF143 hq151 k128 rfl hp144
  have hp163 := pn hF143 hq151 k128 rfl hp145
  have hp164 := pn hF143 hq151 k128 rfl hp146
  have hp165 := pn hF143 hq151 k128 rfl hp147
  have hp166 := pn hF143 hq151 k128 rfl hp148
  have hp167 := pn hF143 hq151 k128 rfl hp149
  have hp168 := pn hF143 hq151 k128 rfl hp150
  have hWT151 := wn (t := 293) hF143 hq151 hWT143 (fun k => tt_arr 293 (by decide) k)
  have hE151 := en (t := 293) hE143 hF143 hq151
  have kq151 : va_up K127 q151 293 q151 = 293 := va_up_self _ _ _
  obtain ⟨L151, K151, P151, I151, eL151, eK151, eP151, eI151, hf⟩ := nwP_f hf hq151 (by omega)
  rw [eL151, eK151, eP151, eI151] at hF151
  rw [eK151] at k152 k153 k154 k155 k156 k157 k158 k159 k160 kq151
  rw [eK151, eP151] at hWT151 hE151
  rw [eP151] at hp161 hp162 hp163 hp164 hp165 hp166 hp167 hp168
  refine fl_putFr (k := 8) ck_8 C0 hF151 hin k152 rfl (hF151.ne0 (by rw [kq151]; decide)) ⟨rfl, rfl, rfl, rfl⟩ ⟨rfl, rfl⟩ aw_198 dX7_init_91 (fun H locs hF169 => ?_)
  have hWT169 := wu (k := 8) (v := q151) hWT151 k152 (fun k => tt_arr 28 (by decide) k)
  have hE169 := eu (k := 8) (v := q151) hE151
  have hp169 := up_s P151 a0 8 q151
  have hp170 := (up_k P151 a0 a0 q151 (by decide : 7 ≠ 8)).trans hp161
  have hp171 := (up_k P151 a0 a0 q151 (by decide : 6 ≠ 8)).trans hp162
  have hp172 := (up_k P151 a0 a0 q151 (by decide : 5 ≠ 8)).trans hp163
  have hp173 := (up_k P151 a0 a0 q151 (by decide : 4 ≠ 8)).trans hp164
  have hp174 := (up_k P151 a0 a0 q151 (by decide : 3 ≠ 8)).trans hp165
  have hp175 := (up_k P151 a0 a0 q151 (by decide : 2 ≠ 8)).trans hp166
  have hp176 := (up_k P151 a0 a0 q151 (by decide : 1 ≠ 8)).trans hp167
  have hp177 := (up_k P151 a0 a0 q151 (by decide : 0 ≠ 8)).trans hp168
  obtain ⟨P169, eP169, hf⟩ := bndP_f hf
  rw [eP169] at hF169 hWT169 hE169 hp169 hp170 hp171 hp172 hp173 hp174 hp175 hp176 hp177
  refine lv_aload_n C0.1 C0.2.1 dX7_init_94 rfl (lv_at hl 0 rfl) ?_
  refine fl_bipush C0 dX7_init_95 (by decide) ?_
  refine fl_newi C0 hF169 (rgk 17 rfl) (by decide) (by decide) aw_96 (Nat.le_of_ble_eq_true rfl) (Nat.le_of_ble_eq_true rfl) dX7_init_97 (fun q178 H hq178 hF178 => ?_)
  have hF178 : FS D cy B (L151 ++ [q178]) (va_up K151 q178 168) (clrN P169 q178) J s.heap (clr I151 q178) H _ := hF178
  have h1q178 : 1 < q178 := hF178.ne0 (by rw [va_up_self]; decide)
  have n179 := nn hF169 hq178 k152 rfl
  have k179 := kn (t := 168) hF169 hq178 k152 rfl
  have n180 := nn hF169 hq178 kq151 rfl
  have k180 := kn (t := 168) hF169 hq178 kq151 rfl
  have n181 := nn hF169 hq178 k153 rfl
  have k181 := kn (t := 168) hF169 hq178 k153 rfl
  have n182 := nn hF169 hq178 k154 rfl
  have k182 := kn (t := 168) hF169 hq178 k154 rfl
  have n183 := nn hF169 hq178 k155 rfl
  have k183 := kn (t := 168) hF169 hq178 k155 rfl
  have n184 := nn hF169 hq178 k156 rfl
  have k184 := kn (t := 168) hF169 hq178 k156 rfl
  have n185 := nn hF169 hq178 k157 rfl
  have k185 := kn (t := 168) hF169 hq178 k157 rfl
  have n186 := nn hF169 hq178 k158 rfl
  have k186 := kn (t := 168) hF169 hq178 k158 rfl
  have n187 := nn hF169 hq178 k159 rfl
  have k187 := kn (t := 168) hF169 hq178 k159 rfl
  have n188 := nn hF169 hq178 k160 rfl
  have k188 := kn (t := 168) hF169 hq178 k160 rfl
  have z178 := k00 hE169 hF169 hq178 n179
  have hp189 := pn hF169 hq178 k152 rfl hp169
  have hp190 := pn hF169 hq178 k152 rfl hp170
  have hp191 := pn hF169 hq178 k152 rfl hp171
  have hp192 := pn hF169 hq178 k152 rfl hp172
  have hp193 := pn hF169 hq178 k152 rfl hp173
  have hp194 := pn hF169 hq178 k152 rfl hp174
  have hp195 := pn hF169 hq178 k152 rfl hp175
  have hp196 := pn hF169 hq178 k152 rfl hp176
  have hp197 := pn hF169 hq178 k152 rfl hp177
  have hWT178 := wn (t := 168) hF169 hq178 hWT169 (fun k => tt_arr 168 (by decide) k)
  have hE178 := en (t := 168) hE169 hF169 hq178
  have kq178 : va_up K151 q178 168 q178 = 168 := va_up_self _ _ _
  obtain ⟨L178, K178, P178, I178, eL178, eK178, eP178, eI178, hf⟩ := nwP_f hf hq178 (by omega)
  rw [eL178, eK178, eP178, eI178] at hF178
  rw [eK178] at k179 k180 k181 k182 k183 k184 k185 k186 k187 k188 kq178
  rw [eK178, eP178] at hWT178 hE178
  rw [eP178] at hp189 hp190 hp191 hp192 hp193 hp194 hp195 hp196 hp197
  refine fl_putFr (k := 9) ck_8 C0 hF178 hin k179 rfl (hF178.ne0 (by rw [kq178]; decide)) ⟨rfl, rfl, rfl, rfl⟩ ⟨rfl, rfl⟩ aw_199 dX7_init_99 (fun H locs hF198 => ?_)
  have hWT198 := wu (k := 9) (v := q178) hWT178 k179 (fun k => tt_arr 28 (by decide) k)
  have hE198 := eu (k := 9) (v := q178) hE178
  have hp198 := up_s P178 a0 9 q178
  have hp199 := (up_k P178 a0 a0 q178 (by decide : 8 ≠ 9)).trans hp189
  have hp200 := (up_k P178 a0 a0 q178 (by decide : 7 ≠ 9)).trans hp190
  have hp201 := (up_k P178 a0 a0 q178 (by decide : 6 ≠ 9)).trans hp191
  have hp202 := (up_k P178 a0 a0 q178 (by decide : 5 ≠ 9)).trans hp192
  have hp203 := (up_k P178 a0 a0 q178 (by decide : 4 ≠ 9)).trans hp193
  have hp204 := (up_k P178 a0 a0 q178 (by decide : 3 ≠ 9)).trans hp194
  have hp205 := (up_k P178 a0 a0 q178 (by decide : 2 ≠ 9)).trans hp195
  have hp206 := (up_k P178 a0 a0 q178 (by decide : 1 ≠ 9)).trans hp196
  have hp207 := (up_k P178 a0 a0 q178 (by decide : 0 ≠ 9)).trans hp197
  obtain ⟨P198, eP198, hf⟩ := bndP_f hf
  rw [eP198] at hF198 hWT198 hE198 hp198 hp199 hp200 hp201 hp202 hp203 hp204 hp205 hp206 hp207
  refine lv_aload_n C0.1 C0.2.1 dX7_init_102 rfl (lv_at hl 0 rfl) ?_
  refine fl_iconst C0 dX7_init_103 ?_
  refine fl_puti (k := 10) ck_8 C0 hF198 k179 rfl (rgk 0 rfl) ⟨rfl, rfl, rfl⟩ aw_200 dX7_init_104 (fun H locs hF208 => ?_)
  obtain ⟨I208, eI208, hf⟩ := bndP_f hf
  rw [eI208] at hF208
  refine lv_aload_n C0.1 C0.2.1 dX7_init_107 rfl (lv_at hl 0 rfl) ?_
  refine fl_iconst C0 dX7_init_108 ?_
  refine fl_puti (k := 11) ck_8 C0 hF208 k179 rfl (rgk (-1) rfl) ⟨rfl, rfl, rfl⟩ aw_201 dX7_init_109 (fun H locs hF209 => ?_)
  obtain ⟨I209, eI209, hf⟩ := bndP_f hf
  rw [eI209] at hF209
  have ht : ∀ k, tt 8 k ≠ 0 → K178 (P198 a0 k) = tt 8 k ∧ P198 a0 k ≠ a0 := by
    intro k hk
    by_cases h0 : k = 0
    · subst h0; rw [hp207]; exact ⟨k188, fun e => by have h9 := k188; rw [e, k179] at h9; exact absurd h9 (by decide)⟩
    by_cases h1 : k = 1
    · subst h1; rw [hp206]; exact ⟨k187, fun e => by have h9 := k187; rw [e, k179] at h9; exact absurd h9 (by decide)⟩
    by_cases h2 : k = 2
    · subst h2; rw [hp205]; exact ⟨k186, fun e => by have h9 := k186; rw [e, k179] at h9; exact absurd h9 (by decide)⟩
    by_cases h3 : k = 3
    · subst h3; rw [hp204]; exact ⟨k185, fun e => by have h9 := k185; rw [e, k179] at h9; exact absurd h9 (by decide)⟩
    by_cases h4 : k = 4
    · subst h4; rw [hp203]; exact ⟨k184, fun e => by have h9 := k184; rw [e, k179] at h9; exact absurd h9 (by decide)⟩
    by_cases h5 : k = 5
    · subst h5; rw [hp202]; exact ⟨k183, fun e => by have h9 := k183; rw [e, k179] at h9; exact absurd h9 (by decide)⟩
    by_cases h6 : k = 6
    · subst h6; rw [hp201]; exact ⟨k182, fun e => by have h9 := k182; rw [e, k179] at h9; exact absurd h9 (by decide)⟩
    by_cases h7 : k = 7
    · subst h7; rw [hp200]; exact ⟨k181, fun e => by have h9 := k181; rw [e, k179] at h9; exact absurd h9 (by decide)⟩
    by_cases h8 : k = 8
    · subst h8; rw [hp199]; exact ⟨k180, fun e => by have h9 := k180; rw [e, k179] at h9; exact absurd h9 (by decide)⟩
    by_cases h9 : k = 9
    · subst h9; rw [hp198]; exact ⟨kq178, fun e => by have h9 := kq178; rw [e, k179] at h9; exact absurd h9 (by decide)⟩
    exact absurd (show tt 8 k = 0 by simp [tt, h0, h1, h2, h3, h4, h5, h6, h7, h8, h9]) hk
  exact fl_vretC C0 (hF209.done (ci := 8) (co2 := 8) k179 rfl rfl) hr hf (wd hWT198 k179 ht (wraw hWT198 k179 rfl)) (ked hE198 k179) (va_up_self _ _ _) dX7_init_112 (Nat.le_of_ble_eq_true rfl) (Nat.le_of_ble_eq_true rfl)
-- RejudgeHall$Problem.addTrial(LRejudgeHall$Trial;)V
abbrev rm_X2_addTrial : Room := { frames := 7, cells := 1, slots := 2000, locals := 201 }
def w_X2_addTrial (L : List Nat) (K : KT) (P : PT) (I : IT) (a0 : Nat) (a1 : Nat) (post : PO) : Prop := addW L K P I ((P a0 3)) 7 a1 fun L2 K2 P2 I2 => bndP (up I2 a0 6 (wr ((I2 a0 6) + 1))) fun I5 => post L2 K2 P2 I5
theorem pm_X2_addTrial : plainM yX2_addTrial 1 := by decide +kernel
set_option maxRecDepth 100000 in
set_option maxHeartbeats 8000000 in
theorem a_X2_addTrial (l : Launch) (D : va_G) (cy : Nat → ClassId) (B : Nat) (L : List Nat) (K : KT) (P : PT) (J : IT) (I : IT) (hWT : WT K P) (a0 : Nat) (a1 : Nat) (ka0 : K a0 = 3) (ka1 : K a1 = 7) (post : PO) (hf : w_X2_addTrial L K P I a0 a1 post) : Met l yX2_addTrial [.code yX2_addTrial cX2_addTrial 2 none] rm_X2_addTrial (va_Pc [.ref a0, .ref a1] (FW D cy B L K P J I)) (AVm D cy B J K post) 1 2000 (fun q => B ≤ q) := by
  refine fl_body (own := "RejudgeHall$Problem") [.ref a0, .ref a1] (by decide) rfl (Nat.le_of_ble_eq_true rfl) ?_
  intro p e s m args below meth c ls C0 hr hF hl
  have hl : lv_has ls 2 [(0, .ref a0), (1, .ref a1)] := hl
  have hE : EK K K := EK.rf
  unfold w_X2_addTrial at hf
  refine lv_aload_n C0.1 C0.2.1 dX2_addTrial_0 rfl (lv_at hl 0 rfl) ?_
  have k1 : K (P a0 3) = 12 := (wt_at (k := 3) (t := 12) hWT ka0 rfl)
  refine fl_getr (k := 3) (t := 12) ck_3 C0 hF ka0 rfl k1 rfl ⟨rfl, rfl⟩ aw_590 dX2_addTrial_1 ?_
  refine lv_aload_n C0.1 C0.2.1 dX2_addTrial_4 rfl (lv_at hl 1 rfl) ?_
  refine fl_aim hF (fl_runV (As := [.ref a1]) (rest := []) C0 hF hl.1 ck_0 k1 rfl (c_add l D cy B L K P J I hWT ((P a0 3)) 12 a1 7 7 _ _ _ el_7 k1 rfl (by decide) ka1 _ hf) aw_712 aw_621 aw_622 aw_51 aw_623 rfl rfl pm_add rfl rfl ⟨(Nat.le_of_ble_eq_true rfl), (Nat.le_of_ble_eq_true rfl)⟩ rfl (Nat.le_of_ble_eq_true rfl) dX2_addTrial_5 ⟨(Nat.le_of_ble_eq_true rfl), (Nat.le_of_ble_eq_true rfl)⟩) (fun r2 L2 K2 P2 I2 H locs hF2 rr2 hf hWT2 hX2 => ?_)
  have k3 := (hX2 _ (by rw [ka0]; decide)).trans ka0
  have k4 := (hX2 _ (by rw [ka1]; decide)).trans ka1
  have hE2 := EK.tr hE hX2
  refine lv_pop C0.1 C0.2.1 dX2_addTrial_8 rfl ?_
  refine lv_aload_n C0.1 C0.2.1 dX2_addTrial_9 rfl (lv_at hl 0 rfl) ?_
  refine lv_dup C0.1 C0.2.1 dX2_addTrial_10 rfl ?_
  refine fl_geti (k := 6) ck_3 C0 hF2 k3 rfl ⟨rfl, rfl⟩ aw_596 dX2_addTrial_11 ?_
  refine fl_iconst C0 dX2_addTrial_14 ?_
  refine fl_iadd C0 dX2_addTrial_15 ?_
  refine fl_puti (k := 6) ck_3 C0 hF2 k3 rfl (rg_wr _) ⟨rfl, rfl, rfl⟩ aw_596 dX2_addTrial_16 (fun H locs hF5 => ?_)
  obtain ⟨I5, eI5, hf⟩ := bndP_f hf
  rw [eI5] at hF5
  exact fl_vretM C0 hF5 hr hf hWT2 hE2 dX2_addTrial_19 (Nat.le_of_ble_eq_true rfl) (Nat.le_of_ble_eq_true rfl)
-- RejudgeHall.problem(II)I
abbrev rm_X7_problem : Room := { frames := 7, cells := 9, slots := 2061, locals := 201 }
def w_X7_problem (L : List Nat) (K : KT) (P : PT) (I : IT) (a0 : Nat) (x1 : Int) (x2 : Int) (post : Nat → Int → PO) : Prop := bxP (f_X7_needRange K P I x1 1 500) (fun c1 I1 => post c1 0 L K P I1) fun _ I1 => bxP (f_X7_needRange K P I1 x2 0 1) (fun c2 I2 => post c2 0 L K P I2) fun _ I2 => ((I2 ((P a0 3)) 2) < 6 → (nwP L K P I2 23 fun q6 L6 K6 P6 I6 => w_X2_init L6 K6 P6 I6 q6 ((I6 ((P6 a0 3)) 2)) x1 x2 fun L10 K10 P10 I10 => bpP (f_X3_takeFrom K10 P10 I10 ((P10 q6 2)) ((P10 a0 0))) fun I14 => addW L10 K10 P10 I14 ((P10 a0 3)) 3 q6 fun L16 K16 P16 I16 => post 0 (I16 q6 0) L16 K16 P16 I16)) ∧ (¬ ((I2 ((P a0 3)) 2) < 6) → (post 2 0 L K P I2))
theorem pm_X7_problem : plainM yX7_problem 2 := by decide +kernel
set_option maxRecDepth 100000 in
set_option maxHeartbeats 8000000 in
theorem a_X7_problem (l : Launch) (hst : l.stackTraces = false) (D : va_G) (cy : Nat → ClassId) (B : Nat) (L : List Nat) (K : KT) (P : PT) (J : IT) (I : IT) (hWT : WT K P) (a0 : Nat) (x1 : Int) (x2 : Int) (ka0 : K a0 = 8) (rx1 : rg x1) (rx2 : rg x2) (post : Nat → Int → PO) (hf : w_X7_problem L K P I a0 x1 x2 post) : vx_Met l yX7_problem [.code yX7_problem cX7_problem 4 (some .int)] rm_X7_problem (va_Pc [.ref a0, iv x1, iv x2] (FW D cy B L K P J I)) (AIm D cy B J K (post 0)) (AXm D cy B J K (fun c => post c 0)) 9 2061 (fun q => B ≤ q) := by
  refine fl_bodyX (own := "RejudgeHall") [.ref a0, iv x1, iv x2] (by decide) rfl (Nat.le_of_ble_eq_true rfl) ?_
  intro p e s m args below meth c ls C0 hr hx0 hF hl
  have hl : lv_has ls 4 [(0, .ref a0), (1, iv x1), (2, iv x2)] := hl
  have hE : EK K K := EK.rf
  unfold w_X7_problem at hf
  refine lv_iload_n C0.1 C0.2.1 dX7_problem_0 rfl (lv_at hl 1 rfl) ?_
  refine fl_iconst C0 dX7_problem_1 ?_
  refine fl_sipush C0 dX7_problem_2 (by decide) ?_
  obtain ⟨co1, r1, I1, hq1, hg, hf⟩ := hf
  refine fl_xv hF (fl_runSX (As := [iv x1, iv 1, iv 500]) (rest := []) C0 hF hl.1 (c_X7_needRange l hst D cy B L K P J hWT I x1 1 500 rx1 (rgk 1 rfl) (rgk 500 rfl) hq1) aw_231 aw_232 aw_45 aw_233 rfl pm_X7_needRange rfl rfl ⟨(Nat.le_of_ble_eq_true rfl), (Nat.le_of_ble_eq_true rfl)⟩ rfl (Nat.le_of_ble_eq_true rfl) dX7_problem_5 ⟨(Nat.le_of_ble_eq_true rfl), (Nat.le_of_ble_eq_true rfl)⟩) (fun c1 H locs hF1 => ?_) (fun c1 H locs q ce hF1 e1 e2 e3 => fl_propA C0 hF1 hx0 c1 e1 e2 e3 (hg c1) hWT hE (Nat.le_of_ble_eq_true rfl) (Nat.le_of_ble_eq_true rfl))
  replace hf := hf c1
  refine lv_iload_n C0.1 C0.2.1 dX7_problem_8 rfl (lv_at hl 2 rfl) ?_
  refine fl_iconst C0 dX7_problem_9 ?_
  refine fl_iconst C0 dX7_problem_10 ?_
  obtain ⟨co2, r2, I2, hq2, hg, hf⟩ := hf
  refine fl_xv hF1 (fl_runSX (As := [iv x2, iv 0, iv 1]) (rest := []) C0 hF1 hl.1 (c_X7_needRange l hst D cy B L K P J hWT I1 x2 0 1 rx2 (rgk 0 rfl) (rgk 1 rfl) hq2) aw_231 aw_232 aw_45 aw_233 rfl pm_X7_needRange rfl rfl ⟨(Nat.le_of_ble_eq_true rfl), (Nat.le_of_ble_eq_true rfl)⟩ rfl (Nat.le_of_ble_eq_true rfl) dX7_problem_11 ⟨(Nat.le_of_ble_eq_true rfl), (Nat.le_of_ble_eq_true rfl)⟩) (fun c2 H locs hF2 => ?_) (fun c2 H locs q ce hF2 e1 e2 e3 => fl_propA C0 hF2 hx0 c2 e1 e2 e3 (hg c2) hWT hE (Nat.le_of_ble_eq_true rfl) (Nat.le_of_ble_eq_true rfl))
  replace hf := hf c2
  refine lv_aload_n C0.1 C0.2.1 dX7_problem_14 rfl (lv_at hl 0 rfl) ?_
  have k3 : K (P a0 3) = 10 := (wt_at (k := 3) (t := 10) hWT ka0 rfl)
  refine fl_getr (k := 3) (t := 10) ck_8 C0 hF2 ka0 rfl k3 rfl ⟨rfl, rfl⟩ aw_193 dX7_problem_15 ?_
  refine fl_ri hF2 (fl_runV (As := []) (rest := []) C0 hF2 hl.1 ck_0 k3 rfl (c_size l D cy B L K P J I2 ((P a0 3)) 10 k3 rfl) aw_344 aw_345 aw_346 aw_51 aw_347 rfl rfl pm_size rfl rfl ⟨(Nat.le_of_ble_eq_true rfl), (Nat.le_of_ble_eq_true rfl)⟩ rfl (Nat.le_of_ble_eq_true rfl) dX7_problem_18 ⟨(Nat.le_of_ble_eq_true rfl), (Nat.le_of_ble_eq_true rfl)⟩) (fun H locs hF4 _ => ?_)
  refine fl_bipush C0 dX7_problem_21 (by decide) ?_
  refine fl_icmp_lt (tgt := 36) C0 (hF4.rI _ _) (rgk 6 rfl) dX7_problem_23 (by decide) (fun c5 => ?_) (fun c5 => ?_)
  · replace hf := hf.1 c5
    refine fl_new ck_3 dv_3 C0 hF4 (co := 23) rfl aw_468 aw_439 aw_58 (Nat.le_of_ble_eq_true rfl) (Nat.le_of_ble_eq_true rfl) dX7_problem_36 (fun q6 H hq6 hF6 => ?_)
    have hF6 : FS D cy B (L ++ [q6]) (va_up K q6 23) (clrN P q6) J s.heap (clr I2 q6) H _ := hF6
    have h1q6 : 1 < q6 := hF6.ne0 (by rw [va_up_self]; decide)
    have n7 := nn hF4 hq6 ka0 rfl
    have k7 := kn (t := 23) hF4 hq6 ka0 rfl
    have z6 := ek0 hE hF4 hq6
    have hWT6 := wn (t := 23) hF4 hq6 hWT (fun k => tt_arr 23 (by decide) k)
    have hE6 := EK.tr hE (ekq (s := s) (t := 23) hF4 hq6)
    have kq6 : va_up K q6 23 q6 = 23 := va_up_self _ _ _
    obtain ⟨L6, K6, P6, I6, eL6, eK6, eP6, eI6, hf⟩ := nwP_f hf hq6 (by omega)
    rw [eL6, eK6, eP6, eI6] at hF6
    rw [eK6] at k7 kq6
    rw [eK6, eP6] at hWT6
    rw [eK6] at hE6
    refine lv_dup C0.1 C0.2.1 dX7_problem_39 rfl ?_
    refine lv_aload_n C0.1 C0.2.1 dX7_problem_40 rfl (lv_at hl 0 rfl) ?_
    have k8 : K6 (P6 a0 3) = 10 := (wt_at (k := 3) (t := 10) hWT6 k7 rfl)
    refine fl_getr (k := 3) (t := 10) ck_8 C0 hF6 k7 rfl k8 rfl ⟨rfl, rfl⟩ aw_193 dX7_problem_41 ?_
    refine fl_ri hF6 (fl_runV (As := []) (rest := [.ref q6, .ref q6]) C0 hF6 hl.1 ck_0 k8 rfl (c_size l D cy B L6 K6 P6 J I6 ((P6 a0 3)) 10 k8 rfl) aw_344 aw_345 aw_346 aw_51 aw_347 rfl rfl pm_size rfl rfl ⟨(Nat.le_of_ble_eq_true rfl), (Nat.le_of_ble_eq_true rfl)⟩ rfl (Nat.le_of_ble_eq_true rfl) dX7_problem_44 ⟨(Nat.le_of_ble_eq_true rfl), (Nat.le_of_ble_eq_true rfl)⟩) (fun H locs hF9 _ => ?_)
    refine lv_iload_n C0.1 C0.2.1 dX7_problem_47 rfl (lv_at hl 1 rfl) ?_
    refine lv_iload_n C0.1 C0.2.1 dX7_problem_48 rfl (lv_at hl 2 rfl) ?_
    refine fl_avc hF9 (fl_runIN (As := [iv (I6 ((P6 a0 3)) 2), iv x1, iv x2]) (rest := [.ref q6]) C0 hF9 hl.1 (a_X2_init l D cy B L6 K6 P6 J I6 hWT6 q6 ((I6 ((P6 a0 3)) 2)) x1 x2 kq6 (hF9.rI _ _) rx1 rx2 _ hf) aw_574 aw_575 aw_58 aw_576 rfl rfl pm_X2_init rfl rfl ⟨(Nat.le_of_ble_eq_true rfl), (Nat.le_of_ble_eq_true rfl)⟩ rfl (Nat.le_of_ble_eq_true rfl) dX7_problem_49 ⟨(Nat.le_of_ble_eq_true rfl), (Nat.le_of_ble_eq_true rfl)⟩) (fun L10 K10 P10 I10 H locs hF10 hf hWT10 hX10 kq10 => ?_)
    have k11 := kx hX10 k7 rfl n7
    have hE10 := ekc hE6 hX10 z6
    refine lv_astore_n (lv' := [(3, .ref q6), (0, .ref a0), (1, iv x1), (2, iv x2)]) C0.1 C0.2.1 dX7_problem_52 rfl hl (by decide) rfl (fun ls hl => ?_)
    refine lv_aload_n C0.1 C0.2.1 dX7_problem_53 rfl (lv_at hl 0 rfl) ?_
    have k12 : K10 (P10 q6 2) = 4 := (wt_at (k := 2) (t := 4) hWT10 kq10 rfl)
    refine fl_getrN (k := 2) (t := 4) ck_3 C0 hF10 kq10 rfl k12 rfl ⟨rfl, rfl⟩ aw_589 dX7_problem_54 ?_
    refine lv_aload_n C0.1 C0.2.1 dX7_problem_57 rfl (lv_at hl 1 rfl) ?_
    have k13 : K10 (P10 a0 0) = 4 := (wt_at (k := 0) (t := 4) hWT10 k11 rfl)
    refine fl_getr (k := 0) (t := 4) ck_8 C0 hF10 k11 rfl k13 rfl ⟨rfl, rfl⟩ aw_190 dX7_problem_58 ?_
    obtain ⟨I14, hq14, hf⟩ := hf
    refine fl_rv hF10 (fl_runN (As := [.ref (P10 a0 0)]) (rest := []) C0 hF10 hl.1 ck_4 k12 rfl (c_X3_takeFrom l D cy B L10 K10 P10 J hWT10 I10 ((P10 q6 2)) ((P10 a0 0)) k12 k13 hq14) aw_613 aw_615 aw_34 aw_46 aw_616 rfl pm_X3_takeFrom rfl rfl ⟨(Nat.le_of_ble_eq_true rfl), (Nat.le_of_ble_eq_true rfl)⟩ rfl (Nat.le_of_ble_eq_true rfl) dX7_problem_61 ⟨(Nat.le_of_ble_eq_true rfl), (Nat.le_of_ble_eq_true rfl)⟩) (fun H locs hF14 => ?_)
    refine lv_aload_n C0.1 C0.2.1 dX7_problem_64 rfl (lv_at hl 1 rfl) ?_
    have k15 : K10 (P10 a0 3) = 10 := (wt_at (k := 3) (t := 10) hWT10 k11 rfl)
    refine fl_getr (k := 3) (t := 10) ck_8 C0 hF14 k11 rfl k15 rfl ⟨rfl, rfl⟩ aw_193 dX7_problem_65 ?_
    refine lv_aload_n C0.1 C0.2.1 dX7_problem_68 rfl (lv_at hl 0 rfl) ?_
    refine fl_aim hF14 (fl_runV (As := [.ref q6]) (rest := []) C0 hF14 hl.1 ck_0 k15 rfl (c_add l D cy B L10 K10 P10 J I14 hWT10 ((P10 a0 3)) 10 q6 3 3 _ _ _ el_3 k15 rfl (by decide) kq10 _ hf) aw_620 aw_621 aw_622 aw_51 aw_623 rfl rfl pm_add rfl rfl ⟨(Nat.le_of_ble_eq_true rfl), (Nat.le_of_ble_eq_true rfl)⟩ rfl (Nat.le_of_ble_eq_true rfl) dX7_problem_69 ⟨(Nat.le_of_ble_eq_true rfl), (Nat.le_of_ble_eq_true rfl)⟩) (fun r16 L16 K16 P16 I16 H locs hF16 rr16 hf hWT16 hX16 => ?_)
    have k17 := (hX16 _ (by rw [k11]; decide)).trans k11
    have k18 := (hX16 _ (by rw [kq10]; decide)).trans kq10
    have hE16 := EK.tr hE10 hX16
    refine lv_pop C0.1 C0.2.1 dX7_problem_72 rfl ?_
    refine lv_aload_n C0.1 C0.2.1 dX7_problem_73 rfl (lv_at hl 0 rfl) ?_
    refine fl_getiN (k := 0) ck_3 C0 hF16 k18 rfl ⟨rfl, rfl⟩ aw_585 dX7_problem_74 ?_
    exact vx_ret (fl_iretM (post := post 0) C0 hF16 hr (hF16.rI _ _) hf hWT16 hE16 dX7_problem_77 (Nat.le_of_ble_eq_true rfl) (Nat.le_of_ble_eq_true rfl))
  · replace hf := hf.2 c5
    exact fl_throwA (k := 2) C0 hF4 hst hx0 hl.1 ex_2 (by decide) (List.mem_of_getElem? (i := 3) rfl) hf hWT hE dX7_problem_26 dX7_problem_29 dX7_problem_30 dX7_problem_32 dX7_problem_35 (Nat.le_of_ble_eq_true rfl) (Nat.le_of_ble_eq_true rfl) (Nat.le_of_ble_eq_true rfl) (Nat.le_of_ble_eq_true rfl) (Nat.le_of_ble_eq_true rfl) (Nat.le_of_ble_eq_true rfl)
-- RejudgeHall.test(II)I
abbrev rm_X7_test : Room := { frames := 8, cells := 8, slots := 2035, locals := 222 }
def w_X7_test (L : List Nat) (K : KT) (P : PT) (I : IT) (a0 : Nat) (x1 : Int) (x2 : Int) (post : Nat → Int → PO) : Prop := bxP (f_X7_problemAt K P I a0 x1) (fun c1 I1 => post c1 0 L K P I1) fun r1 I1 => ckP (K r1 = 3) <| bxP (f_X7_needIndex K P I1 x2 4) (fun c2 I2 => post c2 0 L K P I2) fun _ I2 => ((I2 ((P r1 3)) 2) < 12 → (biP (f_X7_findsAnswer K P I2 a0 ((P r1 2)) ((P a0 1))) fun r8 I8 => (r8 = 0 → (post 2 0 L K P I8)) ∧ (¬ (r8 = 0) → (nwP L K P I8 27 fun q10 L10 K10 P10 I10 => w_X6_init L10 K10 P10 I10 q10 ((P10 a0 1)) ((P10 ((P10 a0 2)) 1)) x2 fun L16 K16 P16 I16 => w_X2_addTrial L16 K16 P16 I16 r1 q10 fun L19 K19 P19 I19 => bndP (up I19 ((P19 a0 1)) 1 0) fun I23 => post 0 (wr ((I23 ((P19 r1 3)) 2) - 1)) L19 K19 P19 I23)))) ∧ (¬ ((I2 ((P r1 3)) 2) < 12) → (post 2 0 L K P I2))
theorem pm_X7_test : plainM yX7_test 2 := by decide +kernel
set_option maxRecDepth 100000 in
set_option maxHeartbeats 8000000 in
theorem a_X7_test (l : Launch) (hst : l.stackTraces = false) (D : va_G) (cy : Nat → ClassId) (B : Nat) (L : List Nat) (K : KT) (P : PT) (J : IT) (I : IT) (hWT : WT K P) (a0 : Nat) (x1 : Int) (x2 : Int) (ka0 : K a0 = 8) (rx1 : rg x1) (rx2 : rg x2) (post : Nat → Int → PO) (hf : w_X7_test L K P I a0 x1 x2 post) : vx_Met l yX7_test [.code yX7_test cX7_test 4 (some .int)] rm_X7_test (va_Pc [.ref a0, iv x1, iv x2] (FW D cy B L K P J I)) (AIm D cy B J K (post 0)) (AXm D cy B J K (fun c => post c 0)) 8 2035 (fun q => B ≤ q) := by
  refine fl_bodyX (own := "RejudgeHall") [.ref a0, iv x1, iv x2] (by decide) rfl (Nat.le_of_ble_eq_true rfl) ?_
  intro p e s m args below meth c ls C0 hr hx0 hF hl
  have hl : lv_has ls 4 [(0, .ref a0), (1, iv x1), (2, iv x2)] := hl
  have hE : EK K K := EK.rf
  unfold w_X7_test at hf
  refine lv_aload_n C0.1 C0.2.1 dX7_test_0 rfl (lv_at hl 0 rfl) ?_
  refine lv_iload_n C0.1 C0.2.1 dX7_test_1 rfl (lv_at hl 1 rfl) ?_
  obtain ⟨co1, r1, I1, hq1, hg, hf⟩ := hf
  refine fl_xr hF (fl_runVX (As := [iv x1]) (rest := []) C0 hF hl.1 ck_8 ka0 rfl (c_X7_problemAt l hst D cy B L K P J hWT I a0 x1 ka0 rx1 hq1) aw_445 aw_447 aw_20 aw_45 aw_448 rfl rfl pm_X7_problemAt rfl rfl ⟨(Nat.le_of_ble_eq_true rfl), (Nat.le_of_ble_eq_true rfl)⟩ rfl (Nat.le_of_ble_eq_true rfl) dX7_test_2 ⟨(Nat.le_of_ble_eq_true rfl), (Nat.le_of_ble_eq_true rfl)⟩) (fun c1 H locs hF1 => ?_) (fun c1 H locs q ce hF1 e1 e2 e3 => fl_propA C0 hF1 hx0 c1 e1 e2 e3 (hg c1) hWT hE (Nat.le_of_ble_eq_true rfl) (Nat.le_of_ble_eq_true rfl))
  replace hf := hf c1
  obtain ⟨kr1, hf⟩ := hf
  refine lv_astore_n (lv' := [(3, .ref r1), (0, .ref a0), (1, iv x1), (2, iv x2)]) C0.1 C0.2.1 dX7_test_5 rfl hl (by decide) rfl (fun ls hl => ?_)
  refine lv_iload_n C0.1 C0.2.1 dX7_test_6 rfl (lv_at hl 3 rfl) ?_
  refine fl_iconst C0 dX7_test_7 ?_
  obtain ⟨co2, r2, I2, hq2, hg, hf⟩ := hf
  refine fl_xv hF1 (fl_runSX (As := [iv x2, iv 4]) (rest := []) C0 hF1 hl.1 (c_X7_needIndex l hst D cy B L K P J hWT I1 x2 4 rx2 (rgk 4 rfl) hq2) aw_449 aw_450 aw_45 aw_451 rfl pm_X7_needIndex rfl rfl ⟨(Nat.le_of_ble_eq_true rfl), (Nat.le_of_ble_eq_true rfl)⟩ rfl (Nat.le_of_ble_eq_true rfl) dX7_test_8 ⟨(Nat.le_of_ble_eq_true rfl), (Nat.le_of_ble_eq_true rfl)⟩) (fun c2 H locs hF2 => ?_) (fun c2 H locs q ce hF2 e1 e2 e3 => fl_propA C0 hF2 hx0 c2 e1 e2 e3 (hg c2) hWT hE (Nat.le_of_ble_eq_true rfl) (Nat.le_of_ble_eq_true rfl))
  replace hf := hf c2
  refine lv_aload_n C0.1 C0.2.1 dX7_test_11 rfl (lv_at hl 0 rfl) ?_
  have k3 : K (P r1 3) = 12 := (wt_at (k := 3) (t := 12) hWT kr1 rfl)
  refine fl_getrN (k := 3) (t := 12) ck_3 C0 hF2 kr1 rfl k3 rfl ⟨rfl, rfl⟩ aw_591 dX7_test_12 ?_
  refine fl_ri hF2 (fl_runV (As := []) (rest := []) C0 hF2 hl.1 ck_0 k3 rfl (c_size l D cy B L K P J I2 ((P r1 3)) 12 k3 rfl) aw_344 aw_345 aw_346 aw_51 aw_347 rfl rfl pm_size rfl rfl ⟨(Nat.le_of_ble_eq_true rfl), (Nat.le_of_ble_eq_true rfl)⟩ rfl (Nat.le_of_ble_eq_true rfl) dX7_test_15 ⟨(Nat.le_of_ble_eq_true rfl), (Nat.le_of_ble_eq_true rfl)⟩) (fun H locs hF4 _ => ?_)
  refine fl_bipush C0 dX7_test_18 (by decide) ?_
  refine fl_icmp_lt (tgt := 33) C0 (hF4.rI _ _) (rgk 12 rfl) dX7_test_20 (by decide) (fun c5 => ?_) (fun c5 => ?_)
  · replace hf := hf.1 c5
    refine lv_aload_n C0.1 C0.2.1 dX7_test_33 rfl (lv_at hl 1 rfl) ?_
    refine lv_aload_n C0.1 C0.2.1 dX7_test_34 rfl (lv_at hl 0 rfl) ?_
    have k6 : K (P r1 2) = 4 := (wt_at (k := 2) (t := 4) hWT kr1 rfl)
    refine fl_getrN (k := 2) (t := 4) ck_3 C0 hF4 kr1 rfl k6 rfl ⟨rfl, rfl⟩ aw_589 dX7_test_35 ?_
    refine lv_aload_n C0.1 C0.2.1 dX7_test_38 rfl (lv_at hl 1 rfl) ?_
    have k7 : K (P a0 1) = 5 := (wt_at (k := 1) (t := 5) hWT ka0 rfl)
    refine fl_getr (k := 1) (t := 5) ck_8 C0 hF4 ka0 rfl k7 rfl ⟨rfl, rfl⟩ aw_191 dX7_test_39 ?_
    obtain ⟨r8, I8, hq8, hf⟩ := hf
    refine fl_ri hF4 (fl_runV (As := [.ref (P r1 2), .ref (P a0 1)]) (rest := []) C0 hF4 hl.1 ck_8 ka0 rfl (c_X7_findsAnswer l D cy B L K P J hWT I2 a0 ((P r1 2)) ((P a0 1)) ka0 k6 k7 hq8) aw_678 aw_680 aw_38 aw_45 aw_681 rfl rfl pm_X7_findsAnswer rfl rfl ⟨(Nat.le_of_ble_eq_true rfl), (Nat.le_of_ble_eq_true rfl)⟩ rfl (Nat.le_of_ble_eq_true rfl) dX7_test_42 ⟨(Nat.le_of_ble_eq_true rfl), (Nat.le_of_ble_eq_true rfl)⟩) (fun H locs hF8 rr8 => ?_)
    refine fl_if_ne (tgt := 58) C0 rr8 dX7_test_45 (by decide) (fun c9 => ?_) (fun c9 => ?_)
    · replace hf := hf.2 c9
      refine lv_aload_n C0.1 C0.2.1 dX7_test_58 rfl (lv_at hl 0 rfl) ?_
      refine fl_new ck_7 dv_7 C0 hF8 (co := 27) rfl aw_372 aw_683 aw_66 (Nat.le_of_ble_eq_true rfl) (Nat.le_of_ble_eq_true rfl) dX7_test_59 (fun q10 H hq10 hF10 => ?_)
      have hF10 : FS D cy B (L ++ [q10]) (va_up K q10 27) (clrN P q10) J s.heap (clr I8 q10) H _ := hF10
      have h1q10 : 1 < q10 := hF10.ne0 (by rw [va_up_self]; decide)
      have n11 := nn hF8 hq10 ka0 rfl
      have k11 := kn (t := 27) hF8 hq10 ka0 rfl
      have n12 := nn hF8 hq10 kr1 rfl
      have k12 := kn (t := 27) hF8 hq10 kr1 rfl
      have z10 := ek0 hE hF8 hq10
      have hWT10 := wn (t := 27) hF8 hq10 hWT (fun k => tt_arr 27 (by decide) k)
      have hE10 := EK.tr hE (ekq (s := s) (t := 27) hF8 hq10)
      have kq10 : va_up K q10 27 q10 = 27 := va_up_self _ _ _
      obtain ⟨L10, K10, P10, I10, eL10, eK10, eP10, eI10, hf⟩ := nwP_f hf hq10 (by omega)
      rw [eL10, eK10, eP10, eI10] at hF10
      rw [eK10] at k11 k12 kq10
      rw [eK10, eP10] at hWT10
      rw [eK10] at hE10
      refine lv_dup C0.1 C0.2.1 dX7_test_62 rfl ?_
      refine lv_aload_n C0.1 C0.2.1 dX7_test_63 rfl (lv_at hl 1 rfl) ?_
      have k13 : K10 (P10 a0 1) = 5 := (wt_at (k := 1) (t := 5) hWT10 k11 rfl)
      refine fl_getr (k := 1) (t := 5) ck_8 C0 hF10 k11 rfl k13 rfl ⟨rfl, rfl⟩ aw_191 dX7_test_64 ?_
      refine lv_aload_n C0.1 C0.2.1 dX7_test_67 rfl (lv_at hl 1 rfl) ?_
      have k14 : K10 (P10 a0 2) = 2 := (wt_at (k := 2) (t := 2) hWT10 k11 rfl)
      refine fl_getr (k := 2) (t := 2) ck_8 C0 hF10 k11 rfl k14 rfl ⟨rfl, rfl⟩ aw_192 dX7_test_68 ?_
      have k15 : K10 (P10 ((P10 a0 2)) 1) = 5 := (wt_at (k := 1) (t := 5) hWT10 k14 rfl)
      refine fl_getrN (k := 1) (t := 5) ck_2 C0 hF10 k14 rfl k15 rfl ⟨rfl, rfl⟩ aw_122 dX7_test_71 ?_
      refine lv_iload_n C0.1 C0.2.1 dX7_test_74 rfl (lv_at hl 3 rfl) ?_
      refine fl_avc hF10 (fl_runIN (As := [.ref (P10 a0 1), .ref (P10 ((P10 a0 2)) 1), iv x2]) (rest := [.ref q10, .ref r1]) C0 hF10 hl.1 (a_X6_init l D cy B L10 K10 P10 J I10 hWT10 q10 ((P10 a0 1)) ((P10 ((P10 a0 2)) 1)) x2 kq10 k13 k15 rx2 _ hf) aw_684 aw_685 aw_66 aw_686 rfl rfl pm_X6_init rfl rfl ⟨(Nat.le_of_ble_eq_true rfl), (Nat.le_of_ble_eq_true rfl)⟩ rfl (Nat.le_of_ble_eq_true rfl) dX7_test_75 ⟨(Nat.le_of_ble_eq_true rfl), (Nat.le_of_ble_eq_true rfl)⟩) (fun L16 K16 P16 I16 H locs hF16 hf hWT16 hX16 kq16 => ?_)
      have k17 := kx hX16 k11 rfl n11
      have k18 := kx hX16 k12 rfl n12
      have hE16 := ekc hE10 hX16 z10
      refine fl_avm hF16 (fl_runN (As := [.ref q10]) (rest := []) C0 hF16 hl.1 ck_3 k18 rfl (a_X2_addTrial l D cy B L16 K16 P16 J I16 hWT16 r1 q10 k18 kq16 _ hf) aw_708 aw_710 aw_40 aw_58 aw_711 rfl pm_X2_addTrial rfl rfl ⟨(Nat.le_of_ble_eq_true rfl), (Nat.le_of_ble_eq_true rfl)⟩ rfl (Nat.le_of_ble_eq_true rfl) dX7_test_78 ⟨(Nat.le_of_ble_eq_true rfl), (Nat.le_of_ble_eq_true rfl)⟩) (fun L19 K19 P19 I19 H locs hF19 hf hWT19 hX19 => ?_)
      have k20 := (hX19 _ (by rw [k17]; decide)).trans k17
      have k21 := (hX19 _ (by rw [k18]; decide)).trans k18
      have hE19 := EK.tr hE16 hX19
      refine lv_aload_n C0.1 C0.2.1 dX7_test_81 rfl (lv_at hl 1 rfl) ?_
      have k22 : K19 (P19 a0 1) = 5 := (wt_at (k := 1) (t := 5) hWT19 k20 rfl)
      refine fl_getr (k := 1) (t := 5) ck_8 C0 hF19 k20 rfl k22 rfl ⟨rfl, rfl⟩ aw_191 dX7_test_82 ?_
      refine fl_iconst C0 dX7_test_85 ?_
      refine fl_putiN (k := 1) ck_5 C0 hF19 k22 rfl (rgk 0 rfl) ⟨rfl, rfl, rfl⟩ aw_106 dX7_test_86 (fun H locs hF23 => ?_)
      obtain ⟨I23, eI23, hf⟩ := bndP_f hf
      rw [eI23] at hF23
      refine lv_aload_n C0.1 C0.2.1 dX7_test_89 rfl (lv_at hl 0 rfl) ?_
      have k24 : K19 (P19 r1 3) = 12 := (wt_at (k := 3) (t := 12) hWT19 k21 rfl)
      refine fl_getrN (k := 3) (t := 12) ck_3 C0 hF23 k21 rfl k24 rfl ⟨rfl, rfl⟩ aw_591 dX7_test_90 ?_
      refine fl_ri hF23 (fl_runV (As := []) (rest := []) C0 hF23 hl.1 ck_0 k24 rfl (c_size l D cy B L19 K19 P19 J I23 ((P19 r1 3)) 12 k24 rfl) aw_344 aw_345 aw_346 aw_51 aw_347 rfl rfl pm_size rfl rfl ⟨(Nat.le_of_ble_eq_true rfl), (Nat.le_of_ble_eq_true rfl)⟩ rfl (Nat.le_of_ble_eq_true rfl) dX7_test_93 ⟨(Nat.le_of_ble_eq_true rfl), (Nat.le_of_ble_eq_true rfl)⟩) (fun H locs hF25 _ => ?_)
      refine fl_iconst C0 dX7_test_96 ?_
      refine fl_isub C0 dX7_test_97 ?_
      exact vx_ret (fl_iretM (post := post 0) C0 hF25 hr (rg_wr _) hf hWT19 hE19 dX7_test_98 (Nat.le_of_ble_eq_true rfl) (Nat.le_of_ble_eq_true rfl))
    · replace hf := hf.1 c9
      exact fl_throwA (k := 2) C0 hF8 hst hx0 hl.1 ex_2 (by decide) (List.mem_of_getElem? (i := 6) rfl) hf hWT hE dX7_test_48 dX7_test_51 dX7_test_52 dX7_test_54 dX7_test_57 (Nat.le_of_ble_eq_true rfl) (Nat.le_of_ble_eq_true rfl) (Nat.le_of_ble_eq_true rfl) (Nat.le_of_ble_eq_true rfl) (Nat.le_of_ble_eq_true rfl) (Nat.le_of_ble_eq_true rfl)
  · replace hf := hf.2 c5
    exact fl_throwA (k := 2) C0 hF4 hst hx0 hl.1 ex_2 (by decide) (List.mem_of_getElem? (i := 5) rfl) hf hWT hE dX7_test_23 dX7_test_26 dX7_test_27 dX7_test_29 dX7_test_32 (Nat.le_of_ble_eq_true rfl) (Nat.le_of_ble_eq_true rfl) (Nat.le_of_ble_eq_true rfl) (Nat.le_of_ble_eq_true rfl) (Nat.le_of_ble_eq_true rfl) (Nat.le_of_ble_eq_true rfl)
-- RejudgeHall.enter(II)I
abbrev rm_X7_enter : Room := { frames := 8, cells := 7, slots := 2055, locals := 201 }
def w_X7_enter (L : List Nat) (K : KT) (P : PT) (I : IT) (a0 : Nat) (x1 : Int) (x2 : Int) (post : Nat → Int → PO) : Prop := bxP (f_X7_needIndex K P I x1 8) (fun c1 I1 => post c1 0 L K P I1) fun _ I1 => bxP (f_X7_problemAt K P I1 a0 x2) (fun c2 I2 => post c2 0 L K P I2) fun r2 I2 => ckP (K r2 = 3) <| ((I2 ((P a0 4)) 2) < 60 → (nwP L K P I2 21 fun q6 L6 K6 P6 I6 => w_X0_init L6 K6 P6 I6 q6 x1 r2 ((I6 a0 10)) fun L9 K9 P9 I9 => bpP (f_X3_takeFrom K9 P9 I9 ((P9 q6 3)) ((P9 a0 0))) fun I14 => addW L9 K9 P9 I14 ((P9 a0 4)) 1 q6 fun L16 K16 P16 I16 => post 0 (wr ((I16 ((P16 a0 4)) 2) - 1)) L16 K16 P16 I16)) ∧ (¬ ((I2 ((P a0 4)) 2) < 60) → (post 2 0 L K P I2))
theorem pm_X7_enter : plainM yX7_enter 2 := by decide +kernel
set_option maxRecDepth 100000 in
set_option maxHeartbeats 8000000 in
theorem a_X7_enter (l : Launch) (hst : l.stackTraces = false) (D : va_G) (cy : Nat → ClassId) (B : Nat) (L : List Nat) (K : KT) (P : PT) (J : IT) (I : IT) (hWT : WT K P) (a0 : Nat) (x1 : Int) (x2 : Int) (ka0 : K a0 = 8) (rx1 : rg x1) (rx2 : rg x2) (post : Nat → Int → PO) (hf : w_X7_enter L K P I a0 x1 x2 post) : vx_Met l yX7_enter [.code yX7_enter cX7_enter 5 (some .int)] rm_X7_enter (va_Pc [.ref a0, iv x1, iv x2] (FW D cy B L K P J I)) (AIm D cy B J K (post 0)) (AXm D cy B J K (fun c => post c 0)) 7 2055 (fun q => B ≤ q) := by
  refine fl_bodyX (own := "RejudgeHall") [.ref a0, iv x1, iv x2] (by decide) rfl (Nat.le_of_ble_eq_true rfl) ?_
  intro p e s m args below meth c ls C0 hr hx0 hF hl
  have hl : lv_has ls 5 [(0, .ref a0), (1, iv x1), (2, iv x2)] := hl
  have hE : EK K K := EK.rf
  unfold w_X7_enter at hf
  refine lv_iload_n C0.1 C0.2.1 dX7_enter_0 rfl (lv_at hl 1 rfl) ?_
  refine fl_bipush C0 dX7_enter_1 (by decide) ?_
  obtain ⟨co1, r1, I1, hq1, hg, hf⟩ := hf
  refine fl_xv hF (fl_runSX (As := [iv x1, iv 8]) (rest := []) C0 hF hl.1 (c_X7_needIndex l hst D cy B L K P J hWT I x1 8 rx1 (rgk 8 rfl) hq1) aw_449 aw_450 aw_45 aw_451 rfl pm_X7_needIndex rfl rfl ⟨(Nat.le_of_ble_eq_true rfl), (Nat.le_of_ble_eq_true rfl)⟩ rfl (Nat.le_of_ble_eq_true rfl) dX7_enter_3 ⟨(Nat.le_of_ble_eq_true rfl), (Nat.le_of_ble_eq_true rfl)⟩) (fun c1 H locs hF1 => ?_) (fun c1 H locs q ce hF1 e1 e2 e3 => fl_propA C0 hF1 hx0 c1 e1 e2 e3 (hg c1) hWT hE (Nat.le_of_ble_eq_true rfl) (Nat.le_of_ble_eq_true rfl))
  replace hf := hf c1
  refine lv_aload_n C0.1 C0.2.1 dX7_enter_6 rfl (lv_at hl 0 rfl) ?_
  refine lv_iload_n C0.1 C0.2.1 dX7_enter_7 rfl (lv_at hl 2 rfl) ?_
  obtain ⟨co2, r2, I2, hq2, hg, hf⟩ := hf
  refine fl_xr hF1 (fl_runVX (As := [iv x2]) (rest := []) C0 hF1 hl.1 ck_8 ka0 rfl (c_X7_problemAt l hst D cy B L K P J hWT I1 a0 x2 ka0 rx2 hq2) aw_445 aw_447 aw_20 aw_45 aw_448 rfl rfl pm_X7_problemAt rfl rfl ⟨(Nat.le_of_ble_eq_true rfl), (Nat.le_of_ble_eq_true rfl)⟩ rfl (Nat.le_of_ble_eq_true rfl) dX7_enter_8 ⟨(Nat.le_of_ble_eq_true rfl), (Nat.le_of_ble_eq_true rfl)⟩) (fun c2 H locs hF2 => ?_) (fun c2 H locs q ce hF2 e1 e2 e3 => fl_propA C0 hF2 hx0 c2 e1 e2 e3 (hg c2) hWT hE (Nat.le_of_ble_eq_true rfl) (Nat.le_of_ble_eq_true rfl))
  replace hf := hf c2
  obtain ⟨kr2, hf⟩ := hf
  refine lv_astore_n (lv' := [(3, .ref r2), (0, .ref a0), (1, iv x1), (2, iv x2)]) C0.1 C0.2.1 dX7_enter_11 rfl hl (by decide) rfl (fun ls hl => ?_)
  refine lv_aload_n C0.1 C0.2.1 dX7_enter_12 rfl (lv_at hl 1 rfl) ?_
  have k3 : K (P a0 4) = 11 := (wt_at (k := 4) (t := 11) hWT ka0 rfl)
  refine fl_getr (k := 4) (t := 11) ck_8 C0 hF2 ka0 rfl k3 rfl ⟨rfl, rfl⟩ aw_194 dX7_enter_13 ?_
  refine fl_ri hF2 (fl_runV (As := []) (rest := []) C0 hF2 hl.1 ck_0 k3 rfl (c_size l D cy B L K P J I2 ((P a0 4)) 11 k3 rfl) aw_344 aw_345 aw_346 aw_51 aw_347 rfl rfl pm_size rfl rfl ⟨(Nat.le_of_ble_eq_true rfl), (Nat.le_of_ble_eq_true rfl)⟩ rfl (Nat.le_of_ble_eq_true rfl) dX7_enter_16 ⟨(Nat.le_of_ble_eq_true rfl), (Nat.le_of_ble_eq_true rfl)⟩) (fun H locs hF4 _ => ?_)
  refine fl_bipush C0 dX7_enter_19 (by decide) ?_
  refine fl_icmp_lt (tgt := 34) C0 (hF4.rI _ _) (rgk 60 rfl) dX7_enter_21 (by decide) (fun c5 => ?_) (fun c5 => ?_)
  · replace hf := hf.1 c5
    refine fl_new ck_1 dv_1 C0 hF4 (co := 21) rfl aw_362 aw_366 aw_67 (Nat.le_of_ble_eq_true rfl) (Nat.le_of_ble_eq_true rfl) dX7_enter_34 (fun q6 H hq6 hF6 => ?_)
    have hF6 : FS D cy B (L ++ [q6]) (va_up K q6 21) (clrN P q6) J s.heap (clr I2 q6) H _ := hF6
    have h1q6 : 1 < q6 := hF6.ne0 (by rw [va_up_self]; decide)
    have n7 := nn hF4 hq6 ka0 rfl
    have k7 := kn (t := 21) hF4 hq6 ka0 rfl
    have n8 := nn hF4 hq6 kr2 rfl
    have k8 := kn (t := 21) hF4 hq6 kr2 rfl
    have z6 := ek0 hE hF4 hq6
    have hWT6 := wn (t := 21) hF4 hq6 hWT (fun k => tt_arr 21 (by decide) k)
    have hE6 := EK.tr hE (ekq (s := s) (t := 21) hF4 hq6)
    have kq6 : va_up K q6 21 q6 = 21 := va_up_self _ _ _
    obtain ⟨L6, K6, P6, I6, eL6, eK6, eP6, eI6, hf⟩ := nwP_f hf hq6 (by omega)
    rw [eL6, eK6, eP6, eI6] at hF6
    rw [eK6] at k7 k8 kq6
    rw [eK6, eP6] at hWT6
    rw [eK6] at hE6
    refine lv_dup C0.1 C0.2.1 dX7_enter_37 rfl ?_
    refine lv_iload_n C0.1 C0.2.1 dX7_enter_38 rfl (lv_at hl 2 rfl) ?_
    refine lv_aload_n C0.1 C0.2.1 dX7_enter_39 rfl (lv_at hl 0 rfl) ?_
    refine lv_aload_n C0.1 C0.2.1 dX7_enter_40 rfl (lv_at hl 1 rfl) ?_
    refine fl_geti (k := 10) ck_8 C0 hF6 k7 rfl ⟨rfl, rfl⟩ aw_200 dX7_enter_41 ?_
    refine fl_avc hF6 (fl_runIN (As := [iv x1, .ref r2, iv (I6 a0 10)]) (rest := [.ref q6]) C0 hF6 hl.1 (a_X0_init l D cy B L6 K6 P6 J I6 hWT6 q6 x1 r2 ((I6 a0 10)) kq6 rx1 k8 (hF6.rI _ _) _ hf) aw_741 aw_742 aw_67 aw_743 rfl rfl pm_X0_init rfl rfl ⟨(Nat.le_of_ble_eq_true rfl), (Nat.le_of_ble_eq_true rfl)⟩ rfl (Nat.le_of_ble_eq_true rfl) dX7_enter_44 ⟨(Nat.le_of_ble_eq_true rfl), (Nat.le_of_ble_eq_true rfl)⟩) (fun L9 K9 P9 I9 H locs hF9 hf hWT9 hX9 kq9 => ?_)
    have k10 := kx hX9 k7 rfl n7
    have k11 := kx hX9 k8 rfl n8
    have hE9 := ekc hE6 hX9 z6
    refine lv_astore (lv' := [(4, .ref q6), (3, .ref r2), (0, .ref a0), (1, iv x1), (2, iv x2)]) C0.1 C0.2.1 dX7_enter_47 hl (by decide) rfl (fun ls hl => ?_)
    refine lv_aload C0.1 C0.2.1 dX7_enter_49 (lv_at hl 0 rfl) ?_
    have k12 : K9 (P9 q6 3) = 4 := (wt_at (k := 3) (t := 4) hWT9 kq9 rfl)
    refine fl_getrN (k := 3) (t := 4) ck_1 C0 hF9 kq9 rfl k12 rfl ⟨rfl, rfl⟩ aw_757 dX7_enter_51 ?_
    refine lv_aload_n C0.1 C0.2.1 dX7_enter_54 rfl (lv_at hl 2 rfl) ?_
    have k13 : K9 (P9 a0 0) = 4 := (wt_at (k := 0) (t := 4) hWT9 k10 rfl)
    refine fl_getr (k := 0) (t := 4) ck_8 C0 hF9 k10 rfl k13 rfl ⟨rfl, rfl⟩ aw_190 dX7_enter_55 ?_
    obtain ⟨I14, hq14, hf⟩ := hf
    refine fl_rv hF9 (fl_runN (As := [.ref (P9 a0 0)]) (rest := []) C0 hF9 hl.1 ck_4 k12 rfl (c_X3_takeFrom l D cy B L9 K9 P9 J hWT9 I9 ((P9 q6 3)) ((P9 a0 0)) k12 k13 hq14) aw_613 aw_615 aw_34 aw_46 aw_616 rfl pm_X3_takeFrom rfl rfl ⟨(Nat.le_of_ble_eq_true rfl), (Nat.le_of_ble_eq_true rfl)⟩ rfl (Nat.le_of_ble_eq_true rfl) dX7_enter_58 ⟨(Nat.le_of_ble_eq_true rfl), (Nat.le_of_ble_eq_true rfl)⟩) (fun H locs hF14 => ?_)
    refine lv_aload_n C0.1 C0.2.1 dX7_enter_61 rfl (lv_at hl 2 rfl) ?_
    have k15 : K9 (P9 a0 4) = 11 := (wt_at (k := 4) (t := 11) hWT9 k10 rfl)
    refine fl_getr (k := 4) (t := 11) ck_8 C0 hF14 k10 rfl k15 rfl ⟨rfl, rfl⟩ aw_194 dX7_enter_62 ?_
    refine lv_aload C0.1 C0.2.1 dX7_enter_65 (lv_at hl 0 rfl) ?_
    refine fl_aim hF14 (fl_runV (As := [.ref q6]) (rest := []) C0 hF14 hl.1 ck_0 k15 rfl (c_add l D cy B L9 K9 P9 J I14 hWT9 ((P9 a0 4)) 11 q6 1 1 _ _ _ el_1 k15 rfl (by decide) kq9 _ hf) aw_620 aw_621 aw_622 aw_51 aw_623 rfl rfl pm_add rfl rfl ⟨(Nat.le_of_ble_eq_true rfl), (Nat.le_of_ble_eq_true rfl)⟩ rfl (Nat.le_of_ble_eq_true rfl) dX7_enter_67 ⟨(Nat.le_of_ble_eq_true rfl), (Nat.le_of_ble_eq_true rfl)⟩) (fun r16 L16 K16 P16 I16 H locs hF16 rr16 hf hWT16 hX16 => ?_)
    have k17 := (hX16 _ (by rw [k10]; decide)).trans k10
    have k18 := (hX16 _ (by rw [k11]; decide)).trans k11
    have k19 := (hX16 _ (by rw [kq9]; decide)).trans kq9
    have hE16 := EK.tr hE9 hX16
    refine lv_pop C0.1 C0.2.1 dX7_enter_70 rfl ?_
    refine lv_aload_n C0.1 C0.2.1 dX7_enter_71 rfl (lv_at hl 2 rfl) ?_
    have k20 : K16 (P16 a0 4) = 11 := (wt_at (k := 4) (t := 11) hWT16 k17 rfl)
    refine fl_getr (k := 4) (t := 11) ck_8 C0 hF16 k17 rfl k20 rfl ⟨rfl, rfl⟩ aw_194 dX7_enter_72 ?_
    refine fl_ri hF16 (fl_runV (As := []) (rest := []) C0 hF16 hl.1 ck_0 k20 rfl (c_size l D cy B L16 K16 P16 J I16 ((P16 a0 4)) 11 k20 rfl) aw_344 aw_345 aw_346 aw_51 aw_347 rfl rfl pm_size rfl rfl ⟨(Nat.le_of_ble_eq_true rfl), (Nat.le_of_ble_eq_true rfl)⟩ rfl (Nat.le_of_ble_eq_true rfl) dX7_enter_75 ⟨(Nat.le_of_ble_eq_true rfl), (Nat.le_of_ble_eq_true rfl)⟩) (fun H locs hF21 _ => ?_)
    refine fl_iconst C0 dX7_enter_78 ?_
    refine fl_isub C0 dX7_enter_79 ?_
    exact vx_ret (fl_iretM (post := post 0) C0 hF21 hr (rg_wr _) hf hWT16 hE16 dX7_enter_80 (Nat.le_of_ble_eq_true rfl) (Nat.le_of_ble_eq_true rfl))
  · replace hf := hf.2 c5
    exact fl_throwA (k := 2) C0 hF4 hst hx0 hl.1 ex_2 (by decide) (List.mem_of_getElem? (i := 9) rfl) hf hWT hE dX7_enter_24 dX7_enter_27 dX7_enter_28 dX7_enter_30 dX7_enter_33 (Nat.le_of_ble_eq_true rfl) (Nat.le_of_ble_eq_true rfl) (Nat.le_of_ble_eq_true rfl) (Nat.le_of_ble_eq_true rfl) (Nat.le_of_ble_eq_true rfl) (Nat.le_of_ble_eq_true rfl)
-- RejudgeHall.hack(II)Z
abbrev rm_X7_hack : Room := { frames := 8, cells := 8, slots := 2035, locals := 222 }
def w_X7_hack (L : List Nat) (K : KT) (P : PT) (I : IT) (a0 : Nat) (x1 : Int) (x2 : Int) (post : Nat → Int → PO) : Prop := bxP (f_X7_needIndex K P I x1 8) (fun c1 I1 => post c1 0 L K P I1) fun _ I1 => bxP (f_X7_entryAt K P I1 a0 x2) (fun c2 I2 => post c2 0 L K P I2) fun r2 I2 => ckP (K r2 = 1) <| bpP (f_X7_hasSolved K P I2 a0 x1 ((P r2 1))) fun r4 => (r4 = 0 → (post 2 0 L K P I2)) ∧ (¬ (r4 = 0) → (((I2 r2 0) = x1 → (post 2 0 L K P I2)) ∧ (¬ ((I2 r2 0) = x1) → (((I2 r2 4) = 0 → ((12 ≤ (I2 ((P ((P r2 1)) 3)) 2) → (post 2 0 L K P I2)) ∧ (¬ (12 ≤ (I2 ((P ((P r2 1)) 3)) 2)) → (biP (f_X7_findsAnswer K P I2 a0 ((P ((P r2 1)) 2)) ((P a0 1))) fun r13 I13 => (r13 = 0 → (post 2 0 L K P I13)) ∧ (¬ (r13 = 0) → (nwP L K P I13 27 fun q15 L15 K15 P15 I15 => w_X6_init L15 K15 P15 I15 q15 ((P15 a0 1)) ((P15 ((P15 a0 2)) 1)) 3 fun L22 K22 P22 I22 => bndP (up I22 ((P22 a0 1)) 1 0) fun I27 => biP (f_X7_tryOut K22 P22 I27 a0 r2 q15) fun r28 I28 => (r28 = 0 → (ckP (0 ≤ x1 ∧ x1 < 8) <| ckP (0 ≤ x1 ∧ x1 < 8) <| bndP (up I28 ((P22 a0 7)) (x1 : Int).toNat (wr ((I28 ((P22 a0 7)) (x1 : Int).toNat) - 1))) fun I39 => post 0 0 L22 K22 P22 I39)) ∧ (¬ (r28 = 0) → (w_X2_addTrial L22 K22 P22 I28 ((P r2 1)) q15 fun L30 K30 P30 I30 => bpP (f_X7_giveVerdict K30 P30 I30 a0 r2) fun I35 => ckP (0 ≤ x1 ∧ x1 < 8) <| ckP (0 ≤ x1 ∧ x1 < 8) <| bndP (up I35 ((P30 a0 7)) (x1 : Int).toNat (wr ((I35 ((P30 a0 7)) (x1 : Int).toNat) + 1))) fun I37 => post 0 1 L30 K30 P30 I37)))))))) ∧ (¬ ((I2 r2 4) = 0) → (post 2 0 L K P I2))))))
theorem pm_X7_hack : plainM yX7_hack 2 := by decide +kernel
set_option maxRecDepth 100000 in
set_option maxHeartbeats 8000000 in
theorem a_X7_hack (l : Launch) (hst : l.stackTraces = false) (D : va_G) (cy : Nat → ClassId) (B : Nat) (L : List Nat) (K : KT) (P : PT) (J : IT) (I : IT) (hWT : WT K P) (a0 : Nat) (x1 : Int) (x2 : Int) (ka0 : K a0 = 8) (rx1 : rg x1) (rx2 : rg x2) (post : Nat → Int → PO) (hf : w_X7_hack L K P I a0 x1 x2 post) : vx_Met l yX7_hack [.code yX7_hack cX7_hack 6 (some .boolean)] rm_X7_hack (va_Pc [.ref a0, iv x1, iv x2] (FW D cy B L K P J I)) (AIm D cy B J K (post 0)) (AXm D cy B J K (fun c => post c 0)) 8 2035 (fun q => B ≤ q) := by
  refine fl_bodyX (own := "RejudgeHall") [.ref a0, iv x1, iv x2] (by decide) rfl (Nat.le_of_ble_eq_true rfl) ?_
  intro p e s m args below meth c ls C0 hr hx0 hF hl
  have hl : lv_has ls 6 [(0, .ref a0), (1, iv x1), (2, iv x2)] := hl
  have hE : EK K K := EK.rf
  unfold w_X7_hack at hf
  refine lv_iload_n C0.1 C0.2.1 dX7_hack_0 rfl (lv_at hl 1 rfl) ?_
  refine fl_bipush C0 dX7_hack_1 (by decide) ?_
  obtain ⟨co1, r1, I1, hq1, hg, hf⟩ := hf
  refine fl_xv hF (fl_runSX (As := [iv x1, iv 8]) (rest := []) C0 hF hl.1 (c_X7_needIndex l hst D cy B L K P J hWT I x1 8 rx1 (rgk 8 rfl) hq1) aw_449 aw_450 aw_45 aw_451 rfl pm_X7_needIndex rfl rfl ⟨(Nat.le_of_ble_eq_true rfl), (Nat.le_of_ble_eq_true rfl)⟩ rfl (Nat.le_of_ble_eq_true rfl) dX7_hack_3 ⟨(Nat.le_of_ble_eq_true rfl), (Nat.le_of_ble_eq_true rfl)⟩) (fun c1 H locs hF1 => ?_) (fun c1 H locs q ce hF1 e1 e2 e3 => fl_propA C0 hF1 hx0 c1 e1 e2 e3 (hg c1) hWT hE (Nat.le_of_ble_eq_true rfl) (Nat.le_of_ble_eq_true rfl))
  replace hf := hf c1
  refine lv_aload_n C0.1 C0.2.1 dX7_hack_6 rfl (lv_at hl 0 rfl) ?_
  refine lv_iload_n C0.1 C0.2.1 dX7_hack_7 rfl (lv_at hl 2 rfl) ?_
  obtain ⟨co2, r2, I2, hq2, hg, hf⟩ := hf
  refine fl_xr hF1 (fl_runVX (As := [iv x2]) (rest := []) C0 hF1 hl.1 ck_8 ka0 rfl (c_X7_entryAt l hst D cy B L K P J hWT I1 a0 x2 ka0 rx2 hq2) aw_477 aw_479 aw_22 aw_45 aw_480 rfl rfl pm_X7_entryAt rfl rfl ⟨(Nat.le_of_ble_eq_true rfl), (Nat.le_of_ble_eq_true rfl)⟩ rfl (Nat.le_of_ble_eq_true rfl) dX7_hack_8 ⟨(Nat.le_of_ble_eq_true rfl), (Nat.le_of_ble_eq_true rfl)⟩) (fun c2 H locs hF2 => ?_) (fun c2 H locs q ce hF2 e1 e2 e3 => fl_propA C0 hF2 hx0 c2 e1 e2 e3 (hg c2) hWT hE (Nat.le_of_ble_eq_true rfl) (Nat.le_of_ble_eq_true rfl))
  replace hf := hf c2
  obtain ⟨kr2, hf⟩ := hf
  refine lv_astore_n (lv' := [(3, .ref r2), (0, .ref a0), (1, iv x1), (2, iv x2)]) C0.1 C0.2.1 dX7_hack_11 rfl hl (by decide) rfl (fun ls hl => ?_)
  refine lv_aload_n C0.1 C0.2.1 dX7_hack_12 rfl (lv_at hl 0 rfl) ?_
  have k3 : K (P r2 1) = 3 := (wt_at (k := 1) (t := 3) hWT kr2 rfl)
  refine fl_getrN (k := 1) (t := 3) ck_1 C0 hF2 kr2 rfl k3 rfl ⟨rfl, rfl⟩ aw_752 dX7_hack_13 ?_
  refine lv_astore (lv' := [(4, .ref (P r2 1)), (3, .ref r2), (0, .ref a0), (1, iv x1), (2, iv x2)]) C0.1 C0.2.1 dX7_hack_16 hl (by decide) rfl (fun ls hl => ?_)
  refine lv_aload_n C0.1 C0.2.1 dX7_hack_18 rfl (lv_at hl 2 rfl) ?_
  refine lv_iload_n C0.1 C0.2.1 dX7_hack_19 rfl (lv_at hl 3 rfl) ?_
  refine lv_aload C0.1 C0.2.1 dX7_hack_20 (lv_at hl 0 rfl) ?_
  obtain ⟨r4, hq4, hf⟩ := hf
  refine fl_ri hF2 (fl_runV (As := [iv x1, .ref (P r2 1)]) (rest := []) C0 hF2 hl.1 ck_8 ka0 rfl (c_X7_hasSolved l D cy B L K P J hWT I2 a0 x1 ((P r2 1)) ka0 rx1 k3 hq4) aw_794 aw_796 aw_43 aw_45 aw_797 rfl rfl pm_X7_hasSolved rfl rfl ⟨(Nat.le_of_ble_eq_true rfl), (Nat.le_of_ble_eq_true rfl)⟩ rfl (Nat.le_of_ble_eq_true rfl) dX7_hack_22 ⟨(Nat.le_of_ble_eq_true rfl), (Nat.le_of_ble_eq_true rfl)⟩) (fun H locs hF4 rr4 => ?_)
  refine fl_if_ne (tgt := 39) C0 rr4 dX7_hack_25 (by decide) (fun c5 => ?_) (fun c5 => ?_)
  · replace hf := hf.2 c5
    refine lv_aload_n C0.1 C0.2.1 dX7_hack_39 rfl (lv_at hl 1 rfl) ?_
    refine fl_getiN (k := 0) ck_1 C0 hF4 kr2 rfl ⟨rfl, rfl⟩ aw_749 dX7_hack_40 ?_
    refine lv_iload_n C0.1 C0.2.1 dX7_hack_43 rfl (lv_at hl 3 rfl) ?_
    refine fl_icmp_eq (tgt := 54) C0 (hF4.rI _ _) rx1 dX7_hack_44 (by decide) (fun c6 => ?_) (fun c6 => ?_)
    · replace hf := hf.1 c6
      exact fl_throwAW (k := 2) C0 hF4 hst hx0 hl.1 ex_2 (by decide) (List.mem_of_getElem? (i := 12) rfl) hf hWT hE dX7_hack_54 dX7_hack_57 dX7_hack_58 dX7_hack_61 dX7_hack_64 (Nat.le_of_ble_eq_true rfl) (Nat.le_of_ble_eq_true rfl) (Nat.le_of_ble_eq_true rfl) (Nat.le_of_ble_eq_true rfl) (Nat.le_of_ble_eq_true rfl) (Nat.le_of_ble_eq_true rfl)
    · replace hf := hf.2 c6
      refine lv_aload_n C0.1 C0.2.1 dX7_hack_47 rfl (lv_at hl 1 rfl) ?_
      refine fl_getiN (k := 4) ck_1 C0 hF4 kr2 rfl ⟨rfl, rfl⟩ aw_759 dX7_hack_48 ?_
      refine fl_if_eq (tgt := 65) C0 (hF4.rI _ _) dX7_hack_51 (by decide) (fun c7 => ?_) (fun c7 => ?_)
      · replace hf := hf.1 c7
        refine lv_aload C0.1 C0.2.1 dX7_hack_65 (lv_at hl 0 rfl) ?_
        have k8 : K (P ((P r2 1)) 3) = 12 := (wt_at (k := 3) (t := 12) hWT k3 rfl)
        refine fl_getrN (k := 3) (t := 12) ck_3 C0 hF4 k3 rfl k8 rfl ⟨rfl, rfl⟩ aw_591 dX7_hack_67 ?_
        refine fl_ri hF4 (fl_runV (As := []) (rest := []) C0 hF4 hl.1 ck_0 k8 rfl (c_size l D cy B L K P J I2 ((P ((P r2 1)) 3)) 12 k8 rfl) aw_344 aw_345 aw_346 aw_51 aw_347 rfl rfl pm_size rfl rfl ⟨(Nat.le_of_ble_eq_true rfl), (Nat.le_of_ble_eq_true rfl)⟩ rfl (Nat.le_of_ble_eq_true rfl) dX7_hack_70 ⟨(Nat.le_of_ble_eq_true rfl), (Nat.le_of_ble_eq_true rfl)⟩) (fun H locs hF9 _ => ?_)
        refine fl_bipush C0 dX7_hack_73 (by decide) ?_
        refine fl_icmp_ge (tgt := 94) C0 (hF9.rI _ _) (rgk 12 rfl) dX7_hack_75 (by decide) (fun c10 => ?_) (fun c10 => ?_)
        · replace hf := hf.1 c10
          exact fl_throwAW (k := 2) C0 hF9 hst hx0 hl.1 ex_2 (by decide) (List.mem_of_getElem? (i := 13) rfl) hf hWT hE dX7_hack_94 dX7_hack_97 dX7_hack_98 dX7_hack_101 dX7_hack_104 (Nat.le_of_ble_eq_true rfl) (Nat.le_of_ble_eq_true rfl) (Nat.le_of_ble_eq_true rfl) (Nat.le_of_ble_eq_true rfl) (Nat.le_of_ble_eq_true rfl) (Nat.le_of_ble_eq_true rfl)
        · replace hf := hf.2 c10
          refine lv_aload_n C0.1 C0.2.1 dX7_hack_78 rfl (lv_at hl 2 rfl) ?_
          refine lv_aload C0.1 C0.2.1 dX7_hack_79 (lv_at hl 0 rfl) ?_
          have k11 : K (P ((P r2 1)) 2) = 4 := (wt_at (k := 2) (t := 4) hWT k3 rfl)
          refine fl_getrN (k := 2) (t := 4) ck_3 C0 hF9 k3 rfl k11 rfl ⟨rfl, rfl⟩ aw_589 dX7_hack_81 ?_
          refine lv_aload_n C0.1 C0.2.1 dX7_hack_84 rfl (lv_at hl 2 rfl) ?_
          have k12 : K (P a0 1) = 5 := (wt_at (k := 1) (t := 5) hWT ka0 rfl)
          refine fl_getr (k := 1) (t := 5) ck_8 C0 hF9 ka0 rfl k12 rfl ⟨rfl, rfl⟩ aw_191 dX7_hack_85 ?_
          obtain ⟨r13, I13, hq13, hf⟩ := hf
          refine fl_ri hF9 (fl_runV (As := [.ref (P ((P r2 1)) 2), .ref (P a0 1)]) (rest := []) C0 hF9 hl.1 ck_8 ka0 rfl (c_X7_findsAnswer l D cy B L K P J hWT I2 a0 ((P ((P r2 1)) 2)) ((P a0 1)) ka0 k11 k12 hq13) aw_678 aw_680 aw_38 aw_45 aw_681 rfl rfl pm_X7_findsAnswer rfl rfl ⟨(Nat.le_of_ble_eq_true rfl), (Nat.le_of_ble_eq_true rfl)⟩ rfl (Nat.le_of_ble_eq_true rfl) dX7_hack_88 ⟨(Nat.le_of_ble_eq_true rfl), (Nat.le_of_ble_eq_true rfl)⟩) (fun H locs hF13 rr13 => ?_)
          refine fl_if_ne (tgt := 105) C0 rr13 dX7_hack_91 (by decide) (fun c14 => ?_) (fun c14 => ?_)
          · replace hf := hf.2 c14
            refine fl_new ck_7 dv_7 C0 hF13 (co := 27) rfl aw_372 aw_683 aw_66 (Nat.le_of_ble_eq_true rfl) (Nat.le_of_ble_eq_true rfl) dX7_hack_105 (fun q15 H hq15 hF15 => ?_)
            have hF15 : FS D cy B (L ++ [q15]) (va_up K q15 27) (clrN P q15) J s.heap (clr I13 q15) H _ := hF15
            have h1q15 : 1 < q15 := hF15.ne0 (by rw [va_up_self]; decide)
            have n16 := nn hF13 hq15 ka0 rfl
            have k16 := kn (t := 27) hF13 hq15 ka0 rfl
            have n17 := nn hF13 hq15 kr2 rfl
            have k17 := kn (t := 27) hF13 hq15 kr2 rfl
            have n18 := nn hF13 hq15 k3 rfl
            have k18 := kn (t := 27) hF13 hq15 k3 rfl
            have z15 := ek0 hE hF13 hq15
            have hWT15 := wn (t := 27) hF13 hq15 hWT (fun k => tt_arr 27 (by decide) k)
            have hE15 := EK.tr hE (ekq (s := s) (t := 27) hF13 hq15)
            have kq15 : va_up K q15 27 q15 = 27 := va_up_self _ _ _
            obtain ⟨L15, K15, P15, I15, eL15, eK15, eP15, eI15, hf⟩ := nwP_f hf hq15 (by omega)
            rw [eL15, eK15, eP15, eI15] at hF15
            rw [eK15] at k16 k17 k18 kq15
            rw [eK15, eP15] at hWT15
            rw [eK15] at hE15
            refine lv_dup C0.1 C0.2.1 dX7_hack_108 rfl ?_
            refine lv_aload_n C0.1 C0.2.1 dX7_hack_109 rfl (lv_at hl 2 rfl) ?_
            have k19 : K15 (P15 a0 1) = 5 := (wt_at (k := 1) (t := 5) hWT15 k16 rfl)
            refine fl_getr (k := 1) (t := 5) ck_8 C0 hF15 k16 rfl k19 rfl ⟨rfl, rfl⟩ aw_191 dX7_hack_110 ?_
            refine lv_aload_n C0.1 C0.2.1 dX7_hack_113 rfl (lv_at hl 2 rfl) ?_
            have k20 : K15 (P15 a0 2) = 2 := (wt_at (k := 2) (t := 2) hWT15 k16 rfl)
            refine fl_getr (k := 2) (t := 2) ck_8 C0 hF15 k16 rfl k20 rfl ⟨rfl, rfl⟩ aw_192 dX7_hack_114 ?_
            have k21 : K15 (P15 ((P15 a0 2)) 1) = 5 := (wt_at (k := 1) (t := 5) hWT15 k20 rfl)
            refine fl_getrN (k := 1) (t := 5) ck_2 C0 hF15 k20 rfl k21 rfl ⟨rfl, rfl⟩ aw_122 dX7_hack_117 ?_
            refine fl_iconst C0 dX7_hack_120 ?_
            refine fl_avc hF15 (fl_runIN (As := [.ref (P15 a0 1), .ref (P15 ((P15 a0 2)) 1), iv 3]) (rest := [.ref q15]) C0 hF15 hl.1 (a_X6_init l D cy B L15 K15 P15 J I15 hWT15 q15 ((P15 a0 1)) ((P15 ((P15 a0 2)) 1)) 3 kq15 k19 k21 (rgk 3 rfl) _ hf) aw_684 aw_685 aw_66 aw_686 rfl rfl pm_X6_init rfl rfl ⟨(Nat.le_of_ble_eq_true rfl), (Nat.le_of_ble_eq_true rfl)⟩ rfl (Nat.le_of_ble_eq_true rfl) dX7_hack_121 ⟨(Nat.le_of_ble_eq_true rfl), (Nat.le_of_ble_eq_true rfl)⟩) (fun L22 K22 P22 I22 H locs hF22 hf hWT22 hX22 kq22 => ?_)
            have k23 := kx hX22 k16 rfl n16
            have k24 := kx hX22 k17 rfl n17
            have k25 := kx hX22 k18 rfl n18
            have hE22 := ekc hE15 hX22 z15
            refine lv_astore (lv' := [(5, .ref q15), (4, .ref (P r2 1)), (3, .ref r2), (0, .ref a0), (1, iv x1), (2, iv x2)]) C0.1 C0.2.1 dX7_hack_124 hl (by decide) rfl (fun ls hl => ?_)
            refine lv_aload_n C0.1 C0.2.1 dX7_hack_126 rfl (lv_at hl 3 rfl) ?_
            have k26 : K22 (P22 a0 1) = 5 := (wt_at (k := 1) (t := 5) hWT22 k23 rfl)
            refine fl_getr (k := 1) (t := 5) ck_8 C0 hF22 k23 rfl k26 rfl ⟨rfl, rfl⟩ aw_191 dX7_hack_127 ?_
            refine fl_iconst C0 dX7_hack_130 ?_
            refine fl_putiN (k := 1) ck_5 C0 hF22 k26 rfl (rgk 0 rfl) ⟨rfl, rfl, rfl⟩ aw_106 dX7_hack_131 (fun H locs hF27 => ?_)
            obtain ⟨I27, eI27, hf⟩ := bndP_f hf
            rw [eI27] at hF27
            refine lv_aload_n C0.1 C0.2.1 dX7_hack_134 rfl (lv_at hl 3 rfl) ?_
            refine lv_aload_n C0.1 C0.2.1 dX7_hack_135 rfl (lv_at hl 2 rfl) ?_
            refine lv_aload C0.1 C0.2.1 dX7_hack_136 (lv_at hl 0 rfl) ?_
            obtain ⟨r28, I28, hq28, hf⟩ := hf
            refine fl_ri hF27 (fl_runV (As := [.ref r2, .ref q15]) (rest := []) C0 hF27 hl.1 ck_8 k23 rfl (c_X7_tryOut l D cy B L22 K22 P22 J hWT22 I27 a0 r2 q15 k23 k24 kq22 hq28) aw_373 aw_375 aw_5 aw_45 aw_376 rfl rfl pm_X7_tryOut rfl rfl ⟨(Nat.le_of_ble_eq_true rfl), (Nat.le_of_ble_eq_true rfl)⟩ rfl (Nat.le_of_ble_eq_true rfl) dX7_hack_138 ⟨(Nat.le_of_ble_eq_true rfl), (Nat.le_of_ble_eq_true rfl)⟩) (fun H locs hF28 rr28 => ?_)
            refine fl_if_ne (tgt := 156) C0 rr28 dX7_hack_141 (by decide) (fun c29 => ?_) (fun c29 => ?_)
            · replace hf := hf.2 c29
              refine lv_aload C0.1 C0.2.1 dX7_hack_156 (lv_at hl 1 rfl) ?_
              refine lv_aload C0.1 C0.2.1 dX7_hack_158 (lv_at hl 0 rfl) ?_
              refine fl_avm hF28 (fl_runN (As := [.ref q15]) (rest := []) C0 hF28 hl.1 ck_3 k25 rfl (a_X2_addTrial l D cy B L22 K22 P22 J I28 hWT22 ((P r2 1)) q15 k25 kq22 _ hf) aw_708 aw_710 aw_40 aw_58 aw_711 rfl pm_X2_addTrial rfl rfl ⟨(Nat.le_of_ble_eq_true rfl), (Nat.le_of_ble_eq_true rfl)⟩ rfl (Nat.le_of_ble_eq_true rfl) dX7_hack_160 ⟨(Nat.le_of_ble_eq_true rfl), (Nat.le_of_ble_eq_true rfl)⟩) (fun L30 K30 P30 I30 H locs hF30 hf hWT30 hX30 => ?_)
              have k31 := (hX30 _ (by rw [k23]; decide)).trans k23
              have k32 := (hX30 _ (by rw [k24]; decide)).trans k24
              have k33 := (hX30 _ (by rw [k25]; decide)).trans k25
              have k34 := (hX30 _ (by rw [kq22]; decide)).trans kq22
              have hE30 := EK.tr hE22 hX30
              refine lv_aload_n C0.1 C0.2.1 dX7_hack_163 rfl (lv_at hl 3 rfl) ?_
              refine lv_aload_n C0.1 C0.2.1 dX7_hack_164 rfl (lv_at hl 2 rfl) ?_
              obtain ⟨I35, hq35, hf⟩ := hf
              refine fl_rv hF30 (fl_runV (As := [.ref r2]) (rest := []) C0 hF30 hl.1 ck_8 k31 rfl (c_X7_giveVerdict l D cy B L30 K30 P30 J hWT30 I30 a0 r2 k31 k32 hq35) aw_368 aw_370 aw_4 aw_45 aw_371 rfl rfl pm_X7_giveVerdict rfl rfl ⟨(Nat.le_of_ble_eq_true rfl), (Nat.le_of_ble_eq_true rfl)⟩ rfl (Nat.le_of_ble_eq_true rfl) dX7_hack_165 ⟨(Nat.le_of_ble_eq_true rfl), (Nat.le_of_ble_eq_true rfl)⟩) (fun H locs hF35 => ?_)
              refine lv_aload_n C0.1 C0.2.1 dX7_hack_168 rfl (lv_at hl 3 rfl) ?_
              have k36 : K30 (P30 a0 7) = 132 := (wt_at (k := 7) (t := 132) hWT30 k31 rfl)
              refine fl_getr (k := 7) (t := 132) ck_8 C0 hF35 k31 rfl k36 rfl ⟨rfl, rfl⟩ aw_197 dX7_hack_169 ?_
              refine lv_iload_n C0.1 C0.2.1 dX7_hack_172 rfl (lv_at hl 4 rfl) ?_
              refine lv_dup2_11 C0.1 C0.2.1 dX7_hack_173 rfl rfl ?_
              obtain ⟨hc, hf⟩ := hf
              refine fl_iald (n := 8) C0 hF35 k36 rx1 hc dX7_hack_174 ?_
              refine fl_iconst C0 dX7_hack_175 ?_
              refine fl_iadd C0 dX7_hack_176 ?_
              obtain ⟨hc, hf⟩ := hf
              refine fl_iast (n := 8) C0 hF35 k36 rx1 (rg_wr _) hc dX7_hack_177 (fun H locs hF37 => ?_)
              obtain ⟨I37, eI37, hf⟩ := bndP_f hf
              rw [eI37] at hF37
              refine fl_iconst C0 dX7_hack_178 ?_
              exact vx_ret (fl_zretM (post := post 0) C0 hF37 hr (rgk 1 rfl) (Or.inr rfl) hf hWT30 hE30 dX7_hack_179 (Nat.le_of_ble_eq_true rfl) (Nat.le_of_ble_eq_true rfl))
            · replace hf := hf.1 c29
              refine lv_aload_n C0.1 C0.2.1 dX7_hack_144 rfl (lv_at hl 3 rfl) ?_
              have k38 : K22 (P22 a0 7) = 132 := (wt_at (k := 7) (t := 132) hWT22 k23 rfl)
              refine fl_getr (k := 7) (t := 132) ck_8 C0 hF28 k23 rfl k38 rfl ⟨rfl, rfl⟩ aw_197 dX7_hack_145 ?_
              refine lv_iload_n C0.1 C0.2.1 dX7_hack_148 rfl (lv_at hl 4 rfl) ?_
              refine lv_dup2_11 C0.1 C0.2.1 dX7_hack_149 rfl rfl ?_
              obtain ⟨hc, hf⟩ := hf
              refine fl_iald (n := 8) C0 hF28 k38 rx1 hc dX7_hack_150 ?_
              refine fl_iconst C0 dX7_hack_151 ?_
              refine fl_isub C0 dX7_hack_152 ?_
              obtain ⟨hc, hf⟩ := hf
              refine fl_iast (n := 8) C0 hF28 k38 rx1 (rg_wr _) hc dX7_hack_153 (fun H locs hF39 => ?_)
              obtain ⟨I39, eI39, hf⟩ := bndP_f hf
              rw [eI39] at hF39
              refine fl_iconst C0 dX7_hack_154 ?_
              exact vx_ret (fl_zretM (post := post 0) C0 hF39 hr (rgk 0 rfl) (Or.inl rfl) hf hWT22 hE22 dX7_hack_155 (Nat.le_of_ble_eq_true rfl) (Nat.le_of_ble_eq_true rfl))
          · replace hf := hf.1 c14
            exact fl_throwAW (k := 2) C0 hF13 hst hx0 hl.1 ex_2 (by decide) (List.mem_of_getElem? (i := 13) rfl) hf hWT hE dX7_hack_94 dX7_hack_97 dX7_hack_98 dX7_hack_101 dX7_hack_104 (Nat.le_of_ble_eq_true rfl) (Nat.le_of_ble_eq_true rfl) (Nat.le_of_ble_eq_true rfl) (Nat.le_of_ble_eq_true rfl) (Nat.le_of_ble_eq_true rfl) (Nat.le_of_ble_eq_true rfl)
      · replace hf := hf.2 c7
        exact fl_throwAW (k := 2) C0 hF4 hst hx0 hl.1 ex_2 (by decide) (List.mem_of_getElem? (i := 12) rfl) hf hWT hE dX7_hack_54 dX7_hack_57 dX7_hack_58 dX7_hack_61 dX7_hack_64 (Nat.le_of_ble_eq_true rfl) (Nat.le_of_ble_eq_true rfl) (Nat.le_of_ble_eq_true rfl) (Nat.le_of_ble_eq_true rfl) (Nat.le_of_ble_eq_true rfl) (Nat.le_of_ble_eq_true rfl)
  · replace hf := hf.1 c5
    exact fl_throwAW (k := 2) C0 hF4 hst hx0 hl.1 ex_2 (by decide) (List.mem_of_getElem? (i := 11) rfl) hf hWT hE dX7_hack_28 dX7_hack_31 dX7_hack_32 dX7_hack_35 dX7_hack_38 (Nat.le_of_ble_eq_true rfl) (Nat.le_of_ble_eq_true rfl) (Nat.le_of_ble_eq_true rfl) (Nat.le_of_ble_eq_true rfl) (Nat.le_of_ble_eq_true rfl) (Nat.le_of_ble_eq_true rfl)
