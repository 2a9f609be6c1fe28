-- RejudgeHallModel.<init>()V
abbrev rm_X8_init : Room := { frames := 1, cells := 29, slots := 3305, locals := 20 }
def w_X8_init (L : List Nat) (K : KT) (P : PT) (I : IT) (a0 : Nat) (post : PO) : Prop := nwP L K P I 368 fun q1 L1 K1 P1 I1 => bndP (up P1 a0 1 q1) fun P3 => nwP L1 K1 P3 I1 4388 fun q4 L4 K4 P4 I4 => bndP (up P4 a0 2 q4) fun P8 => nwP L4 K4 P8 I4 4388 fun q10 L10 K10 P10 I10 => bndP (up P10 a0 3 q10) fun P16 => nwP L10 K10 P16 I10 392 fun q19 L19 K19 P19 I19 => bndP (up P19 a0 4 q19) fun P27 => nwP L19 K19 P27 I19 1268 fun q31 L31 K31 P31 I31 => bndP (up P31 a0 5 q31) fun P41 => nwP L31 K31 P41 I31 124 fun q46 L46 K46 P46 I46 => bndP (up P46 a0 7 q46) fun P58 => nwP L46 K46 P58 I46 124 fun q64 L64 K64 P64 I64 => bndP (up P64 a0 8 q64) fun P78 => nwP L64 K64 P78 I64 124 fun q85 L85 K85 P85 I85 => bndP (up P85 a0 9 q85) fun P101 => nwP L85 K85 P101 I85 124 fun q109 L109 K109 P109 I109 => bndP (up P109 a0 10 q109) fun P127 => nwP L109 K109 P127 I109 388 fun q136 L136 K136 P136 I136 => bndP (up P136 a0 11 q136) fun P156 => nwP L136 K136 P156 I136 196 fun q166 L166 K166 P166 I166 => bndP (up P166 a0 12 q166) fun P188 => nwP L166 K166 P188 I166 340 fun q199 L199 K199 P199 I199 => bndP (up P199 a0 14 q199) fun P223 => nwP L199 K199 P223 I199 340 fun q235 L235 K235 P235 I235 => bndP (up P235 a0 15 q235) fun P261 => nwP L235 K235 P261 I235 340 fun q274 L274 K274 P274 I274 => bndP (up P274 a0 16 q274) fun P302 => nwP L274 K274 P302 I274 340 fun q316 L316 K316 P316 I316 => bndP (up P316 a0 17 q316) fun P346 => nwP L316 K316 P346 I316 340 fun q361 L361 K361 P361 I361 => bndP (up P361 a0 18 q361) fun P393 => nwP L361 K361 P393 I361 340 fun q409 L409 K409 P409 I409 => bndP (up P409 a0 19 q409) fun P443 => nwP L409 K409 P443 I409 340 fun q460 L460 K460 P460 I460 => bndP (up P460 a0 20 q460) fun P496 => nwP L460 K460 P496 I460 132 fun q514 L514 K514 P514 I514 => bndP (up P514 a0 21 q514) fun P552 => nwP L514 K514 P552 I514 132 fun q571 L571 K571 P571 I571 => bndP (up P571 a0 22 q571) fun P611 => bndP (up I571 a0 23 (-1)) fun I631 => nwP L571 K571 P611 I631 293 fun q632 L632 K632 P632 I632 => bndP (up P632 a0 24 q632) fun P674 => nwP L632 K632 P674 I632 132 fun q695 L695 K695 P695 I695 => bndP (up P695 a0 28 q695) fun P739 => nwP L695 K695 P739 I695 132 fun q761 L761 K761 P761 I761 => bndP (up P761 a0 29 q761) fun P807 => nwP L761 K761 P807 I761 132 fun q830 L830 K830 P830 I830 => bndP (up P830 a0 32 q830) fun P878 => nwP L830 K830 P878 I830 340 fun q902 L902 K902 P902 I902 => bndP (up P902 a0 33 q902) fun P952 => nwP L902 K902 P952 I902 132 fun q977 L977 K977 P977 I977 => bndP (up P977 a0 34 q977) fun P1029 => nwP L977 K977 P1029 I977 132 fun q1055 L1055 K1055 P1055 I1055 => bndP (up P1055 a0 35 q1055) fun P1109 => nwP L1055 K1055 P1109 I1055 132 fun q1136 L1136 K1136 P1136 I1136 => bndP (up P1136 a0 36 q1136) fun P1192 => nwP L1136 K1136 P1192 I1136 168 fun q1220 L1220 K1220 P1220 I1220 => bndP (up P1220 a0 37 q1220) fun P1278 => bpP (fill25 FU I1220 (P1278 a0 12) 0) fun I1307 => post L1220 (va_up K1220 a0 9) P1278 I1307
theorem pm_X8_init : plainM yX8_init 0 := by decide +kernel
set_option maxRecDepth 100000 in
set_option maxHeartbeats 8000000 in
theorem a_X8_init (l : Launch) (D : va_G) (cy : Nat → ClassId) (B : Nat) (L : List Nat) (K : KT) (P : PT) (J : IT) (I : IT) (hWT : WT K P) (a0 : Nat) (ka0 : K a0 = 29) (post : PO) (hf : w_X8_init L K P I a0 post) : Met l yX8_init [.code yX8_init cX8_init 2 none] rm_X8_init (va_Pc [.ref a0] (FW D cy B L K P J I)) (AVc D cy B J K P a0 9 post) 29 3305 (fun q => B ≤ q) := by
  refine fl_bodyI (own := "RejudgeHallModel") [.ref a0] (by decide) rfl rfl (Nat.le_of_ble_eq_true rfl) ?_
  intro p e s m args below meth c ls C0 hr hin hF hl
  have hl : lv_has ls 2 [(0, .ref a0)] := hl
  have hE : EX K P K P a0 := EX.rf
  unfold w_X8_init at hf
  refine lv_aload_n C0.1 C0.2.1 dX8_init_0 rfl (lv_at hl 0 rfl) ?_
  refine fl_objInit (nm0 := yX8_init) C0 hl.1 aw_873 aw_95 aw_96 dX8_init_1 (Nat.le_of_ble_eq_true rfl) (Nat.le_of_ble_eq_true rfl) ?_
  refine lv_aload_n C0.1 C0.2.1 dX8_init_4 rfl (lv_at hl 0 rfl) ?_
  refine fl_bipush C0 dX8_init_5 (by decide) ?_
  refine fl_newi C0 hF (rgk 67 rfl) (by decide) (by decide) aw_117 (Nat.le_of_ble_eq_true rfl) (Nat.le_of_ble_eq_true rfl) dX8_init_7 (fun q1 H hq1 hF1 => ?_)
  have hF1 : FS D cy B (L ++ [q1]) (va_up K q1 368) (clrN P q1) J s.heap (clr I q1) H _ := hF1
  have h1q1 : 1 < q1 := hF1.ne0 (by rw [va_up_self]; decide)
  have n2 := nn hF hq1 ka0 rfl
  have k2 := kn (t := 368) hF hq1 ka0 rfl
  have z1 := k00 hE hF hq1 n2
  have hWT1 := wn (t := 368) hF hq1 hWT (fun k => tt_arr 368 (by decide) k)
  have hE1 := en (t := 368) hE hF hq1
  have kq1 : va_up K q1 368 q1 = 368 := va_up_self _ _ _
  obtain ⟨L1, K1, P1, I1, eL1, eK1, eP1, eI1, hf⟩ := nwP_f hf hq1 (by omega)
  rw [eL1, eK1, eP1, eI1] at hF1
  rw [eK1] at k2 kq1
  rw [eK1, eP1] at hWT1 hE1
  refine fl_putFr (k := 1) ck_9 C0 hF1 hin k2 rfl (hF1.ne0 (by rw [kq1]; decide)) ⟨rfl, rfl, rfl, rfl⟩ ⟨rfl, rfl⟩ aw_875 dX8_init_9 (fun H locs hF3 => ?_)
  have hWT3 := wu (k := 1) (v := q1) hWT1 k2 (fun k => tt_arr 29 (by decide) k)
  have hE3 := eu (k := 1) (v := q1) hE1
  have hp3 := up_s P1 a0 1 q1
  obtain ⟨P3, eP3, hf⟩ := bndP_f hf
  rw [eP3] at hF3 hWT3 hE3 hp3
  refine lv_aload_n C0.1 C0.2.1 dX8_init_12 rfl (lv_at hl 0 rfl) ?_
  refine fl_sipush C0 dX8_init_13 (by decide) ?_
  refine fl_newi C0 hF3 (rgk 1072 rfl) (by decide) (by decide) aw_117 (Nat.le_of_ble_eq_true rfl) (Nat.le_of_ble_eq_true rfl) dX8_init_16 (fun q4 H hq4 hF4 => ?_)
  have hF4 : FS D cy B (L1 ++ [q4]) (va_up K1 q4 4388) (clrN P3 q4) J s.heap (clr I1 q4) H _ := hF4
  have h1q4 : 1 < q4 := hF4.ne0 (by rw [va_up_self]; decide)
  have n5 := nn hF3 hq4 k2 rfl
  have k5 := kn (t := 4388) hF3 hq4 k2 rfl
  have n6 := nn hF3 hq4 kq1 rfl
  have k6 := kn (t := 4388) hF3 hq4 kq1 rfl
  have z4 := k00 hE3 hF3 hq4 n5
  have hp7 := pn hF3 hq4 k2 rfl hp3
  have hWT4 := wn (t := 4388) hF3 hq4 hWT3 (fun k => tt_arr 4388 (by decide) k)
  have hE4 := en (t := 4388) hE3 hF3 hq4
  have kq4 : va_up K1 q4 4388 q4 = 4388 := va_up_self _ _ _
  obtain ⟨L4, K4, P4, I4, eL4, eK4, eP4, eI4, hf⟩ := nwP_f hf hq4 (by omega)
  rw [eL4, eK4, eP4, eI4] at hF4
  rw [eK4] at k5 k6 kq4
  rw [eK4, eP4] at hWT4 hE4
  rw [eP4] at hp7
  refine fl_putFr (k := 2) ck_9 C0 hF4 hin k5 rfl (hF4.ne0 (by rw [kq4]; decide)) ⟨rfl, rfl, rfl, rfl⟩ ⟨rfl, rfl⟩ aw_876 dX8_init_18 (fun H locs hF8 => ?_)
  have hWT8 := wu (k := 2) (v := q4) hWT4 k5 (fun k => tt_arr 29 (by decide) k)
  have hE8 := eu (k := 2) (v := q4) hE4
  have hp8 := up_s P4 a0 2 q4
  have hp9 := (up_k P4 a0 a0 q4 (by decide : 1 ≠ 2)).trans hp7
  obtain ⟨P8, eP8, hf⟩ := bndP_f hf
  rw [eP8] at hF8 hWT8 hE8 hp8 hp9
  refine lv_aload_n C0.1 C0.2.1 dX8_init_21 rfl (lv_at hl 0 rfl) ?_
  refine fl_sipush C0 dX8_init_22 (by decide) ?_
  refine fl_newi C0 hF8 (rgk 1072 rfl) (by decide) (by decide) aw_117 (Nat.le_of_ble_eq_true rfl) (Nat.le_of_ble_eq_true rfl) dX8_init_25 (fun q10 H hq10 hF10 => ?_)
  have hF10 : FS D cy B (L4 ++ [q10]) (va_up K4 q10 4388) (clrN P8 q10) J s.heap (clr I4 q10) H _ := hF10
  have h1q10 : 1 < q10 := hF10.ne0 (by rw [va_up_self]; decide)
  have n11 := nn hF8 hq10 k5 rfl
  have k11 := kn (t := 4388) hF8 hq10 k5 rfl
  have n12 := nn hF8 hq10 kq4 rfl
  have k12 := kn (t := 4388) hF8 hq10 kq4 rfl
  have n13 := nn hF8 hq10 k6 rfl
  have k13 := kn (t := 4388) hF8 hq10 k6 rfl
  have z10 := k00 hE8 hF8 hq10 n11
  have hp14 := pn hF8 hq10 k5 rfl hp8
  have hp15 := pn hF8 hq10 k5 rfl hp9
  have hWT10 := wn (t := 4388) hF8 hq10 hWT8 (fun k => tt_arr 4388 (by decide) k)
  have hE10 := en (t := 4388) hE8 hF8 hq10
  have kq10 : va_up K4 q10 4388 q10 = 4388 := va_up_self _ _ _
  obtain ⟨L10, K10, P10, I10, eL10, eK10, eP10, eI10, hf⟩ := nwP_f hf hq10 (by omega)
  rw [eL10, eK10, eP10, eI10] at hF10
  rw [eK10] at k11 k12 k13 kq10
  rw [eK10, eP10] at hWT10 hE10
  rw [eP10] at hp14 hp15
  refine fl_putFr (k := 3) ck_9 C0 hF10 hin k11 rfl (hF10.ne0 (by rw [kq10]; decide)) ⟨rfl, rfl, rfl, rfl⟩ ⟨rfl, rfl⟩ aw_877 dX8_init_27 (fun H locs hF16 => ?_)
  have hWT16 := wu (k := 3) (v := q10) hWT10 k11 (fun k => tt_arr 29 (by decide) k)
  have hE16 := eu (k := 3) (v := q10) hE10
  have hp16 := up_s P10 a0 3 q10
  have hp17 := (up_k P10 a0 a0 q10 (by decide : 2 ≠ 3)).trans hp14
  have hp18 := (up_k P10 a0 a0 q10 (by decide : 1 ≠ 3)).trans hp15
  obtain ⟨P16, eP16, hf⟩ := bndP_f hf
  rw [eP16] at hF16 hWT16 hE16 hp16 hp17 hp18
  refine lv_aload_n C0.1 C0.2.1 dX8_init_30 rfl (lv_at hl 0 rfl) ?_
  refine fl_bipush C0 dX8_init_31 (by decide) ?_
  refine fl_newi C0 hF16 (rgk 73 rfl) (by decide) (by decide) aw_117 (Nat.le_of_ble_eq_true rfl) (Nat.le_of_ble_eq_true rfl) dX8_init_33 (fun q19 H hq19 hF19 => ?_)
  have hF19 : FS D cy B (L10 ++ [q19]) (va_up K10 q19 392) (clrN P16 q19) J s.heap (clr I10 q19) H _ := hF19
  have h1q19 : 1 < q19 := hF19.ne0 (by rw [va_up_self]; decide)
  have n20 := nn hF16 hq19 k11 rfl
  have k20 := kn (t := 392) hF16 hq19 k11 rfl
  have n21 := nn hF16 hq19 kq10 rfl
  have k21 := kn (t := 392) hF16 hq19 kq10 rfl
  have n22 := nn hF16 hq19 k12 rfl
  have k22 := kn (t := 392) hF16 hq19 k12 rfl
  have n23 := nn hF16 hq19 k13 rfl
  have k23 := kn (t := 392) hF16 hq19 k13 rfl
  have z19 := k00 hE16 hF16 hq19 n20
  have hp24 := pn hF16 hq19 k11 rfl hp16
  have hp25 := pn hF16 hq19 k11 rfl hp17
  have hp26 := pn hF16 hq19 k11 rfl hp18
  have hWT19 := wn (t := 392) hF16 hq19 hWT16 (fun k => tt_arr 392 (by decide) k)
  have hE19 := en (t := 392) hE16 hF16 hq19
  have kq19 : va_up K10 q19 392 q19 = 392 := va_up_self _ _ _
  obtain ⟨L19, K19, P19, I19, eL19, eK19, eP19, eI19, hf⟩ := nwP_f hf hq19 (by omega)
  rw [eL19, eK19, eP19, eI19] at hF19
  rw [eK19] at k20 k21 k22 k23 kq19
  rw [eK19, eP19] at hWT19 hE19
  rw [eP19] at hp24 hp25 hp26
  refine fl_putFr (k := 4) ck_9 C0 hF19 hin k20 rfl (hF19.ne0 (by rw [kq19]; decide)) ⟨rfl, rfl, rfl, rfl⟩ ⟨rfl, rfl⟩ aw_878 dX8_init_35 (fun H locs hF27 => ?_)
  have hWT27 := wu (k := 4) (v := q19) hWT19 k20 (fun k => tt_arr 29 (by decide) k)
  have hE27 := eu (k := 4) (v := q19) hE19
  have hp27 := up_s P19 a0 4 q19
  have hp28 := (up_k P19 a0 a0 q19 (by decide : 3 ≠ 4)).trans hp24
  have hp29 := (up_k P19 a0 a0 q19 (by decide : 2 ≠ 4)).trans hp25
  have hp30 := (up_k P19 a0 a0 q19 (by decide : 1 ≠ 4)).trans hp26
  obtain ⟨P27, eP27, hf⟩ := bndP_f hf
  rw [eP27] at hF27 hWT27 hE27 hp27 hp28 hp29 hp30
  refine lv_aload_n C0.1 C0.2.1 dX8_init_38 rfl (lv_at hl 0 rfl) ?_
  refine fl_sipush C0 dX8_init_39 (by decide) ?_
  refine fl_newi C0 hF27 (rgk 292 rfl) (by decide) (by decide) aw_117 (Nat.le_of_ble_eq_true rfl) (Nat.le_of_ble_eq_true rfl) dX8_init_42 (fun q31 H hq31 hF31 => ?_)
  have hF31 : FS D cy B (L19 ++ [q31]) (va_up K19 q31 1268) (clrN P27 q31) J s.heap (clr I19 q31) H _ := hF31
  have h1q31 : 1 < q31 := hF31.ne0 (by rw [va_up_self]; decide)
  have n32 := nn hF27 hq31 k20 rfl
  have k32 := kn (t := 1268) hF27 hq31 k20 rfl
  have n33 := nn hF27 hq31 kq19 rfl
  have k33 := kn (t := 1268) hF27 hq31 kq19 rfl
  have n34 := nn hF27 hq31 k21 rfl
  have k34 := kn (t := 1268) hF27 hq31 k21 rfl
  have n35 := nn hF27 hq31 k22 rfl
  have k35 := kn (t := 1268) hF27 hq31 k22 rfl
  have n36 := nn hF27 hq31 k23 rfl
  have k36 := kn (t := 1268) hF27 hq31 k23 rfl
  have z31 := k00 hE27 hF27 hq31 n32
  have hp37 := pn hF27 hq31 k20 rfl hp27
  have hp38 := pn hF27 hq31 k20 rfl hp28
  have hp39 := pn hF27 hq31 k20 rfl hp29
  have hp40 := pn hF27 hq31 k20 rfl hp30
  have hWT31 := wn (t := 1268) hF27 hq31 hWT27 (fun k => tt_arr 1268 (by decide) k)
  have hE31 := en (t := 1268) hE27 hF27 hq31
  have kq31 : va_up K19 q31 1268 q31 = 1268 := va_up_self _ _ _
  obtain ⟨L31, K31, P31, I31, eL31, eK31, eP31, eI31, hf⟩ := nwP_f hf hq31 (by omega)
  rw [eL31, eK31, eP31, eI31] at hF31
  rw [eK31] at k32 k33 k34 k35 k36 kq31
  rw [eK31, eP31] at hWT31 hE31
  rw [eP31] at hp37 hp38 hp39 hp40
  refine fl_putFr (k := 5) ck_9 C0 hF31 hin k32 rfl (hF31.ne0 (by rw [kq31]; decide)) ⟨rfl, rfl, rfl, rfl⟩ ⟨rfl, rfl⟩ aw_879 dX8_init_44 (fun H locs hF41 => ?_)
  have hWT41 := wu (k := 5) (v := q31) hWT31 k32 (fun k => tt_arr 29 (by decide) k)
  have hE41 := eu (k := 5) (v := q31) hE31
  have hp41 := up_s P31 a0 5 q31
  have hp42 := (up_k P31 a0 a0 q31 (by decide : 4 ≠ 5)).trans hp37
  have hp43 := (up_k P31 a0 a0 q31 (by decide : 3 ≠ 5)).trans hp38
  have hp44 := (up_k P31 a0 a0 q31 (by decide : 2 ≠ 5)).trans hp39
  have hp45 := (up_k P31 a0 a0 q31 (by decide : 1 ≠ 5)).trans hp40
  obtain ⟨P41, eP41, hf⟩ := bndP_f hf
  rw [eP41] at hF41 hWT41 hE41 hp41 hp42 hp43 hp44 hp45
  refine lv_aload_n C0.1 C0.2.1 dX8_init_47 rfl (lv_at hl 0 rfl) ?_
  refine fl_bipush C0 dX8_init_48 (by decide) ?_
  refine fl_newi C0 hF41 (rgk 6 rfl) (by decide) (by decide) aw_117 (Nat.le_of_ble_eq_true rfl) (Nat.le_of_ble_eq_true rfl) dX8_init_50 (fun q46 H hq46 hF46 => ?_)
  have hF46 : FS D cy B (L31 ++ [q46]) (va_up K31 q46 124) (clrN P41 q46) J s.heap (clr I31 q46) H _ := hF46
  have h1q46 : 1 < q46 := hF46.ne0 (by rw [va_up_self]; decide)
  have n47 := nn hF41 hq46 k32 rfl
  have k47 := kn (t := 124) hF41 hq46 k32 rfl
  have n48 := nn hF41 hq46 kq31 rfl
  have k48 := kn (t := 124) hF41 hq46 kq31 rfl
  have n49 := nn hF41 hq46 k33 rfl
  have k49 := kn (t := 124) hF41 hq46 k33 rfl
  have n50 := nn hF41 hq46 k34 rfl
  have k50 := kn (t := 124) hF41 hq46 k34 rfl
  have n51 := nn hF41 hq46 k35 rfl
  have k51 := kn (t := 124) hF41 hq46 k35 rfl
  have n52 := nn hF41 hq46 k36 rfl
  have k52 := kn (t := 124) hF41 hq46 k36 rfl
  have z46 := k00 hE41 hF41 hq46 n47
  have hp53 := pn hF41 hq46 k32 rfl hp41
  have hp54 := pn hF41 hq46 k32 rfl hp42
  have hp55 := pn hF41 hq46 k32 rfl hp43
  have hp56 := pn hF41 hq46 k32 rfl hp44
  have hp57 := pn hF41 hq46 k32 rfl hp45
  have hWT46 := wn (t := 124) hF41 hq46 hWT41 (fun k => tt_arr 124 (by decide) k)
  have hE46 := en (t := 124) hE41 hF41 hq46
  have kq46 : va_up K31 q46 124 q46 = 124 := va_up_self _ _ _
  obtain ⟨L46, K46, P46, I46, eL46, eK46, eP46, eI46, hf⟩ := nwP_f hf hq46 (by omega)
  rw [eL46, eK46, eP46, eI46] at hF46
  rw [eK46] at k47 k48 k49 k50 k51 k52 kq46
  rw [eK46, eP46] at hWT46 hE46
  rw [eP46] at hp53 hp54 hp55 hp56 hp57
  refine fl_putFr (k := 7) ck_9 C0 hF46 hin k47 rfl (hF46.ne0 (by rw [kq46]; decide)) ⟨rfl, rfl, rfl, rfl⟩ ⟨rfl, rfl⟩ aw_881 dX8_init_52 (fun H locs hF58 => ?_)
  have hWT58 := wu (k := 7) (v := q46) hWT46 k47 (fun k => tt_arr 29 (by decide) k)
  have hE58 := eu (k := 7) (v := q46) hE46
  have hp58 := up_s P46 a0 7 q46
  have hp59 := (up_k P46 a0 a0 q46 (by decide : 5 ≠ 7)).trans hp53
  have hp60 := (up_k P46 a0 a0 q46 (by decide : 4 ≠ 7)).trans hp54
  have hp61 := (up_k P46 a0 a0 q46 (by decide : 3 ≠ 7)).trans hp55
  have hp62 := (up_k P46 a0 a0 q46 (by decide : 2 ≠ 7)).trans hp56
  have hp63 := (up_k P46 a0 a0 q46 (by decide : 1 ≠ 7)).trans hp57
  obtain ⟨P58, eP58, hf⟩ := bndP_f hf
  rw [eP58] at hF58 hWT58 hE58 hp58 hp59 hp60 hp61 hp62 hp63
  refine lv_aload_n C0.1 C0.2.1 dX8_init_55 rfl (lv_at hl 0 rfl) ?_
  refine fl_bipush C0 dX8_init_56 (by decide) ?_
  refine fl_newi C0 hF58 (rgk 6 rfl) (by decide) (by decide) aw_117 (Nat.le_of_ble_eq_true rfl) (Nat.le_of_ble_eq_true rfl) dX8_init_58 (fun q64 H hq64 hF64 => ?_)
  have hF64 : FS D cy B (L46 ++ [q64]) (va_up K46 q64 124) (clrN P58 q64) J s.heap (clr I46 q64) H _ := hF64
  have h1q64 : 1 < q64 := hF64.ne0 (by rw [va_up_self]; decide)
  have n65 := nn hF58 hq64 k47 rfl
  have k65 := kn (t := 124) hF58 hq64 k47 rfl
  have n66 := nn hF58 hq64 kq46 rfl
  have k66 := kn (t := 124) hF58 hq64 kq46 rfl
  have n67 := nn hF58 hq64 k48 rfl
  have k67 := kn (t := 124) hF58 hq64 k48 rfl
  have n68 := nn hF58 hq64 k49 rfl
  have k68 := kn (t := 124) hF58 hq64 k49 rfl
  have n69 := nn hF58 hq64 k50 rfl
  have k69 := kn (t := 124) hF58 hq64 k50 rfl
  have n70 := nn hF58 hq64 k51 rfl
  have k70 := kn (t := 124) hF58 hq64 k51 rfl
  have n71 := nn hF58 hq64 k52 rfl
  have k71 := kn (t := 124) hF58 hq64 k52 rfl
  have z64 := k00 hE58 hF58 hq64 n65
  have hp72 := pn hF58 hq64 k47 rfl hp58
  have hp73 := pn hF58 hq64 k47 rfl hp59
  have hp74 := pn hF58 hq64 k47 rfl hp60
  have hp75 := pn hF58 hq64 k47 rfl hp61
  have hp76 := pn hF58 hq64 k47 rfl hp62
  have hp77 := pn hF58 hq64 k47 rfl hp63
  have hWT64 := wn (t := 124) hF58 hq64 hWT58 (fun k => tt_arr 124 (by decide) k)
  have hE64 := en (t := 124) hE58 hF58 hq64
  have kq64 : va_up K46 q64 124 q64 = 124 := va_up_self _ _ _
  obtain ⟨L64, K64, P64, I64, eL64, eK64, eP64, eI64, hf⟩ := nwP_f hf hq64 (by omega)
  rw [eL64, eK64, eP64, eI64] at hF64
  rw [eK64] at k65 k66 k67 k68 k69 k70 k71 kq64
  rw [eK64, eP64] at hWT64 hE64
  rw [eP64] at hp72 hp73 hp74 hp75 hp76 hp77
  refine fl_putFr (k := 8) ck_9 C0 hF64 hin k65 rfl (hF64.ne0 (by rw [kq64]; decide)) ⟨rfl, rfl, rfl, rfl⟩ ⟨rfl, rfl⟩ aw_882 dX8_init_60 (fun H locs hF78 => ?_)
  have hWT78 := wu (k := 8) (v := q64) hWT64 k65 (fun k => tt_arr 29 (by decide) k)
  have hE78 := eu (k := 8) (v := q64) hE64
  have hp78 := up_s P64 a0 8 q64
  have hp79 := (up_k P64 a0 a0 q64 (by decide : 7 ≠ 8)).trans hp72
  have hp80 := (up_k P64 a0 a0 q64 (by decide : 5 ≠ 8)).trans hp73
  have hp81 := (up_k P64 a0 a0 q64 (by decide : 4 ≠ 8)).trans hp74
  have hp82 := (up_k P64 a0 a0 q64 (by decide : 3 ≠ 8)).trans hp75
  have hp83 := (up_k P64 a0 a0 q64 (by decide : 2 ≠ 8)).trans hp76
  have hp84 := (up_k P64 a0 a0 q64 (by decide : 1 ≠ 8)).trans hp77
  obtain ⟨P78, eP78, hf⟩ := bndP_f hf
  rw [eP78] at hF78 hWT78 hE78 hp78 hp79 hp80 hp81 hp82 hp83 hp84
  refine lv_aload_n C0.1 C0.2.1 dX8_init_63 rfl (lv_at hl 0 rfl) ?_
  refine fl_bipush C0 dX8_init_64 (by decide) ?_
  refine fl_newi C0 hF78 (rgk 6 rfl) (by decide) (by decide) aw_117 (Nat.le_of_ble_eq_true rfl) (Nat.le_of_ble_eq_true rfl) dX8_init_66 (fun q85 H hq85 hF85 => ?_)
  have hF85 : FS D cy B (L64 ++ [q85]) (va_up K64 q85 124) (clrN P78 q85) J s.heap (clr I64 q85) H _ := hF85
  have h1q85 : 1 < q85 := hF85.ne0 (by rw [va_up_self]; decide)
  have n86 := nn hF78 hq85 k65 rfl
  have k86 := kn (t := 124) hF78 hq85 k65 rfl
  have n87 := nn hF78 hq85 kq64 rfl
  have k87 := kn (t := 124) hF78 hq85 kq64 rfl
  have n88 := nn hF78 hq85 k66 rfl
  have k88 := kn (t := 124) hF78 hq85 k66 rfl
  have n89 := nn hF78 hq85 k67 rfl
  have k89 := kn (t := 124) hF78 hq85 k67 rfl
  have n90 := nn hF78 hq85 k68 rfl
  have k90 := kn (t := 124) hF78 hq85 k68 rfl
  have n91 := nn hF78 hq85 k69 rfl
  have k91 := kn (t := 124) hF78 hq85 k69 rfl
  have n92 := nn hF78 hq85 k70 rfl
  have k92 := kn (t := 124) hF78 hq85 k70 rfl
  have n93 := nn hF78 hq85 k71 rfl
  have k93 := kn (t := 124) hF78 hq85 k71 rfl
  have z85 := k00 hE78 hF78 hq85 n86
  have hp94 := pn hF78 hq85 k65 rfl hp78
  have hp95 := pn hF78 hq85 k65 rfl hp79
  have hp96 := pn hF78 hq85 k65 rfl hp80
  have hp97 := pn hF78 hq85 k65 rfl hp81
  have hp98 := pn hF78 hq85 k65 rfl hp82
  have hp99 := pn hF78 hq85 k65 rfl hp83
  have hp100 := pn hF78 hq85 k65 rfl hp84
  have hWT85 := wn (t := 124) hF78 hq85 hWT78 (fun k => tt_arr 124 (by decide) k)
  have hE85 := en (t := 124) hE78 hF78 hq85
  have kq85 : va_up K64 q85 124 q85 = 124 := va_up_self _ _ _
  obtain ⟨L85, K85, P85, I85, eL85, eK85, eP85, eI85, hf⟩ := nwP_f hf hq85 (by omega)
  rw [eL85, eK85, eP85, eI85] at hF85
  rw [eK85] at k86 k87 k88 k89 k90 k91 k92 k93 kq85
  rw [eK85, eP85] at hWT85 hE85
  rw [eP85] at hp94 hp95 hp96 hp97 hp98 hp99 hp100
  refine fl_putFr (k := 9) ck_9 C0 hF85 hin k86 rfl (hF85.ne0 (by rw [kq85]; decide)) ⟨rfl, rfl, rfl, rfl⟩ ⟨rfl, rfl⟩ aw_883 dX8_init_68 (fun H locs hF101 => ?_)
  have hWT101 := wu (k := 9) (v := q85) hWT85 k86 (fun k => tt_arr 29 (by decide) k)
  have hE101 := eu (k := 9) (v := q85) hE85
  have hp101 := up_s P85 a0 9 q85
  have hp102 := (up_k P85 a0 a0 q85 (by decide : 8 ≠ 9)).trans hp94
  have hp103 := (up_k P85 a0 a0 q85 (by decide : 7 ≠ 9)).trans hp95
  have hp104 := (up_k P85 a0 a0 q85 (by decide : 5 ≠ 9)).trans hp96
  have hp105 := (up_k P85 a0 a0 q85 (by decide : 4 ≠ 9)).trans hp97
  have hp106 := (up_k P85 a0 a0 q85 (by decide : 3 ≠ 9)).trans hp98
  have hp107 := (up_k P85 a0 a0 q85 (by decide : 2 ≠ 9)).trans hp99
  have hp108 := (up_k P85 a0 a0 q85 (by decide : 1 ≠ 9)).trans hp100
  obtain ⟨P101, eP101, hf⟩ := bndP_f hf
  rw [eP101] at hF101 hWT101 hE101 hp101 hp102 hp103 hp104 hp105 hp106 hp107 hp108
  refine lv_aload_n C0.1 C0.2.1 dX8_init_71 rfl (lv_at hl 0 rfl) ?_
  refine fl_bipush C0 dX8_init_72 (by decide) ?_
  refine fl_newi C0 hF101 (rgk 6 rfl) (by decide) (by decide) aw_117 (Nat.le_of_ble_eq_true rfl) (Nat.le_of_ble_eq_true rfl) dX8_init_74 (fun q109 H hq109 hF109 => ?_)
  have hF109 : FS D cy B (L85 ++ [q109]) (va_up K85 q109 124) (clrN P101 q109) J s.heap (clr I85 q109) H _ := hF109
  have h1q109 : 1 < q109 := hF109.ne0 (by rw [va_up_self]; decide)
  have n110 := nn hF101 hq109 k86 rfl
  have k110 := kn (t := 124) hF101 hq109 k86 rfl
  have n111 := nn hF101 hq109 kq85 rfl
  have k111 := kn (t := 124) hF101 hq109 kq85 rfl
  have n112 := nn hF101 hq109 k87 rfl
  have k112 := kn (t := 124) hF101 hq109 k87 rfl
  have n113 := nn hF101 hq109 k88 rfl
  have k113 := kn (t := 124) hF101 hq109 k88 rfl
  have n114 := nn hF101 hq109 k89 rfl
  have k114 := kn (t := 124) hF101 hq109 k89 rfl
  have n115 := nn hF101 hq109 k90 rfl
  have k115 := kn (t := 124) hF101 hq109 k90 rfl
  have n116 := nn hF101 hq109 k91 rfl
  have k116 := kn (t := 124) hF101 hq109 k91 rfl
  have n117 := nn hF101 hq109 k92 rfl
  have k117 := kn (t := 124) hF101 hq109 k92 rfl
  have n118 := nn hF101 hq109 k93 rfl
  have k118 := kn (t := 124) hF101 hq109 k93 rfl
  have z109 := k00 hE101 hF101 hq109 n110
  have hp119 := pn hF101 hq109 k86 rfl hp101
  have hp120 := pn hF101 hq109 k86 rfl hp102
  have hp121 := pn hF101 hq109 k86 rfl hp103
  have hp122 := pn hF101 hq109 k86 rfl hp104
  have hp123 := pn hF101 hq109 k86 rfl hp105
  have hp124 := pn hF101 hq109 k86 rfl hp106
  have hp125 := pn hF101 hq109 k86 rfl hp107
  have hp126 := pn hF101 hq109 k86 rfl hp108
  have hWT109 := wn (t := 124) hF101 hq109 hWT101 (fun k => tt_arr 124 (by decide) k)
  have hE109 := en (t := 124) hE101 hF101 hq109
  have kq109 : va_up K85 q109 124 q109 = 124 := va_up_self _ _ _
  obtain ⟨L109, K109, P109, I109, eL109, eK109, eP109, eI109, hf⟩ := nwP_f hf hq109 (by omega)
  rw [eL109, eK109, eP109, eI109] at hF109
  rw [eK109] at k110 k111 k112 k113 k114 k115 k116 k117 k118 kq109
  rw [eK109, eP109] at hWT109 hE109
  rw [eP109] at hp119 hp120 hp121 hp122 hp123 hp124 hp125 hp126
  refine fl_putFr (k := 10) ck_9 C0 hF109 hin k110 rfl (hF109.ne0 (by rw [kq109]; decide)) ⟨rfl, rfl, rfl, rfl⟩ ⟨rfl, rfl⟩ aw_884 dX8_init_76 (fun H locs hF127 => ?_)
  have hWT127 := wu (k := 10) (v := q109) hWT109 k110 (fun k => tt_arr 29 (by decide) k)
  have hE127 := eu (k := 10) (v := q109) hE109
  have hp127 := up_s P109 a0 10 q109
  have hp128 := (up_k P109 a0 a0 q109 (by decide : 9 ≠ 10)).trans hp119
  have hp129 := (up_k P109 a0 a0 q109 (by decide : 8 ≠ 10)).trans hp120
  have hp130 := (up_k P109 a0 a0 q109 (by decide : 7 ≠ 10)).trans hp121
  have hp131 := (up_k P109 a0 a0 q109 (by decide : 5 ≠ 10)).trans hp122
  have hp132 := (up_k P109 a0 a0 q109 (by decide : 4 ≠ 10)).trans hp123
  have hp133 := (up_k P109 a0 a0 q109 (by decide : 3 ≠ 10)).trans hp124
  have hp134 := (up_k P109 a0 a0 q109 (by decide : 2 ≠ 10)).trans hp125
  have hp135 := (up_k P109 a0 a0 q109 (by decide : 1 ≠ 10)).trans hp126
  obtain ⟨P127, eP127, hf⟩ := bndP_f hf
  rw [eP127] at hF127 hWT127 hE127 hp127 hp128 hp129 hp130 hp131 hp132 hp133 hp134 hp135
  refine lv_aload_n C0.1 C0.2.1 dX8_init_79 rfl (lv_at hl 0 rfl) ?_
  refine fl_bipush C0 dX8_init_80 (by decide) ?_
  refine fl_newi C0 hF127 (rgk 72 rfl) (by decide) (by decide) aw_117 (Nat.le_of_ble_eq_true rfl) (Nat.le_of_ble_eq_true rfl) dX8_init_82 (fun q136 H hq136 hF136 => ?_)
  have hF136 : FS D cy B (L109 ++ [q136]) (va_up K109 q136 388) (clrN P127 q136) J s.heap (clr I109 q136) H _ := hF136
  have h1q136 : 1 < q136 := hF136.ne0 (by rw [va_up_self]; decide)
  have n137 := nn hF127 hq136 k110 rfl
  have k137 := kn (t := 388) hF127 hq136 k110 rfl
  have n138 := nn hF127 hq136 kq109 rfl
  have k138 := kn (t := 388) hF127 hq136 kq109 rfl
  have n139 := nn hF127 hq136 k111 rfl
  have k139 := kn (t := 388) hF127 hq136 k111 rfl
  have n140 := nn hF127 hq136 k112 rfl
  have k140 := kn (t := 388) hF127 hq136 k112 rfl
  have n141 := nn hF127 hq136 k113 rfl
  have k141 := kn (t := 388) hF127 hq136 k113 rfl
  have n142 := nn hF127 hq136 k114 rfl
  have k142 := kn (t := 388) hF127 hq136 k114 rfl
  have n143 := nn hF127 hq136 k115 rfl
  have k143 := kn (t := 388) hF127 hq136 k115 rfl
  have n144 := nn hF127 hq136 k116 rfl
  have k144 := kn (t := 388) hF127 hq136 k116 rfl
  have n145 := nn hF127 hq136 k117 rfl
  have k145 := kn (t := 388) hF127 hq136 k117 rfl
  have n146 := nn hF127 hq136 k118 rfl
  have k146 := kn (t := 388) hF127 hq136 k118 rfl
  have z136 := k00 hE127 hF127 hq136 n137
  have hp147 := pn hF127 hq136 k110 rfl hp127
  have hp148 := pn hF127 hq136 k110 rfl hp128
  have hp149 := pn hF127 hq136 k110 rfl hp129
  have hp150 := pn hF127 hq136 k110 rfl hp130
  have hp151 := pn hF127 hq136 k110 rfl hp131
  have hp152 := pn hF127 hq136 k110 rfl hp132
  have hp153 := pn hF127 hq136 k110 rfl hp133
  have hp154 := pn hF127 hq136 k110 rfl hp134
  have hp155 := pn hF127 hq136 k110 rfl hp135
  have hWT136 := wn (t := 388) hF127 hq136 hWT127 (fun k => tt_arr 388 (by decide) k)
  have hE136 := en (t := 388) hE127 hF127 hq136
  have kq136 : va_up K109 q136 388 q136 = 388 := va_up_self _ _ _
  obtain ⟨L136, K136, P136, I136, eL136, eK136, eP136, eI136, hf⟩ := nwP_f hf hq136 (by omega)
  rw [eL136, eK136, eP136, eI136] at hF136
  rw [eK136] at k137 k138 k139 k140 k141 k142 k143 k144 k145 k146 kq136
  rw [eK136, eP136] at hWT136 hE136
  rw [eP136] at hp147 hp148 hp149 hp150 hp151 hp152 hp153 hp154 hp155
  refine fl_putFr (k := 11) ck_9 C0 hF136 hin k137 rfl (hF136.ne0 (by rw [kq136]; decide)) ⟨rfl, rfl, rfl, rfl⟩ ⟨rfl, rfl⟩ aw_885 dX8_init_84 (fun H locs hF156 => ?_)
  have hWT156 := wu (k := 11) (v := q136) hWT136 k137 (fun k => tt_arr 29 (by decide) k)
  have hE156 := eu (k := 11) (v := q136) hE136
  have hp156 := up_s P136 a0 11 q136
  have hp157 := (up_k P136 a0 a0 q136 (by decide : 10 ≠ 11)).trans hp147
  have hp158 := (up_k P136 a0 a0 q136 (by decide : 9 ≠ 11)).trans hp148
  have hp159 := (up_k P136 a0 a0 q136 (by decide : 8 ≠ 11)).trans hp149
  have hp160 := (up_k P136 a0 a0 q136 (by decide : 7 ≠ 11)).trans hp150
  have hp161 := (up_k P136 a0 a0 q136 (by decide : 5 ≠ 11)).trans hp151
  have hp162 := (up_k P136 a0 a0 q136 (by decide : 4 ≠ 11)).trans hp152
  have hp163 := (up_k P136 a0 a0 q136 (by decide : 3 ≠ 11)).trans hp153
  have hp164 := (up_k P136 a0 a0 q136 (by decide : 2 ≠ 11)).trans hp154
  have hp165 := (up_k P136 a0 a0 q136 (by decide : 1 ≠ 11)).trans hp155
  obtain ⟨P156, eP156, hf⟩ := bndP_f hf
  rw [eP156] at hF156 hWT156 hE156 hp156 hp157 hp158 hp159 hp160 hp161 hp162 hp163 hp164 hp165
  refine lv_aload_n C0.1 C0.2.1 dX8_init_87 rfl (lv_at hl 0 rfl) ?_
  refine fl_bipush C0 dX8_init_88 (by decide) ?_
  refine fl_newi C0 hF156 (rgk 24 rfl) (by decide) (by decide) aw_117 (Nat.le_of_ble_eq_true rfl) (Nat.le_of_ble_eq_true rfl) dX8_init_90 (fun q166 H hq166 hF166 => ?_)
  have hF166 : FS D cy B (L136 ++ [q166]) (va_up K136 q166 196) (clrN P156 q166) J s.heap (clr I136 q166) H _ := hF166
  have h1q166 : 1 < q166 := hF166.ne0 (by rw [va_up_self]; decide)
  have n167 := nn hF156 hq166 k137 rfl
  have k167 := kn (t := 196) hF156 hq166 k137 rfl
  have n168 := nn hF156 hq166 kq136 rfl
  have k168 := kn (t := 196) hF156 hq166 kq136 rfl
  have n169 := nn hF156 hq166 k138 rfl
  have k169 := kn (t := 196) hF156 hq166 k138 rfl
  have n170 := nn hF156 hq166 k139 rfl
  have k170 := kn (t := 196) hF156 hq166 k139 rfl
  have n171 := nn hF156 hq166 k140 rfl
  have k171 := kn (t := 196) hF156 hq166 k140 rfl
  have n172 := nn hF156 hq166 k141 rfl
  have k172 := kn (t := 196) hF156 hq166 k141 rfl
  have n173 := nn hF156 hq166 k142 rfl
  have k173 := kn (t := 196) hF156 hq166 k142 rfl
  have n174 := nn hF156 hq166 k143 rfl
  have k174 := kn (t := 196) hF156 hq166 k143 rfl
  have n175 := nn hF156 hq166 k144 rfl
  have k175 := kn (t := 196) hF156 hq166 k144 rfl
  have n176 := nn hF156 hq166 k145 rfl
  have k176 := kn (t := 196) hF156 hq166 k145 rfl
  have n177 := nn hF156 hq166 k146 rfl
  have k177 := kn (t := 196) hF156 hq166 k146 rfl
  have z166 := k00 hE156 hF156 hq166 n167
  have hp178 := pn hF156 hq166 k137 rfl hp156
  have hp179 := pn hF156 hq166 k137 rfl hp157
  have hp180 := pn hF156 hq166 k137 rfl hp158
  have hp181 := pn hF156 hq166 k137 rfl hp159
  have hp182 := pn hF156 hq166 k137 rfl hp160
  have hp183 := pn hF156 hq166 k137 rfl hp161
  have hp184 := pn hF156 hq166 k137 rfl hp162
  have hp185 := pn hF156 hq166 k137 rfl hp163
  have hp186 := pn hF156 hq166 k137 rfl hp164
  have hp187 := pn hF156 hq166 k137 rfl hp165
  have hWT166 := wn (t := 196) hF156 hq166 hWT156 (fun k => tt_arr 196 (by decide) k)
  have hE166 := en (t := 196) hE156 hF156 hq166
  have kq166 : va_up K136 q166 196 q166 = 196 := va_up_self _ _ _
  obtain ⟨L166, K166, P166, I166, eL166, eK166, eP166, eI166, hf⟩ := nwP_f hf hq166 (by omega)
  rw [eL166, eK166, eP166, eI166] at hF166
  rw [eK166] at k167 k168 k169 k170 k171 k172 k173 k174 k175 k176 k177 kq166
  rw [eK166, eP166] at hWT166 hE166
  rw [eP166] at hp178 hp179 hp180 hp181 hp182 hp183 hp184 hp185 hp186 hp187
  refine fl_putFr (k := 12) ck_9 C0 hF166 hin k167 rfl (hF166.ne0 (by rw [kq166]; decide)) ⟨rfl, rfl, rfl, rfl⟩ ⟨rfl, rfl⟩ aw_886 dX8_init_92 (fun H locs hF188 => ?_)
  have hWT188 := wu (k := 12) (v := q166) hWT166 k167 (fun k => tt_arr 29 (by decide) k)
  have hE188 := eu (k := 12) (v := q166) hE166
  have hp188 := up_s P166 a0 12 q166
  have hp189 := (up_k P166 a0 a0 q166 (by decide : 11 ≠ 12)).trans hp178
  have hp190 := (up_k P166 a0 a0 q166 (by decide : 10 ≠ 12)).trans hp179
  have hp191 := (up_k P166 a0 a0 q166 (by decide : 9 ≠ 12)).trans hp180
  have hp192 := (up_k P166 a0 a0 q166 (by decide : 8 ≠ 12)).trans hp181
  have hp193 := (up_k P166 a0 a0 q166 (by decide : 7 ≠ 12)).trans hp182
  have hp194 := (up_k P166 a0 a0 q166 (by decide : 5 ≠ 12)).trans hp183
  have hp195 := (up_k P166 a0 a0 q166 (by decide : 4 ≠ 12)).trans hp184
  have hp196 := (up_k P166 a0 a0 q166 (by decide : 3 ≠ 12)).trans hp185
  have hp197 := (up_k P166 a0 a0 q166 (by decide : 2 ≠ 12)).trans hp186
  have hp198 := (up_k P166 a0 a0 q166 (by decide : 1 ≠ 12)).trans hp187
  obtain ⟨P188, eP188, hf⟩ := bndP_f hf
  rw [eP188] at hF188 hWT188 hE188 hp188 hp189 hp190 hp191 hp192 hp193 hp194 hp195 hp196 hp197 hp198
  refine lv_aload_n C0.1 C0.2.1 dX8_init_95 rfl (lv_at hl 0 rfl) ?_
  refine fl_bipush C0 dX8_init_96 (by decide) ?_
  refine fl_newi C0 hF188 (rgk 60 rfl) (by decide) (by decide) aw_117 (Nat.le_of_ble_eq_true rfl) (Nat.le_of_ble_eq_true rfl) dX8_init_98 (fun q199 H hq199 hF199 => ?_)
  have hF199 : FS D cy B (L166 ++ [q199]) (va_up K166 q199 340) (clrN P188 q199) J s.heap (clr I166 q199) H _ := hF199
  have h1q199 : 1 < q199 := hF199.ne0 (by rw [va_up_self]; decide)
  have n200 := nn hF188 hq199 k167 rfl
  have k200 := kn (t := 340) hF188 hq199 k167 rfl
  have n201 := nn hF188 hq199 kq166 rfl
  have k201 := kn (t := 340) hF188 hq199 kq166 rfl
  have n202 := nn hF188 hq199 k168 rfl
  have k202 := kn (t := 340) hF188 hq199 k168 rfl
  have n203 := nn hF188 hq199 k169 rfl
  have k203 := kn (t := 340) hF188 hq199 k169 rfl
  have n204 := nn hF188 hq199 k170 rfl
  have k204 := kn (t := 340) hF188 hq199 k170 rfl
  have n205 := nn hF188 hq199 k171 rfl
  have k205 := kn (t := 340) hF188 hq199 k171 rfl
  have n206 := nn hF188 hq199 k172 rfl
  have k206 := kn (t := 340) hF188 hq199 k172 rfl
  have n207 := nn hF188 hq199 k173 rfl
  have k207 := kn (t := 340) hF188 hq199 k173 rfl
  have n208 := nn hF188 hq199 k174 rfl
  have k208 := kn (t := 340) hF188 hq199 k174 rfl
  have n209 := nn hF188 hq199 k175 rfl
  have k209 := kn (t := 340) hF188 hq199 k175 rfl
  have n210 := nn hF188 hq199 k176 rfl
  have k210 := kn (t := 340) hF188 hq199 k176 rfl
  have n211 := nn hF188 hq199 k177 rfl
  have k211 := kn (t := 340) hF188 hq199 k177 rfl
  have z199 := k00 hE188 hF188 hq199 n200
  have hp212 := pn hF188 hq199 k167 rfl hp188
  have hp213 := pn hF188 hq199 k167 rfl hp189
  have hp214 := pn hF188 hq199 k167 rfl hp190
  have hp215 := pn hF188 hq199 k167 rfl hp191
  have hp216 := pn hF188 hq199 k167 rfl hp192
  have hp217 := pn hF188 hq199 k167 rfl hp193
  have hp218 := pn hF188 hq199 k167 rfl hp194
  have hp219 := pn hF188 hq199 k167 rfl hp195
  have hp220 := pn hF188 hq199 k167 rfl hp196
  have hp221 := pn hF188 hq199 k167 rfl hp197
  have hp222 := pn hF188 hq199 k167 rfl hp198
  have hWT199 := wn (t := 340) hF188 hq199 hWT188 (fun k => tt_arr 340 (by decide) k)
  have hE199 := en (t := 340) hE188 hF188 hq199
  have kq199 : va_up K166 q199 340 q199 = 340 := va_up_self _ _ _
  obtain ⟨L199, K199, P199, I199, eL199, eK199, eP199, eI199, hf⟩ := nwP_f hf hq199 (by omega)
  rw [eL199, eK199, eP199, eI199] at hF199
  rw [eK199] at k200 k201 k202 k203 k204 k205 k206 k207 k208 k209 k210 k211 kq199
  rw [eK199, eP199] at hWT199 hE199
  rw [eP199] at hp212 hp213 hp214 hp215 hp216 hp217 hp218 hp219 hp220 hp221 hp222
  refine fl_putFr (k := 14) ck_9 C0 hF199 hin k200 rfl (hF199.ne0 (by rw [kq199]; decide)) ⟨rfl, rfl, rfl, rfl⟩ ⟨rfl, rfl⟩ aw_888 dX8_init_100 (fun H locs hF223 => ?_)
  have hWT223 := wu (k := 14) (v := q199) hWT199 k200 (fun k => tt_arr 29 (by decide) k)
  have hE223 := eu (k := 14) (v := q199) hE199
  have hp223 := up_s P199 a0 14 q199
  have hp224 := (up_k P199 a0 a0 q199 (by decide : 12 ≠ 14)).trans hp212
  have hp225 := (up_k P199 a0 a0 q199 (by decide : 11 ≠ 14)).trans hp213
  have hp226 := (up_k P199 a0 a0 q199 (by decide : 10 ≠ 14)).trans hp214
  have hp227 := (up_k P199 a0 a0 q199 (by decide : 9 ≠ 14)).trans hp215
  have hp228 := (up_k P199 a0 a0 q199 (by decide : 8 ≠ 14)).trans hp216
  have hp229 := (up_k P199 a0 a0 q199 (by decide : 7 ≠ 14)).trans hp217
  have hp230 := (up_k P199 a0 a0 q199 (by decide : 5 ≠ 14)).trans hp218
  have hp231 := (up_k P199 a0 a0 q199 (by decide : 4 ≠ 14)).trans hp219
  have hp232 := (up_k P199 a0 a0 q199 (by decide : 3 ≠ 14)).trans hp220
  have hp233 := (up_k P199 a0 a0 q199 (by decide : 2 ≠ 14)).trans hp221
  have hp234 := (up_k P199 a0 a0 q199 (by decide : 1 ≠ 14)).trans hp222
  obtain ⟨P223, eP223, hf⟩ := bndP_f hf
  rw [eP223] at hF223 hWT223 hE223 hp223 hp224 hp225 hp226 hp227 hp228 hp229 hp230 hp231 hp232 hp233 hp234
  refine lv_aload_n C0.1 C0.2.1 dX8_init_103 rfl (lv_at hl 0 rfl) ?_
  refine fl_bipush C0 dX8_init_104 (by decide) ?_
  refine fl_newi C0 hF223 (rgk 60 rfl) (by decide) (by decide) aw_117 (Nat.le_of_ble_eq_true rfl) (Nat.le_of_ble_eq_true rfl) dX8_init_106 (fun q235 H hq235 hF235 => ?_)
  have hF235 : FS D cy B (L199 ++ [q235]) (va_up K199 q235 340) (clrN P223 q235) J s.heap (clr I199 q235) H _ := hF235
  have h1q235 : 1 < q235 := hF235.ne0 (by rw [va_up_self]; decide)
  have n236 := nn hF223 hq235 k200 rfl
  have k236 := kn (t := 340) hF223 hq235 k200 rfl
  have n237 := nn hF223 hq235 kq199 rfl
  have k237 := kn (t := 340) hF223 hq235 kq199 rfl
  have n238 := nn hF223 hq235 k201 rfl
  have k238 := kn (t := 340) hF223 hq235 k201 rfl
  have n239 := nn hF223 hq235 k202 rfl
  have k239 := kn (t := 340) hF223 hq235 k202 rfl
  have n240 := nn hF223 hq235 k203 rfl
  have k240 := kn (t := 340) hF223 hq235 k203 rfl
  have n241 := nn hF223 hq235 k204 rfl
  have k241 := kn (t := 340) hF223 hq235 k204 rfl
  have n242 := nn hF223 hq235 k205 rfl
  have k242 := kn (t := 340) hF223 hq235 k205 rfl
  have n243 := nn hF223 hq235 k206 rfl
  have k243 := kn (t := 340) hF223 hq235 k206 rfl
  have n244 := nn hF223 hq235 k207 rfl
  have k244 := kn (t := 340) hF223 hq235 k207 rfl
  have n245 := nn hF223 hq235 k208 rfl
  have k245 := kn (t := 340) hF223 hq235 k208 rfl
  have n246 := nn hF223 hq235 k209 rfl
  have k246 := kn (t := 340) hF223 hq235 k209 rfl
  have n247 := nn hF223 hq235 k210 rfl
  have k247 := kn (t := 340) hF223 hq235 k210 rfl
  have n248 := nn hF223 hq235 k211 rfl
  have k248 := kn (t := 340) hF223 hq235 k211 rfl
  have z235 := k00 hE223 hF223 hq235 n236
  have hp249 := pn hF223 hq235 k200 rfl hp223
  have hp250 := pn hF223 hq235 k200 rfl hp224
  have hp251 := pn hF223 hq235 k200 rfl hp225
  have hp252 := pn hF223 hq235 k200 rfl hp226
  have hp253 := pn hF223 hq235 k200 rfl hp227
  have hp254 := pn hF223 hq235 k200 rfl hp228
  have hp255 := pn hF223 hq235 k200 rfl hp229
  have hp256 := pn hF223 hq235 k200 rfl hp230
  have hp257 := pn hF223 hq235 k200 rfl hp231
  have hp258 := pn hF223 hq235 k200 rfl hp232
  have hp259 := pn hF223 hq235 k200 rfl hp233
  have hp260 := pn hF223 hq235 k200 rfl hp234
  have hWT235 := wn (t := 340) hF223 hq235 hWT223 (fun k => tt_arr 340 (by decide) k)
  have hE235 := en (t := 340) hE223 hF223 hq235
  have kq235 : va_up K199 q235 340 q235 = 340 := va_up_self _ _ _
  obtain ⟨L235, K235, P235, I235, eL235, eK235, eP235, eI235, hf⟩ := nwP_f hf hq235 (by omega)
  rw [eL235, eK235, eP235, eI235] at hF235
  rw [eK235] at k236 k237 k238 k239 k240 k241 k242 k243 k244 k245 k246 k247 k248 kq235
  rw [eK235, eP235] at hWT235 hE235
  rw [eP235] at hp249 hp250 hp251 hp252 hp253 hp254 hp255 hp256 hp257 hp258 hp259 hp260
  refine fl_putFr (k := 15) ck_9 C0 hF235 hin k236 rfl (hF235.ne0 (by rw [kq235]; decide)) ⟨rfl, rfl, rfl, rfl⟩ ⟨rfl, rfl⟩ aw_889 dX8_init_108 (fun H locs hF261 => ?_)
  have hWT261 := wu (k := 15) (v := q235) hWT235 k236 (fun k => tt_arr 29 (by decide) k)
  have hE261 := eu (k := 15) (v := q235) hE235
  have hp261 := up_s P235 a0 15 q235
  have hp262 := (up_k P235 a0 a0 q235 (by decide : 14 ≠ 15)).trans hp249
  have hp263 := (up_k P235 a0 a0 q235 (by decide : 12 ≠ 15)).trans hp250
  have hp264 := (up_k P235 a0 a0 q235 (by decide : 11 ≠ 15)).trans hp251
  have hp265 := (up_k P235 a0 a0 q235 (by decide : 10 ≠ 15)).trans hp252
  have hp266 := (up_k P235 a0 a0 q235 (by decide : 9 ≠ 15)).trans hp253
  have hp267 := (up_k P235 a0 a0 q235 (by decide : 8 ≠ 15)).trans hp254
  have hp268 := (up_k P235 a0 a0 q235 (by decide : 7 ≠ 15)).trans hp255
  have hp269 := (up_k P235 a0 a0 q235 (by decide : 5 ≠ 15)).trans hp256
  have hp270 := (up_k P235 a0 a0 q235 (by decide : 4 ≠ 15)).trans hp257
  have hp271 := (up_k P235 a0 a0 q235 (by decide : 3 ≠ 15)).trans hp258
  have hp272 := (up_k P235 a0 a0 q235 (by decide : 2 ≠ 15)).trans hp259
  have hp273 := (up_k P235 a0 a0 q235 (by decide : 1 ≠ 15)).trans hp260
  obtain ⟨P261, eP261, hf⟩ := bndP_f hf
  rw [eP261] at hF261 hWT261 hE261 hp261 hp262 hp263 hp264 hp265 hp266 hp267 hp268 hp269 hp270 hp271 hp272 hp273
  refine lv_aload_n C0.1 C0.2.1 dX8_init_111 rfl (lv_at hl 0 rfl) ?_
  refine fl_bipush C0 dX8_init_112 (by decide) ?_
  refine fl_newi C0 hF261 (rgk 60 rfl) (by decide) (by decide) aw_117 (Nat.le_of_ble_eq_true rfl) (Nat.le_of_ble_eq_true rfl) dX8_init_114 (fun q274 H hq274 hF274 => ?_)
  have hF274 : FS D cy B (L235 ++ [q274]) (va_up K235 q274 340) (clrN P261 q274) J s.heap (clr I235 q274) H _ := hF274
  have h1q274 : 1 < q274 := hF274.ne0 (by rw [va_up_self]; decide)
  have n275 := nn hF261 hq274 k236 rfl
  have k275 := kn (t := 340) hF261 hq274 k236 rfl
  have n276 := nn hF261 hq274 kq235 rfl
  have k276 := kn (t := 340) hF261 hq274 kq235 rfl
  have n277 := nn hF261 hq274 k237 rfl
  have k277 := kn (t := 340) hF261 hq274 k237 rfl
  have n278 := nn hF261 hq274 k238 rfl
  have k278 := kn (t := 340) hF261 hq274 k238 rfl
  have n279 := nn hF261 hq274 k239 rfl
  have k279 := kn (t := 340) hF261 hq274 k239 rfl
  have n280 := nn hF261 hq274 k240 rfl
  have k280 := kn (t := 340) hF261 hq274 k240 rfl
  have n281 := nn hF261 hq274 k241 rfl
  have k281 := kn (t := 340) hF261 hq274 k241 rfl
  have n282 := nn hF261 hq274 k242 rfl
  have k282 := kn (t := 340) hF261 hq274 k242 rfl
  have n283 := nn hF261 hq274 k243 rfl
  have k283 := kn (t := 340) hF261 hq274 k243 rfl
  have n284 := nn hF261 hq274 k244 rfl
  have k284 := kn (t := 340) hF261 hq274 k244 rfl
  have n285 := nn hF261 hq274 k245 rfl
  have k285 := kn (t := 340) hF261 hq274 k245 rfl
  have n286 := nn hF261 hq274 k246 rfl
  have k286 := kn (t := 340) hF261 hq274 k246 rfl
  have n287 := nn hF261 hq274 k247 rfl
  have k287 := kn (t := 340) hF261 hq274 k247 rfl
  have n288 := nn hF261 hq274 k248 rfl
  have k288 := kn (t := 340) hF261 hq274 k248 rfl
  have z274 := k00 hE261 hF261 hq274 n275
  have hp289 := pn hF261 hq274 k236 rfl hp261
  have hp290 := pn hF261 hq274 k236 rfl hp262
  have hp291 := pn hF261 hq274 k236 rfl hp263
  have hp292 := pn hF261 hq274 k236 rfl hp264
  have hp293 := pn hF261 hq274 k236 rfl hp265
  have hp294 := pn hF261 hq274 k236 rfl hp266
  have hp295 := pn hF261 hq274 k236 rfl hp267
  have hp296 := pn hF261 hq274 k236 rfl hp268
  have hp297 := pn hF261 hq274 k236 rfl hp269
  have hp298 := pn hF261 hq274 k236 rfl hp270
  have hp299 := pn hF261 hq274 k236 rfl hp271
  have hp300 := pn hF261 hq274 k236 rfl hp272
  have hp301 := pn hF261 hq274 k236 rfl hp273
  have hWT274 := wn (t := 340) hF261 hq274 hWT261 (fun k => tt_arr 340 (by decide) k)
  have hE274 := en (t := 340) hE261 hF261 hq274
  have kq274 : va_up K235 q274 340 q274 = 340 := va_up_self _ _ _
  obtain ⟨L274, K274, P274, I274, eL274, eK274, eP274, eI274, hf⟩ := nwP_f hf hq274 (by omega)
  rw [eL274, eK274, eP274, eI274] at hF274
  rw [eK274] at k275 k276 k277 k278 k279 k280 k281 k282 k283 k284 k285 k286 k287 k288 kq274
  rw [eK274, eP274] at hWT274 hE274
  rw [eP274] at hp289 hp290 hp291 hp292 hp293 hp294 hp295 hp296 hp297 hp298 hp299 hp300 hp301
  refine fl_putFr (k := 16) ck_9 C0 hF274 hin k275 rfl (hF274.ne0 (by rw [kq274]; decide)) ⟨rfl, rfl, rfl, rfl⟩ ⟨rfl, rfl⟩ aw_890 dX8_init_116 (fun H locs hF302 => ?_)
  have hWT302 := wu (k := 16) (v := q274) hWT274 k275 (fun k => tt_arr 29 (by decide) k)
  have hE302 := eu (k := 16) (v := q274) hE274
  have hp302 := up_s P274 a0 16 q274
  have hp303 := (up_k P274 a0 a0 q274 (by decide : 15 ≠ 16)).trans hp289
  have hp304 := (up_k P274 a0 a0 q274 (by decide : 14 ≠ 16)).trans hp290
  have hp305 := (up_k P274 a0 a0 q274 (by decide : 12 ≠ 16)).trans hp291
  have hp306 := (up_k P274 a0 a0 q274 (by decide : 11 ≠ 16)).trans hp292
  have hp307 := (up_k P274 a0 a0 q274 (by decide : 10 ≠ 16)).trans hp293
  have hp308 := (up_k P274 a0 a0 q274 (by decide : 9 ≠ 16)).trans hp294
  have hp309 := (up_k P274 a0 a0 q274 (by decide : 8 ≠ 16)).trans hp295
  have hp310 := (up_k P274 a0 a0 q274 (by decide : 7 ≠ 16)).trans hp296
  have hp311 := (up_k P274 a0 a0 q274 (by decide : 5 ≠ 16)).trans hp297
  have hp312 := (up_k P274 a0 a0 q274 (by decide : 4 ≠ 16)).trans hp298
  have hp313 := (up_k P274 a0 a0 q274 (by decide : 3 ≠ 16)).trans hp299
  have hp314 := (up_k P274 a0 a0 q274 (by decide : 2 ≠ 16)).trans hp300
  have hp315 := (up_k P274 a0 a0 q274 (by decide : 1 ≠ 16)).trans hp301
  obtain ⟨P302, eP302, hf⟩ := bndP_f hf
  rw [eP302] at hF302 hWT302 hE302 hp302 hp303 hp304 hp305 hp306 hp307 hp308 hp309 hp310 hp311 hp312 hp313 hp314 hp315
  refine lv_aload_n C0.1 C0.2.1 dX8_init_119 rfl (lv_at hl 0 rfl) ?_
  refine fl_bipush C0 dX8_init_120 (by decide) ?_
  refine fl_newi C0 hF302 (rgk 60 rfl) (by decide) (by decide) aw_117 (Nat.le_of_ble_eq_true rfl) (Nat.le_of_ble_eq_true rfl) dX8_init_122 (fun q316 H hq316 hF316 => ?_)
  have hF316 : FS D cy B (L274 ++ [q316]) (va_up K274 q316 340) (clrN P302 q316) J s.heap (clr I274 q316) H _ := hF316
  have h1q316 : 1 < q316 := hF316.ne0 (by rw [va_up_self]; decide)
  have n317 := nn hF302 hq316 k275 rfl
  have k317 := kn (t := 340) hF302 hq316 k275 rfl
  have n318 := nn hF302 hq316 kq274 rfl
  have k318 := kn (t := 340) hF302 hq316 kq274 rfl
  have n319 := nn hF302 hq316 k276 rfl
  have k319 := kn (t := 340) hF302 hq316 k276 rfl
  have n320 := nn hF302 hq316 k277 rfl
  have k320 := kn (t := 340) hF302 hq316 k277 rfl
  have n321 := nn hF302 hq316 k278 rfl
  have k321 := kn (t := 340) hF302 hq316 k278 rfl
  have n322 := nn hF302 hq316 k279 rfl
  have k322 := kn (t := 340) hF302 hq316 k279 rfl
  have n323 := nn hF302 hq316 k280 rfl
  have k323 := kn (t := 340) hF302 hq316 k280 rfl
  have n324 := nn hF302 hq316 k281 rfl
  have k324 := kn (t := 340) hF302 hq316 k281 rfl
  have n325 := nn hF302 hq316 k282 rfl
  have k325 := kn (t := 340) hF302 hq316 k282 rfl
  have n326 := nn hF302 hq316 k283 rfl
  have k326 := kn (t := 340) hF302 hq316 k283 rfl
  have n327 := nn hF302 hq316 k284 rfl
  have k327 := kn (t := 340) hF302 hq316 k284 rfl
  have n328 := nn hF302 hq316 k285 rfl
  have k328 := kn (t := 340) hF302 hq316 k285 rfl
  have n329 := nn hF302 hq316 k286 rfl
  have k329 := kn (t := 340) hF302 hq316 k286 rfl
  have n330 := nn hF302 hq316 k287 rfl
  have k330 := kn (t := 340) hF302 hq316 k287 rfl
  have n331 := nn hF302 hq316 k288 rfl
  have k331 := kn (t := 340) hF302 hq316 k288 rfl
  have z316 := k00 hE302 hF302 hq316 n317
  have hp332 := pn hF302 hq316 k275 rfl hp302
  have hp333 := pn hF302 hq316 k275 rfl hp303
  have hp334 := pn hF302 hq316 k275 rfl hp304
  have hp335 := pn hF302 hq316 k275 rfl hp305
  have hp336 := pn hF302 hq316 k275 rfl hp306
  have hp337 := pn hF302 hq316 k275 rfl hp307
  have hp338 := pn hF302 hq316 k275 rfl hp308
  have hp339 := pn hF302 hq316 k275 rfl hp309
  have hp340 := pn hF302 hq316 k275 rfl hp310
  have hp341 := pn hF302 hq316 k275 rfl hp311
  have hp342 := pn hF302 hq316 k275 rfl hp312
  have hp343 := pn hF302 hq316 k275 rfl hp313
  have hp344 := pn hF302 hq316 k275 rfl hp314
  have hp345 := pn hF302 hq316 k275 rfl hp315
  have hWT316 := wn (t := 340) hF302 hq316 hWT302 (fun k => tt_arr 340 (by decide) k)
  have hE316 := en (t := 340) hE302 hF302 hq316
  have kq316 : va_up K274 q316 340 q316 = 340 := va_up_self _ _ _
  obtain ⟨L316, K316, P316, I316, eL316, eK316, eP316, eI316, hf⟩ := nwP_f hf hq316 (by omega)
  rw [eL316, eK316, eP316, eI316] at hF316
  rw [eK316] at k317 k318 k319 k320 k321 k322 k323 k324 k325 k326 k327 k328 k329 k330 k331 kq316
  rw [eK316, eP316] at hWT316 hE316
  rw [eP316] at hp332 hp333 hp334 hp335 hp336 hp337 hp338 hp339 hp340 hp341 hp342 hp343 hp344 hp345
  refine fl_putFr (k := 17) ck_9 C0 hF316 hin k317 rfl (hF316.ne0 (by rw [kq316]; decide)) ⟨rfl, rfl, rfl, rfl⟩ ⟨rfl, rfl⟩ aw_891 dX8_init_124 (fun H locs hF346 => ?_)
  have hWT346 := wu (k := 17) (v := q316) hWT316 k317 (fun k => tt_arr 29 (by decide) k)
  have hE346 := eu (k := 17) (v := q316) hE316
  have hp346 := up_s P316 a0 17 q316
  have hp347 := (up_k P316 a0 a0 q316 (by decide : 16 ≠ 17)).trans hp332
  have hp348 := (up_k P316 a0 a0 q316 (by decide : 15 ≠ 17)).trans hp333
  have hp349 := (up_k P316 a0 a0 q316 (by decide : 14 ≠ 17)).trans hp334
  have hp350 := (up_k P316 a0 a0 q316 (by decide : 12 ≠ 17)).trans hp335
  have hp351 := (up_k P316 a0 a0 q316 (by decide : 11 ≠ 17)).trans hp336
  have hp352 := (up_k P316 a0 a0 q316 (by decide : 10 ≠ 17)).trans hp337
  have hp353 := (up_k P316 a0 a0 q316 (by decide : 9 ≠ 17)).trans hp338
  have hp354 := (up_k P316 a0 a0 q316 (by decide : 8 ≠ 17)).trans hp339
  have hp355 := (up_k P316 a0 a0 q316 (by decide : 7 ≠ 17)).trans hp340
  have hp356 := (up_k P316 a0 a0 q316 (by decide : 5 ≠ 17)).trans hp341
  have hp357 := (up_k P316 a0 a0 q316 (by decide : 4 ≠ 17)).trans hp342
  have hp358 := (up_k P316 a0 a0 q316 (by decide : 3 ≠ 17)).trans hp343
  have hp359 := (up_k P316 a0 a0 q316 (by decide : 2 ≠ 17)).trans hp344
  have hp360 := (up_k P316 a0 a0 q316 (by decide : 1 ≠ 17)).trans hp345
  obtain ⟨P346, eP346, hf⟩ := bndP_f hf
  rw [eP346] at hF346 hWT346 hE346 hp346 hp347 hp348 hp349 hp350 hp351 hp352 hp353 hp354 hp355 hp356 hp357 hp358 hp359 hp360
  refine lv_aload_n C0.1 C0.2.1 dX8_init_127 rfl (lv_at hl 0 rfl) ?_
  refine fl_bipush C0 dX8_init_128 (by decide) ?_
  refine fl_newi C0 hF346 (rgk 60 rfl) (by decide) (by decide) aw_117 (Nat.le_of_ble_eq_true rfl) (Nat.le_of_ble_eq_true rfl) dX8_init_130 (fun q361 H hq361 hF361 => ?_)
  have hF361 : FS D cy B (L316 ++ [q361]) (va_up K316 q361 340) (clrN P346 q361) J s.heap (clr I316 q361) H _ := hF361
  have h1q361 : 1 < q361 := hF361.ne0 (by rw [va_up_self]; decide)
  have n362 := nn hF346 hq361 k317 rfl
  have k362 := kn (t := 340) hF346 hq361 k317 rfl
  have n363 := nn hF346 hq361 kq316 rfl
  have k363 := kn (t := 340) hF346 hq361 kq316 rfl
  have n364 := nn hF346 hq361 k318 rfl
  have k364 := kn (t := 340) hF346 hq361 k318 rfl
  have n365 := nn hF346 hq361 k319 rfl
  have k365 := kn (t := 340) hF346 hq361 k319 rfl
  have n366 := nn hF346 hq361 k320 rfl
  have k366 := kn (t := 340) hF346 hq361 k320 rfl
  have n367 := nn hF346 hq361 k321 rfl
  have k367 := kn (t := 340) hF346 hq361 k321 rfl
  have n368 := nn hF346 hq361 k322 rfl
  have k368 := kn (t := 340) hF346 hq361 k322 rfl
  have n369 := nn hF346 hq361 k323 rfl
  have k369 := kn (t := 340) hF346 hq361 k323 rfl
  have n370 := nn hF346 hq361 k324 rfl
  have k370 := kn (t := 340) hF346 hq361 k324 rfl
  have n371 := nn hF346 hq361 k325 rfl
  have k371 := kn (t := 340) hF346 hq361 k325 rfl
  have n372 := nn hF346 hq361 k326 rfl
  have k372 := kn (t := 340) hF346 hq361 k326 rfl
  have n373 := nn hF346 hq361 k327 rfl
  have k373 := kn (t := 340) hF346 hq361 k327 rfl
  have n374 := nn hF346 hq361 k328 rfl
  have k374 := kn (t := 340) hF346 hq361 k328 rfl
  have n375 := nn hF346 hq361 k329 rfl
  have k375 := kn (t := 340) hF346 hq361 k329 rfl
  have n376 := nn hF346 hq361 k330 rfl
  have k376 := kn (t := 340) hF346 hq361 k330 rfl
  have n377 := nn hF346 hq361 k331 rfl
  have k377 := kn (t := 340) hF346 hq361 k331 rfl
  have z361 := k00 hE346 hF346 hq361 n362
  have hp378 := pn hF346 hq361 k317 rfl hp346
  have hp379 := pn hF346 hq361 k317 rfl hp347
  have hp380 := pn hF346 hq361 k317 rfl hp348
  have hp381 := pn hF346 hq361 k317 rfl hp349
  have hp382 := pn hF346 hq361 k317 rfl hp350
  have hp383 := pn hF346 hq361 k317 rfl hp351
  have hp384 := pn hF346 hq361 k317 rfl hp352
  have hp385 := pn hF346 hq361 k317 rfl hp353
  have hp386 := pn hF346 hq361 k317 rfl hp354
  have hp387 := pn hF346 hq361 k317 rfl hp355
  have hp388 := pn hF346 hq361 k317 rfl hp356
  have hp389 := pn hF346 hq361 k317 rfl hp357
  have hp390 := pn hF346 hq361 k317 rfl hp358
  have hp391 := pn hF346 hq361 k317 rfl hp359
  have hp392 := pn hF346 hq361 k317 rfl hp360
  have hWT361 := wn (t := 340) hF346 hq361 hWT346 (fun k => tt_arr 340 (by decide) k)
  have hE361 := en (t := 340) hE346 hF346 hq361
  have kq361 : va_up K316 q361 340 q361 = 340 := va_up_self _ _ _
  obtain ⟨L361, K361, P361, I361, eL361, eK361, eP361, eI361, hf⟩ := nwP_f hf hq361 (by omega)
  rw [eL361, eK361, eP361, eI361] at hF361
  rw [eK361] at k362 k363 k364 k365 k366 k367 k368 k369 k370 k371 k372 k373 k374 k375 k376 k377 kq361
  rw [eK361, eP361] at hWT361 hE361
  rw [eP361] at hp378 hp379 hp380 hp381 hp382 hp383 hp384 hp385 hp386 hp387 hp388 hp389 hp390 hp391 hp392
  refine fl_putFr (k := 18) ck_9 C0 hF361 hin k362 rfl (hF361.ne0 (by rw [kq361]; decide)) ⟨rfl, rfl, rfl, rfl⟩ ⟨rfl, rfl⟩ aw_892 dX8_init_132 (fun H locs hF393 => ?_)
  have hWT393 := wu (k := 18) (v := q361) hWT361 k362 (fun k => tt_arr 29 (by decide) k)
  have hE393 := eu (k := 18) (v := q361) hE361
  have hp393 := up_s P361 a0 18 q361
  have hp394 := (up_k P361 a0 a0 q361 (by decide : 17 ≠ 18)).trans hp378
  have hp395 := (up_k P361 a0 a0 q361 (by decide : 16 ≠ 18)).trans hp379
  have hp396 := (up_k P361 a0 a0 q361 (by decide : 15 ≠ 18)).trans hp380
  have hp397 := (up_k P361 a0 a0 q361 (by decide : 14 ≠ 18)).trans hp381
  have hp398 := (up_k P361 a0 a0 q361 (by decide : 12 ≠ 18)).trans hp382
  have hp399 := (up_k P361 a0 a0 q361 (by decide : 11 ≠ 18)).trans hp383
  have hp400 := (up_k P361 a0 a0 q361 (by decide : 10 ≠ 18)).trans hp384
  have hp401 := (up_k P361 a0 a0 q361 (by decide : 9 ≠ 18)).trans hp385
  have hp402 := (up_k P361 a0 a0 q361 (by decide : 8 ≠ 18)).trans hp386
  have hp403 := (up_k P361 a0 a0 q361 (by decide : 7 ≠ 18)).trans hp387
  have hp404 := (up_k P361 a0 a0 q361 (by decide : 5 ≠ 18)).trans hp388
  have hp405 := (up_k P361 a0 a0 q361 (by decide : 4 ≠ 18)).trans hp389
  have hp406 := (up_k P361 a0 a0 q361 (by decide : 3 ≠ 18)).trans hp390
  have hp407 := (up_k P361 a0 a0 q361 (by decide : 2 ≠ 18)).trans hp391
  have hp408 := (up_k P361 a0 a0 q361 (by decide : 1 ≠ 18)).trans hp392
  obtain ⟨P393, eP393, hf⟩ := bndP_f hf
  rw [eP393] at hF393 hWT393 hE393 hp393 hp394 hp395 hp396 hp397 hp398 hp399 hp400 hp401 hp402 hp403 hp404 hp405 hp406 hp407 hp408
  refine lv_aload_n C0.1 C0.2.1 dX8_init_135 rfl (lv_at hl 0 rfl) ?_
  refine fl_bipush C0 dX8_init_136 (by decide) ?_
  refine fl_newi C0 hF393 (rgk 60 rfl) (by decide) (by decide) aw_117 (Nat.le_of_ble_eq_true rfl) (Nat.le_of_ble_eq_true rfl) dX8_init_138 (fun q409 H hq409 hF409 => ?_)
  have hF409 : FS D cy B (L361 ++ [q409]) (va_up K361 q409 340) (clrN P393 q409) J s.heap (clr I361 q409) H _ := hF409
  have h1q409 : 1 < q409 := hF409.ne0 (by rw [va_up_self]; decide)
  have n410 := nn hF393 hq409 k362 rfl
  have k410 := kn (t := 340) hF393 hq409 k362 rfl
  have n411 := nn hF393 hq409 kq361 rfl
  have k411 := kn (t := 340) hF393 hq409 kq361 rfl
  have n412 := nn hF393 hq409 k363 rfl
  have k412 := kn (t := 340) hF393 hq409 k363 rfl
  have n413 := nn hF393 hq409 k364 rfl
  have k413 := kn (t := 340) hF393 hq409 k364 rfl
  have n414 := nn hF393 hq409 k365 rfl
  have k414 := kn (t := 340) hF393 hq409 k365 rfl
  have n415 := nn hF393 hq409 k366 rfl
  have k415 := kn (t := 340) hF393 hq409 k366 rfl
  have n416 := nn hF393 hq409 k367 rfl
  have k416 := kn (t := 340) hF393 hq409 k367 rfl
  have n417 := nn hF393 hq409 k368 rfl
  have k417 := kn (t := 340) hF393 hq409 k368 rfl
  have n418 := nn hF393 hq409 k369 rfl
  have k418 := kn (t := 340) hF393 hq409 k369 rfl
  have n419 := nn hF393 hq409 k370 rfl
  have k419 := kn (t := 340) hF393 hq409 k370 rfl
  have n420 := nn hF393 hq409 k371 rfl
  have k420 := kn (t := 340) hF393 hq409 k371 rfl
  have n421 := nn hF393 hq409 k372 rfl
  have k421 := kn (t := 340) hF393 hq409 k372 rfl
  have n422 := nn hF393 hq409 k373 rfl
  have k422 := kn (t := 340) hF393 hq409 k373 rfl
  have n423 := nn hF393 hq409 k374 rfl
  have k423 := kn (t := 340) hF393 hq409 k374 rfl
  have n424 := nn hF393 hq409 k375 rfl
  have k424 := kn (t := 340) hF393 hq409 k375 rfl
  have n425 := nn hF393 hq409 k376 rfl
  have k425 := kn (t := 340) hF393 hq409 k376 rfl
  have n426 := nn hF393 hq409 k377 rfl
  have k426 := kn (t := 340) hF393 hq409 k377 rfl
  have z409 := k00 hE393 hF393 hq409 n410
  have hp427 := pn hF393 hq409 k362 rfl hp393
  have hp428 := pn hF393 hq409 k362 rfl hp394
  have hp429 := pn hF393 hq409 k362 rfl hp395
  have hp430 := pn hF393 hq409 k362 rfl hp396
  have hp431 := pn hF393 hq409 k362 rfl hp397
  have hp432 := pn hF393 hq409 k362 rfl hp398
  have hp433 := pn hF393 hq409 k362 rfl hp399
  have hp434 := pn hF393 hq409 k362 rfl hp400
  have hp435 := pn hF393 hq409 k362 rfl hp401
  have hp436 := pn hF393 hq409 k362 rfl hp402
  have hp437 := pn hF393 hq409 k362 rfl hp403
  have hp438 := pn hF393 hq409 k362 rfl hp404
  have hp439 := pn hF393 hq409 k362 rfl hp405
  have hp440 := pn hF393 hq409 k362 rfl hp406
  have hp441 := pn hF393 hq409 k362 rfl hp407
  have hp442 := pn hF393 hq409 k362 rfl hp408
  have hWT409 := wn (t := 340) hF393 hq409 hWT393 (fun k => tt_arr 340 (by decide) k)
  have hE409 := en (t := 340) hE393 hF393 hq409
  have kq409 : va_up K361 q409 340 q409 = 340 := va_up_self _ _ _
  obtain ⟨L409, K409, P409, I409, eL409, eK409, eP409, eI409, hf⟩ := nwP_f hf hq409 (by omega)
  rw [eL409, eK409, eP409, eI409] at hF409
  rw [eK409] at k410 k411 k412 k413 k414 k415 k416 k417 k418 k419 k420 k421 k422 k423 k424 k425 k426 kq409
  rw [eK409, eP409] at hWT409 hE409
  rw [eP409] at hp427 hp428 hp429 hp430 hp431 hp432 hp433 hp434 hp435 hp436 hp437 hp438 hp439 hp440 hp441 hp442
  refine fl_putFr (k := 19) ck_9 C0 hF409 hin k410 rfl (hF409.ne0 (by rw [kq409]; decide)) ⟨rfl, rfl, rfl, rfl⟩ ⟨rfl, rfl⟩ aw_893 dX8_init_140 (fun H locs hF443 => ?_)
  have hWT443 := wu (k := 19) (v := q409) hWT409 k410 (fun k => tt_arr 29 (by decide) k)
  have hE443 := eu (k := 19) (v := q409) hE409
  have hp443 := up_s P409 a0 19 q409
  have hp444 := (up_k P409 a0 a0 q409 (by decide : 18 ≠ 19)).trans hp427
  have hp445 := (up_k P409 a0 a0 q409 (by decide : 17 ≠ 19)).trans hp428
  have hp446 := (up_k P409 a0 a0 q409 (by decide : 16 ≠ 19)).trans hp429
  have hp447 := (up_k P409 a0 a0 q409 (by decide : 15 ≠ 19)).trans hp430
  have hp448 := (up_k P409 a0 a0 q409 (by decide : 14 ≠ 19)).trans hp431
  have hp449 := (up_k P409 a0 a0 q409 (by decide : 12 ≠ 19)).trans hp432
  have hp450 := (up_k P409 a0 a0 q409 (by decide : 11 ≠ 19)).trans hp433
  have hp451 := (up_k P409 a0 a0 q409 (by decide : 10 ≠ 19)).trans hp434
  have hp452 := (up_k P409 a0 a0 q409 (by decide : 9 ≠ 19)).trans hp435
  have hp453 := (up_k P409 a0 a0 q409 (by decide : 8 ≠ 19)).trans hp436
  have hp454 := (up_k P409 a0 a0 q409 (by decide : 7 ≠ 19)).trans hp437
  have hp455 := (up_k P409 a0 a0 q409 (by decide : 5 ≠ 19)).trans hp438
  have hp456 := (up_k P409 a0 a0 q409 (by decide : 4 ≠ 19)).trans hp439
  have hp457 := (up_k P409 a0 a0 q409 (by decide : 3 ≠ 19)).trans hp440
  have hp458 := (up_k P409 a0 a0 q409 (by decide : 2 ≠ 19)).trans hp441
  have hp459 := (up_k P409 a0 a0 q409 (by decide : 1 ≠ 19)).trans hp442
  obtain ⟨P443, eP443, hf⟩ := bndP_f hf
  rw [eP443] at hF443 hWT443 hE443 hp443 hp444 hp445 hp446 hp447 hp448 hp449 hp450 hp451 hp452 hp453 hp454 hp455 hp456 hp457 hp458 hp459
  refine lv_aload_n C0.1 C0.2.1 dX8_init_143 rfl (lv_at hl 0 rfl) ?_
  refine fl_bipush C0 dX8_init_144 (by decide) ?_
  refine fl_newi C0 hF443 (rgk 60 rfl) (by decide) (by decide) aw_117 (Nat.le_of_ble_eq_true rfl) (Nat.le_of_ble_eq_true rfl) dX8_init_146 (fun q460 H hq460 hF460 => ?_)
  have hF460 : FS D cy B (L409 ++ [q460]) (va_up K409 q460 340) (clrN P443 q460) J s.heap (clr I409 q460) H _ := hF460
  have h1q460 : 1 < q460 := hF460.ne0 (by rw [va_up_self]; decide)
  have n461 := nn hF443 hq460 k410 rfl
  have k461 := kn (t := 340) hF443 hq460 k410 rfl
  have n462 := nn hF443 hq460 kq409 rfl
  have k462 := kn (t := 340) hF443 hq460 kq409 rfl
  have n463 := nn hF443 hq460 k411 rfl
  have k463 := kn (t := 340) hF443 hq460 k411 rfl
  have n464 := nn hF443 hq460 k412 rfl
  have k464 := kn (t := 340) hF443 hq460 k412 rfl
  have n465 := nn hF443 hq460 k413 rfl
  have k465 := kn (t := 340) hF443 hq460 k413 rfl
  have n466 := nn hF443 hq460 k414 rfl
  have k466 := kn (t := 340) hF443 hq460 k414 rfl
  have n467 := nn hF443 hq460 k415 rfl
  have k467 := kn (t := 340) hF443 hq460 k415 rfl
  have n468 := nn hF443 hq460 k416 rfl
  have k468 := kn (t := 340) hF443 hq460 k416 rfl
  have n469 := nn hF443 hq460 k417 rfl
  have k469 := kn (t := 340) hF443 hq460 k417 rfl
  have n470 := nn hF443 hq460 k418 rfl
  have k470 := kn (t := 340) hF443 hq460 k418 rfl
  have n471 := nn hF443 hq460 k419 rfl
  have k471 := kn (t := 340) hF443 hq460 k419 rfl
  have n472 := nn hF443 hq460 k420 rfl
  have k472 := kn (t := 340) hF443 hq460 k420 rfl
  have n473 := nn hF443 hq460 k421 rfl
  have k473 := kn (t := 340) hF443 hq460 k421 rfl
  have n474 := nn hF443 hq460 k422 rfl
  have k474 := kn (t := 340) hF443 hq460 k422 rfl
  have n475 := nn hF443 hq460 k423 rfl
  have k475 := kn (t := 340) hF443 hq460 k423 rfl
  have n476 := nn hF443 hq460 k424 rfl
  have k476 := kn (t := 340) hF443 hq460 k424 rfl
  have n477 := nn hF443 hq460 k425 rfl
  have k477 := kn (t := 340) hF443 hq460 k425 rfl
  have n478 := nn hF443 hq460 k426 rfl
  have k478 := kn (t := 340) hF443 hq460 k426 rfl
  have z460 := k00 hE443 hF443 hq460 n461
  have hp479 := pn hF443 hq460 k410 rfl hp443
  have hp480 := pn hF443 hq460 k410 rfl hp444
  have hp481 := pn hF443 hq460 k410 rfl hp445
  have hp482 := pn hF443 hq460 k410 rfl hp446
  have hp483 := pn hF443 hq460 k410 rfl hp447
  have hp484 := pn hF443 hq460 k410 rfl hp448
  have hp485 := pn hF443 hq460 k410 rfl hp449
  have hp486 := pn hF443 hq460 k410 rfl hp450
  have hp487 := pn hF443 hq460 k410 rfl hp451
  have hp488 := pn hF443 hq460 k410 rfl hp452
  have hp489 := pn hF443 hq460 k410 rfl hp453
  have hp490 := pn hF443 hq460 k410 rfl hp454
  have hp491 := pn hF443 hq460 k410 rfl hp455
  have hp492 := pn hF443 hq460 k410 rfl hp456
  have hp493 := pn hF443 hq460 k410 rfl hp457
  have hp494 := pn hF443 hq460 k410 rfl hp458
  have hp495 := pn hF443 hq460 k410 rfl hp459
  have hWT460 := wn (t := 340) hF443 hq460 hWT443 (fun k => tt_arr 340 (by decide) k)
  have hE460 := en (t := 340) hE443 hF443 hq460
  have kq460 : va_up K409 q460 340 q460 = 340 := va_up_self _ _ _
  obtain ⟨L460, K460, P460, I460, eL460, eK460, eP460, eI460, hf⟩ := nwP_f hf hq460 (by omega)
  rw [eL460, eK460, eP460, eI460] at hF460
  rw [eK460] at k461 k462 k463 k464 k465 k466 k467 k468 k469 k470 k471 k472 k473 k474 k475 k476 k477 k478 kq460
  rw [eK460, eP460] at hWT460 hE460
  rw [eP460] at hp479 hp480 hp481 hp482 hp483 hp484 hp485 hp486 hp487 hp488 hp489 hp490 hp491 hp492 hp493 hp494 hp495
  refine fl_putFr (k := 20) ck_9 C0 hF460 hin k461 rfl (hF460.ne0 (by rw [kq460]; decide)) ⟨rfl, rfl, rfl, rfl⟩ ⟨rfl, rfl⟩ aw_894 dX8_init_148 (fun H locs hF496 => ?_)
  have hWT496 := wu (k := 20) (v := q460) hWT460 k461 (fun k => tt_arr 29 (by decide) k)
  have hE496 := eu (k := 20) (v := q460) hE460
  have hp496 := up_s P460 a0 20 q460
  have hp497 := (up_k P460 a0 a0 q460 (by decide : 19 ≠ 20)).trans hp479
  have hp498 := (up_k P460 a0 a0 q460 (by decide : 18 ≠ 20)).trans hp480
  have hp499 := (up_k P460 a0 a0 q460 (by decide : 17 ≠ 20)).trans hp481
  have hp500 := (up_k P460 a0 a0 q460 (by decide : 16 ≠ 20)).trans hp482
  have hp501 := (up_k P460 a0 a0 q460 (by decide : 15 ≠ 20)).trans hp483
  have hp502 := (up_k P460 a0 a0 q460 (by decide : 14 ≠ 20)).trans hp484
  have hp503 := (up_k P460 a0 a0 q460 (by decide : 12 ≠ 20)).trans hp485
  have hp504 := (up_k P460 a0 a0 q460 (by decide : 11 ≠ 20)).trans hp486
  have hp505 := (up_k P460 a0 a0 q460 (by decide : 10 ≠ 20)).trans hp487
  have hp506 := (up_k P460 a0 a0 q460 (by decide : 9 ≠ 20)).trans hp488
  have hp507 := (up_k P460 a0 a0 q460 (by decide : 8 ≠ 20)).trans hp489
  have hp508 := (up_k P460 a0 a0 q460 (by decide : 7 ≠ 20)).trans hp490
  have hp509 := (up_k P460 a0 a0 q460 (by decide : 5 ≠ 20)).trans hp491
  have hp510 := (up_k P460 a0 a0 q460 (by decide : 4 ≠ 20)).trans hp492
  have hp511 := (up_k P460 a0 a0 q460 (by decide : 3 ≠ 20)).trans hp493
  have hp512 := (up_k P460 a0 a0 q460 (by decide : 2 ≠ 20)).trans hp494
  have hp513 := (up_k P460 a0 a0 q460 (by decide : 1 ≠ 20)).trans hp495
  obtain ⟨P496, eP496, hf⟩ := bndP_f hf
  rw [eP496] at hF496 hWT496 hE496 hp496 hp497 hp498 hp499 hp500 hp501 hp502 hp503 hp504 hp505 hp506 hp507 hp508 hp509 hp510 hp511 hp512 hp513
  refine lv_aload_n C0.1 C0.2.1 dX8_init_151 rfl (lv_at hl 0 rfl) ?_
  refine fl_bipush C0 dX8_init_152 (by decide) ?_
  refine fl_newi C0 hF496 (rgk 8 rfl) (by decide) (by decide) aw_117 (Nat.le_of_ble_eq_true rfl) (Nat.le_of_ble_eq_true rfl) dX8_init_154 (fun q514 H hq514 hF514 => ?_)
  have hF514 : FS D cy B (L460 ++ [q514]) (va_up K460 q514 132) (clrN P496 q514) J s.heap (clr I460 q514) H _ := hF514
  have h1q514 : 1 < q514 := hF514.ne0 (by rw [va_up_self]; decide)
  have n515 := nn hF496 hq514 k461 rfl
  have k515 := kn (t := 132) hF496 hq514 k461 rfl
  have n516 := nn hF496 hq514 kq460 rfl
  have k516 := kn (t := 132) hF496 hq514 kq460 rfl
  have n517 := nn hF496 hq514 k462 rfl
  have k517 := kn (t := 132) hF496 hq514 k462 rfl
  have n518 := nn hF496 hq514 k463 rfl
  have k518 := kn (t := 132) hF496 hq514 k463 rfl
  have n519 := nn hF496 hq514 k464 rfl
  have k519 := kn (t := 132) hF496 hq514 k464 rfl
  have n520 := nn hF496 hq514 k465 rfl
  have k520 := kn (t := 132) hF496 hq514 k465 rfl
  have n521 := nn hF496 hq514 k466 rfl
  have k521 := kn (t := 132) hF496 hq514 k466 rfl
  have n522 := nn hF496 hq514 k467 rfl
  have k522 := kn (t := 132) hF496 hq514 k467 rfl
  have n523 := nn hF496 hq514 k468 rfl
  have k523 := kn (t := 132) hF496 hq514 k468 rfl
  have n524 := nn hF496 hq514 k469 rfl
  have k524 := kn (t := 132) hF496 hq514 k469 rfl
  have n525 := nn hF496 hq514 k470 rfl
  have k525 := kn (t := 132) hF496 hq514 k470 rfl
  have n526 := nn hF496 hq514 k471 rfl
  have k526 := kn (t := 132) hF496 hq514 k471 rfl
  have n527 := nn hF496 hq514 k472 rfl
  have k527 := kn (t := 132) hF496 hq514 k472 rfl
  have n528 := nn hF496 hq514 k473 rfl
  have k528 := kn (t := 132) hF496 hq514 k473 rfl
  have n529 := nn hF496 hq514 k474 rfl
  have k529 := kn (t := 132) hF496 hq514 k474 rfl
  have n530 := nn hF496 hq514 k475 rfl
  have k530 := kn (t := 132) hF496 hq514 k475 rfl
  have n531 := nn hF496 hq514 k476 rfl
  have k531 := kn (t := 132) hF496 hq514 k476 rfl
  have n532 := nn hF496 hq514 k477 rfl
  have k532 := kn (t := 132) hF496 hq514 k477 rfl
  have n533 := nn hF496 hq514 k478 rfl
  have k533 := kn (t := 132) hF496 hq514 k478 rfl
  have z514 := k00 hE496 hF496 hq514 n515
  have hp534 := pn hF496 hq514 k461 rfl hp496
  have hp535 := pn hF496 hq514 k461 rfl hp497
  have hp536 := pn hF496 hq514 k461 rfl hp498
  have hp537 := pn hF496 hq514 k461 rfl hp499
  have hp538 := pn hF496 hq514 k461 rfl hp500
  have hp539 := pn hF496 hq514 k461 rfl hp501
  have hp540 := pn hF496 hq514 k461 rfl hp502
  have hp541 := pn hF496 hq514 k461 rfl hp503
  have hp542 := pn hF496 hq514 k461 rfl hp504
  have hp543 := pn hF496 hq514 k461 rfl hp505
  have hp544 := pn hF496 hq514 k461 rfl hp506
  have hp545 := pn hF496 hq514 k461 rfl hp507
  have hp546 := pn hF496 hq514 k461 rfl hp508
  have hp547 := pn hF496 hq514 k461 rfl hp509
  have hp548 := pn hF496 hq514 k461 rfl hp510
  have hp549 := pn hF496 hq514 k461 rfl hp511
  have hp550 := pn hF496 hq514 k461 rfl hp512
  have hp551 := pn hF496 hq514 k461 rfl hp513
  have hWT514 := wn (t := 132) hF496 hq514 hWT496 (fun k => tt_arr 132 (by decide) k)
  have hE514 := en (t := 132) hE496 hF496 hq514
  have kq514 : va_up K460 q514 132 q514 = 132 := va_up_self _ _ _
  obtain ⟨L514, K514, P514, I514, eL514, eK514, eP514, eI514, hf⟩ := nwP_f hf hq514 (by omega)
  rw [eL514, eK514, eP514, eI514] at hF514
  rw [eK514] at k515 k516 k517 k518 k519 k520 k521 k522 k523 k524 k525 k526 k527 k528 k529 k530 k531 k532 k533 kq514
  rw [eK514, eP514] at hWT514 hE514
  rw [eP514] at hp534 hp535 hp536 hp537 hp538 hp539 hp540 hp541 hp542 hp543 hp544 hp545 hp546 hp547 hp548 hp549 hp550 hp551
  refine fl_putFr (k := 21) ck_9 C0 hF514 hin k515 rfl (hF514.ne0 (by rw [kq514]; decide)) ⟨rfl, rfl, rfl, rfl⟩ ⟨rfl, rfl⟩ aw_895 dX8_init_156 (fun H locs hF552 => ?_)
  have hWT552 := wu (k := 21) (v := q514) hWT514 k515 (fun k => tt_arr 29 (by decide) k)
  have hE552 := eu (k := 21) (v := q514) hE514
  have hp552 := up_s P514 a0 21 q514
  have hp553 := (up_k P514 a0 a0 q514 (by decide : 20 ≠ 21)).trans hp534
  have hp554 := (up_k P514 a0 a0 q514 (by decide : 19 ≠ 21)).trans hp535
  have hp555 := (up_k P514 a0 a0 q514 (by decide : 18 ≠ 21)).trans hp536
  have hp556 := (up_k P514 a0 a0 q514 (by decide : 17 ≠ 21)).trans hp537
  have hp557 := (up_k P514 a0 a0 q514 (by decide : 16 ≠ 21)).trans hp538
  have hp558 := (up_k P514 a0 a0 q514 (by decide : 15 ≠ 21)).trans hp539
  have hp559 := (up_k P514 a0 a0 q514 (by decide : 14 ≠ 21)).trans hp540
  have hp560 := (up_k P514 a0 a0 q514 (by decide : 12 ≠ 21)).trans hp541
  have hp561 := (up_k P514 a0 a0 q514 (by decide : 11 ≠ 21)).trans hp542
  have hp562 := (up_k P514 a0 a0 q514 (by decide : 10 ≠ 21)).trans hp543
  have hp563 := (up_k P514 a0 a0 q514 (by decide : 9 ≠ 21)).trans hp544
  have hp564 := (up_k P514 a0 a0 q514 (by decide : 8 ≠ 21)).trans hp545
  have hp565 := (up_k P514 a0 a0 q514 (by decide : 7 ≠ 21)).trans hp546
  have hp566 := (up_k P514 a0 a0 q514 (by decide : 5 ≠ 21)).trans hp547
  have hp567 := (up_k P514 a0 a0 q514 (by decide : 4 ≠ 21)).trans hp548
  have hp568 := (up_k P514 a0 a0 q514 (by decide : 3 ≠ 21)).trans hp549
  have hp569 := (up_k P514 a0 a0 q514 (by decide : 2 ≠ 21)).trans hp550
  have hp570 := (up_k P514 a0 a0 q514 (by decide : 1 ≠ 21)).trans hp551
  obtain ⟨P552, eP552, hf⟩ := bndP_f hf
  rw [eP552] at hF552 hWT552 hE552 hp552 hp553 hp554 hp555 hp556 hp557 hp558 hp559 hp560 hp561 hp562 hp563 hp564 hp565 hp566 hp567 hp568 hp569 hp570
  refine lv_aload_n C0.1 C0.2.1 dX8_init_159 rfl (lv_at hl 0 rfl) ?_
  refine fl_bipush C0 dX8_init_160 (by decide) ?_
  refine fl_newi C0 hF552 (rgk 8 rfl) (by decide) (by decide) aw_117 (Nat.le_of_ble_eq_true rfl) (Nat.le_of_ble_eq_true rfl) dX8_init_162 (fun q571 H hq571 hF571 => ?_)
  have hF571 : FS D cy B (L514 ++ [q571]) (va_up K514 q571 132) (clrN P552 q571) J s.heap (clr I514 q571) H _ := hF571
  have h1q571 : 1 < q571 := hF571.ne0 (by rw [va_up_self]; decide)
  have n572 := nn hF552 hq571 k515 rfl
  have k572 := kn (t := 132) hF552 hq571 k515 rfl
  have n573 := nn hF552 hq571 kq514 rfl
  have k573 := kn (t := 132) hF552 hq571 kq514 rfl
  have n574 := nn hF552 hq571 k516 rfl
  have k574 := kn (t := 132) hF552 hq571 k516 rfl
  have n575 := nn hF552 hq571 k517 rfl
  have k575 := kn (t := 132) hF552 hq571 k517 rfl
  have n576 := nn hF552 hq571 k518 rfl
  have k576 := kn (t := 132) hF552 hq571 k518 rfl
  have n577 := nn hF552 hq571 k519 rfl
  have k577 := kn (t := 132) hF552 hq571 k519 rfl
  have n578 := nn hF552 hq571 k520 rfl
  have k578 := kn (t := 132) hF552 hq571 k520 rfl
  have n579 := nn hF552 hq571 k521 rfl
  have k579 := kn (t := 132) hF552 hq571 k521 rfl
  have n580 := nn hF552 hq571 k522 rfl
  have k580 := kn (t := 132) hF552 hq571 k522 rfl
  have n581 := nn hF552 hq571 k523 rfl
  have k581 := kn (t := 132) hF552 hq571 k523 rfl
  have n582 := nn hF552 hq571 k524 rfl
  have k582 := kn (t := 132) hF552 hq571 k524 rfl
  have n583 := nn hF552 hq571 k525 rfl
  have k583 := kn (t := 132) hF552 hq571 k525 rfl
  have n584 := nn hF552 hq571 k526 rfl
  have k584 := kn (t := 132) hF552 hq571 k526 rfl
  have n585 := nn hF552 hq571 k527 rfl
  have k585 := kn (t := 132) hF552 hq571 k527 rfl
  have n586 := nn hF552 hq571 k528 rfl
  have k586 := kn (t := 132) hF552 hq571 k528 rfl
  have n587 := nn hF552 hq571 k529 rfl
  have k587 := kn (t := 132) hF552 hq571 k529 rfl
  have n588 := nn hF552 hq571 k530 rfl
  have k588 := kn (t := 132) hF552 hq571 k530 rfl
  have n589 := nn hF552 hq571 k531 rfl
  have k589 := kn (t := 132) hF552 hq571 k531 rfl
  have n590 := nn hF552 hq571 k532 rfl
  have k590 := kn (t := 132) hF552 hq571 k532 rfl
  have n591 := nn hF552 hq571 k533 rfl
  have k591 := kn (t := 132) hF552 hq571 k533 rfl
  have z571 := k00 hE552 hF552 hq571 n572
  have hp592 := pn hF552 hq571 k515 rfl hp552
  have hp593 := pn hF552 hq571 k515 rfl hp553
  have hp594 := pn hF552 hq571 k515 rfl hp554
  have hp595 := pn hF552 hq571 k515 rfl hp555
  have hp596 := pn hF552 hq571 k515 rfl hp556
  have hp597 := pn hF552 hq571 k515 rfl hp557
  have hp598 := pn hF552 hq571 k515 rfl hp558
  have hp599 := pn hF552 hq571 k515 rfl hp559
  have hp600 := pn hF552 hq571 k515 rfl hp560
  have hp601 := pn hF552 hq571 k515 rfl hp561
  have hp602 := pn hF552 hq571 k515 rfl hp562
  have hp603 := pn hF552 hq571 k515 rfl hp563
  have hp604 := pn hF552 hq571 k515 rfl hp564
  have hp605 := pn hF552 hq571 k515 rfl hp565
  have hp606 := pn hF552 hq571 k515 rfl hp566
  have hp607 := pn hF552 hq571 k515 rfl hp567
  have hp608 := pn hF552 hq571 k515 rfl hp568
  have hp609 := pn hF552 hq571 k515 rfl hp569
  have hp610 := pn hF552 hq571 k515 rfl hp570
  have hWT571 := wn (t := 132) hF552 hq571 hWT552 (fun k => tt_arr 132 (by decide) k)
  have hE571 := en (t := 132) hE552 hF552 hq571
  have kq571 : va_up K514 q571 132 q571 = 132 := va_up_self _ _ _
  obtain ⟨L571, K571, P571, I571, eL571, eK571, eP571, eI571, hf⟩ := nwP_f hf hq571 (by omega)
  rw [eL571, eK571, eP571, eI571] at hF571
  rw [eK571] at k572 k573 k574 k575 k576 k577 k578 k579 k580 k581 k582 k583 k584 k585 k586 k587 k588 k589 k590 k591 kq571
  rw [eK571, eP571] at hWT571 hE571
  rw [eP571] at hp592 hp593 hp594 hp595 hp596 hp597 hp598 hp599 hp600 hp601 hp602 hp603 hp604 hp605 hp606 hp607 hp608 hp609 hp610
  refine fl_putFr (k := 22) ck_9 C0 hF571 hin k572 rfl (hF571.ne0 (by rw [kq571]; decide)) ⟨rfl, rfl, rfl, rfl⟩ ⟨rfl, rfl⟩ aw_896 dX8_init_164 (fun H locs hF611 => ?_)
  have hWT611 := wu (k := 22) (v := q571) hWT571 k572 (fun k => tt_arr 29 (by decide) k)
  have hE611 := eu (k := 22) (v := q571) hE571
  have hp611 := up_s P571 a0 22 q571
  have hp612 := (up_k P571 a0 a0 q571 (by decide : 21 ≠ 22)).trans hp592
  have hp613 := (up_k P571 a0 a0 q571 (by decide : 20 ≠ 22)).trans hp593
  have hp614 := (up_k P571 a0 a0 q571 (by decide : 19 ≠ 22)).trans hp594
  have hp615 := (up_k P571 a0 a0 q571 (by decide : 18 ≠ 22)).trans hp595
  have hp616 := (up_k P571 a0 a0 q571 (by decide : 17 ≠ 22)).trans hp596
  have hp617 := (up_k P571 a0 a0 q571 (by decide : 16 ≠ 22)).trans hp597
  have hp618 := (up_k P571 a0 a0 q571 (by decide : 15 ≠ 22)).trans hp598
  have hp619 := (up_k P571 a0 a0 q571 (by decide : 14 ≠ 22)).trans hp599
  have hp620 := (up_k P571 a0 a0 q571 (by decide : 12 ≠ 22)).trans hp600
  have hp621 := (up_k P571 a0 a0 q571 (by decide : 11 ≠ 22)).trans hp601
  have hp622 := (up_k P571 a0 a0 q571 (by decide : 10 ≠ 22)).trans hp602
  have hp623 := (up_k P571 a0 a0 q571 (by decide : 9 ≠ 22)).trans hp603
  have hp624 := (up_k P571 a0 a0 q571 (by decide : 8 ≠ 22)).trans hp604
  have hp625 := (up_k P571 a0 a0 q571 (by decide : 7 ≠ 22)).trans hp605
  have hp626 := (up_k P571 a0 a0 q571 (by decide : 5 ≠ 22)).trans hp606
  have hp627 := (up_k P571 a0 a0 q571 (by decide : 4 ≠ 22)).trans hp607
  have hp628 := (up_k P571 a0 a0 q571 (by decide : 3 ≠ 22)).trans hp608
  have hp629 := (up_k P571 a0 a0 q571 (by decide : 2 ≠ 22)).trans hp609
  have hp630 := (up_k P571 a0 a0 q571 (by decide : 1 ≠ 22)).trans hp610
  obtain ⟨P611, eP611, hf⟩ := bndP_f hf
  rw [eP611] at hF611 hWT611 hE611 hp611 hp612 hp613 hp614 hp615 hp616 hp617 hp618 hp619 hp620 hp621 hp622 hp623 hp624 hp625 hp626 hp627 hp628 hp629 hp630
  refine lv_aload_n C0.1 C0.2.1 dX8_init_167 rfl (lv_at hl 0 rfl) ?_
  refine fl_iconst C0 dX8_init_168 ?_
  refine fl_puti (k := 23) ck_9 C0 hF611 k572 rfl (rgk (-1) rfl) ⟨rfl, rfl, rfl⟩ aw_897 dX8_init_169 (fun H locs hF631 => ?_)
  obtain ⟨I631, eI631, hf⟩ := bndP_f hf
  rw [eI631] at hF631
  refine lv_aload_n C0.1 C0.2.1 dX8_init_172 rfl (lv_at hl 0 rfl) ?_
  refine fl_bipush C0 dX8_init_173 (by decide) ?_
  refine fl_newz C0 hF631 (rgk 48 rfl) (by decide) (by decide) aw_210 (Nat.le_of_ble_eq_true rfl) (Nat.le_of_ble_eq_true rfl) dX8_init_175 (fun q632 H hq632 hF632 => ?_)
  have hF632 : FS D cy B (L571 ++ [q632]) (va_up K571 q632 293) (clrN P611 q632) J s.heap (clr I631 q632) H _ := hF632
  have h1q632 : 1 < q632 := hF632.ne0 (by rw [va_up_self]; decide)
  have n633 := nn hF631 hq632 k572 rfl
  have k633 := kn (t := 293) hF631 hq632 k572 rfl
  have n634 := nn hF631 hq632 kq571 rfl
  have k634 := kn (t := 293) hF631 hq632 kq571 rfl
  have n635 := nn hF631 hq632 k573 rfl
  have k635 := kn (t := 293) hF631 hq632 k573 rfl
  have n636 := nn hF631 hq632 k574 rfl
  have k636 := kn (t := 293) hF631 hq632 k574 rfl
  have n637 := nn hF631 hq632 k575 rfl
  have k637 := kn (t := 293) hF631 hq632 k575 rfl
  have n638 := nn hF631 hq632 k576 rfl
  have k638 := kn (t := 293) hF631 hq632 k576 rfl
  have n639 := nn hF631 hq632 k577 rfl
  have k639 := kn (t := 293) hF631 hq632 k577 rfl
  have n640 := nn hF631 hq632 k578 rfl
  have k640 := kn (t := 293) hF631 hq632 k578 rfl
  have n641 := nn hF631 hq632 k579 rfl
  have k641 := kn (t := 293) hF631 hq632 k579 rfl
  have n642 := nn hF631 hq632 k580 rfl
  have k642 := kn (t := 293) hF631 hq632 k580 rfl
  have n643 := nn hF631 hq632 k581 rfl
  have k643 := kn (t := 293) hF631 hq632 k581 rfl
  have n644 := nn hF631 hq632 k582 rfl
  have k644 := kn (t := 293) hF631 hq632 k582 rfl
  have n645 := nn hF631 hq632 k583 rfl
  have k645 := kn (t := 293) hF631 hq632 k583 rfl
  have n646 := nn hF631 hq632 k584 rfl
  have k646 := kn (t := 293) hF631 hq632 k584 rfl
  have n647 := nn hF631 hq632 k585 rfl
  have k647 := kn (t := 293) hF631 hq632 k585 rfl
  have n648 := nn hF631 hq632 k586 rfl
  have k648 := kn (t := 293) hF631 hq632 k586 rfl
  have n649 := nn hF631 hq632 k587 rfl
  have k649 := kn (t := 293) hF631 hq632 k587 rfl
  have n650 := nn hF631 hq632 k588 rfl
  have k650 := kn (t := 293) hF631 hq632 k588 rfl
  have n651 := nn hF631 hq632 k589 rfl
  have k651 := kn (t := 293) hF631 hq632 k589 rfl
  have n652 := nn hF631 hq632 k590 rfl
  have k652 := kn (t := 293) hF631 hq632 k590 rfl
  have n653 := nn hF631 hq632 k591 rfl
  have k653 := kn (t := 293) hF631 hq632 k591 rfl
  have z632 := k00 hE611 hF631 hq632 n633
  have hp654 := pn hF631 hq632 k572 rfl hp611
  have hp655 := pn hF631 hq632 k572 rfl hp612
  have hp656 := pn hF631 hq632 k572 rfl hp613
  have hp657 := pn hF631 hq632 k572 rfl hp614
  have hp658 := pn hF631 hq632 k572 rfl hp615
  have hp659 := pn hF631 hq632 k572 rfl hp616
  have hp660 := pn hF631 hq632 k572 rfl hp617
  have hp661 := pn hF631 hq632 k572 rfl hp618
  have hp662 := pn hF631 hq632 k572 rfl hp619
  have hp663 := pn hF631 hq632 k572 rfl hp620
  have hp664 := pn hF631 hq632 k572 rfl hp621
  have hp665 := pn hF631 hq632 k572 rfl hp622
  have hp666 := pn hF631 hq632 k572 rfl hp623
  have hp667 := pn hF631 hq632 k572 rfl hp624
  have hp668 := pn hF631 hq632 k572 rfl hp625
  have hp669 := pn hF631 hq632 k572 rfl hp626
  have hp670 := pn hF631 hq632 k572 rfl hp627
  have hp671 := pn hF631 hq632 k572 rfl hp628
  have hp672 := pn hF631 hq632 k572 rfl hp629
  have hp673 := pn hF631 hq632 k572 rfl hp630
  have hWT632 := wn (t := 293) hF631 hq632 hWT611 (fun k => tt_arr 293 (by decide) k)
  have hE632 := en (t := 293) hE611 hF631 hq632
  have kq632 : va_up K571 q632 293 q632 = 293 := va_up_self _ _ _
  obtain ⟨L632, K632, P632, I632, eL632, eK632, eP632, eI632, hf⟩ := nwP_f hf hq632 (by omega)
  rw [eL632, eK632, eP632, eI632] at hF632
  rw [eK632] at k633 k634 k635 k636 k637 k638 k639 k640 k641 k642 k643 k644 k645 k646 k647 k648 k649 k650 k651 k652 k653 kq632
  rw [eK632, eP632] at hWT632 hE632
  rw [eP632] at hp654 hp655 hp656 hp657 hp658 hp659 hp660 hp661 hp662 hp663 hp664 hp665 hp666 hp667 hp668 hp669 hp670 hp671 hp672 hp673
  refine fl_putFr (k := 24) ck_9 C0 hF632 hin k633 rfl (hF632.ne0 (by rw [kq632]; decide)) ⟨rfl, rfl, rfl, rfl⟩ ⟨rfl, rfl⟩ aw_898 dX8_init_177 (fun H locs hF674 => ?_)
  have hWT674 := wu (k := 24) (v := q632) hWT632 k633 (fun k => tt_arr 29 (by decide) k)
  have hE674 := eu (k := 24) (v := q632) hE632
  have hp674 := up_s P632 a0 24 q632
  have hp675 := (up_k P632 a0 a0 q632 (by decide : 22 ≠ 24)).trans hp654
  have hp676 := (up_k P632 a0 a0 q632 (by decide : 21 ≠ 24)).trans hp655
  have hp677 := (up_k P632 a0 a0 q632 (by decide : 20 ≠ 24)).trans hp656
  have hp678 := (up_k P632 a0 a0 q632 (by decide : 19 ≠ 24)).trans hp657
  have hp679 := (up_k P632 a0 a0 q632 (by decide : 18 ≠ 24)).trans hp658
  have hp680 := (up_k P632 a0 a0 q632 (by decide : 17 ≠ 24)).trans hp659
  have hp681 := (up_k P632 a0 a0 q632 (by decide : 16 ≠ 24)).trans hp660
  have hp682 := (up_k P632 a0 a0 q632 (by decide : 15 ≠ 24)).trans hp661
  have hp683 := (up_k P632 a0 a0 q632 (by decide : 14 ≠ 24)).trans hp662
  have hp684 := (up_k P632 a0 a0 q632 (by decide : 12 ≠ 24)).trans hp663
  have hp685 := (up_k P632 a0 a0 q632 (by decide : 11 ≠ 24)).trans hp664
  have hp686 := (up_k P632 a0 a0 q632 (by decide : 10 ≠ 24)).trans hp665
  have hp687 := (up_k P632 a0 a0 q632 (by decide : 9 ≠ 24)).trans hp666
  have hp688 := (up_k P632 a0 a0 q632 (by decide : 8 ≠ 24)).trans hp667
  have hp689 := (up_k P632 a0 a0 q632 (by decide : 7 ≠ 24)).trans hp668
  have hp690 := (up_k P632 a0 a0 q632 (by decide : 5 ≠ 24)).trans hp669
  have hp691 := (up_k P632 a0 a0 q632 (by decide : 4 ≠ 24)).trans hp670
  have hp692 := (up_k P632 a0 a0 q632 (by decide : 3 ≠ 24)).trans hp671
  have hp693 := (up_k P632 a0 a0 q632 (by decide : 2 ≠ 24)).trans hp672
  have hp694 := (up_k P632 a0 a0 q632 (by decide : 1 ≠ 24)).trans hp673
  obtain ⟨P674, eP674, hf⟩ := bndP_f hf
  rw [eP674] at hF674 hWT674 hE674 hp674 hp675 hp676 hp677 hp678 hp679 hp680 hp681 hp682 hp683 hp684 hp685 hp686 hp687 hp688 hp689 hp690 hp691 hp692 hp693 hp694
  refine lv_aload_n C0.1 C0.2.1 dX8_init_180 rfl (lv_at hl 0 rfl) ?_
  refine fl_bipush C0 dX8_init_181 (by decide) ?_
  refine fl_newi C0 hF674 (rgk 8 rfl) (by decide) (by decide) aw_117 (Nat.le_of_ble_eq_true rfl) (Nat.le_of_ble_eq_true rfl) dX8_init_183 (fun q695 H hq695 hF695 => ?_)
  have hF695 : FS D cy B (L632 ++ [q695]) (va_up K632 q695 132) (clrN P674 q695) J s.heap (clr I632 q695) H _ := hF695
  have h1q695 : 1 < q695 := hF695.ne0 (by rw [va_up_self]; decide)
  have n696 := nn hF674 hq695 k633 rfl
  have k696 := kn (t := 132) hF674 hq695 k633 rfl
  have n697 := nn hF674 hq695 kq632 rfl
  have k697 := kn (t := 132) hF674 hq695 kq632 rfl
  have n698 := nn hF674 hq695 k634 rfl
  have k698 := kn (t := 132) hF674 hq695 k634 rfl
  have n699 := nn hF674 hq695 k635 rfl
  have k699 := kn (t := 132) hF674 hq695 k635 rfl
  have n700 := nn hF674 hq695 k636 rfl
  have k700 := kn (t := 132) hF674 hq695 k636 rfl
  have n701 := nn hF674 hq695 k637 rfl
  have k701 := kn (t := 132) hF674 hq695 k637 rfl
  have n702 := nn hF674 hq695 k638 rfl
  have k702 := kn (t := 132) hF674 hq695 k638 rfl
  have n703 := nn hF674 hq695 k639 rfl
  have k703 := kn (t := 132) hF674 hq695 k639 rfl
  have n704 := nn hF674 hq695 k640 rfl
  have k704 := kn (t := 132) hF674 hq695 k640 rfl
  have n705 := nn hF674 hq695 k641 rfl
  have k705 := kn (t := 132) hF674 hq695 k641 rfl
  have n706 := nn hF674 hq695 k642 rfl
  have k706 := kn (t := 132) hF674 hq695 k642 rfl
  have n707 := nn hF674 hq695 k643 rfl
  have k707 := kn (t := 132) hF674 hq695 k643 rfl
  have n708 := nn hF674 hq695 k644 rfl
  have k708 := kn (t := 132) hF674 hq695 k644 rfl
  have n709 := nn hF674 hq695 k645 rfl
  have k709 := kn (t := 132) hF674 hq695 k645 rfl
  have n710 := nn hF674 hq695 k646 rfl
  have k710 := kn (t := 132) hF674 hq695 k646 rfl
  have n711 := nn hF674 hq695 k647 rfl
  have k711 := kn (t := 132) hF674 hq695 k647 rfl
  have n712 := nn hF674 hq695 k648 rfl
  have k712 := kn (t := 132) hF674 hq695 k648 rfl
  have n713 := nn hF674 hq695 k649 rfl
  have k713 := kn (t := 132) hF674 hq695 k649 rfl
  have n714 := nn hF674 hq695 k650 rfl
  have k714 := kn (t := 132) hF674 hq695 k650 rfl
  have n715 := nn hF674 hq695 k651 rfl
  have k715 := kn (t := 132) hF674 hq695 k651 rfl
  have n716 := nn hF674 hq695 k652 rfl
  have k716 := kn (t := 132) hF674 hq695 k652 rfl
  have n717 := nn hF674 hq695 k653 rfl
  have k717 := kn (t := 132) hF674 hq695 k653 rfl
  have z695 := k00 hE674 hF674 hq695 n696
  have hp718 := pn hF674 hq695 k633 rfl hp674
  have hp719 := pn hF674 hq695 k633 rfl hp675
  have hp720 := pn hF674 hq695 k633 rfl hp676
  have hp721 := pn hF674 hq695 k633 rfl hp677
  have hp722 := pn hF674 hq695 k633 rfl hp678
  have hp723 := pn hF674 hq695 k633 rfl hp679
  have hp724 := pn hF674 hq695 k633 rfl hp680
  have hp725 := pn hF674 hq695 k633 rfl hp681
  have hp726 := pn hF674 hq695 k633 rfl hp682
  have hp727 := pn hF674 hq695 k633 rfl hp683
  have hp728 := pn hF674 hq695 k633 rfl hp684
  have hp729 := pn hF674 hq695 k633 rfl hp685
  have hp730 := pn hF674 hq695 k633 rfl hp686
  have hp731 := pn hF674 hq695 k633 rfl hp687
  have hp732 := pn hF674 hq695 k633 rfl hp688
  have hp733 := pn hF674 hq695 k633 rfl hp689
  have hp734 := pn hF674 hq695 k633 rfl hp690
  have hp735 := pn hF674 hq695 k633 rfl hp691
  have hp736 := pn hF674 hq695 k633 rfl hp692
  have hp737 := pn hF674 hq695 k633 rfl hp693
  have hp738 := pn hF674 hq695 k633 rfl hp694
  have hWT695 := wn (t := 132) hF674 hq695 hWT674 (fun k => tt_arr 132 (by decide) k)
  have hE695 := en (t := 132) hE674 hF674 hq695
  have kq695 : va_up K632 q695 132 q695 = 132 := va_up_self _ _ _
  obtain ⟨L695, K695, P695, I695, eL695, eK695, eP695, eI695, hf⟩ := nwP_f hf hq695 (by omega)
  rw [eL695, eK695, eP695, eI695] at hF695
  rw [eK695] at k696 k697 k698 k699 k700 k701 k702 k703 k704 k705 k706 k707 k708 k709 k710 k711 k712 k713 k714 k715 k716 k717 kq695
  rw [eK695, eP695] at hWT695 hE695
  rw [eP695] at hp718 hp719 hp720 hp721 hp722 hp723 hp724 hp725 hp726 hp727 hp728 hp729 hp730 hp731 hp732 hp733 hp734 hp735 hp736 hp737 hp738
  refine fl_putFr (k := 28) ck_9 C0 hF695 hin k696 rfl (hF695.ne0 (by rw [kq695]; decide)) ⟨rfl, rfl, rfl, rfl⟩ ⟨rfl, rfl⟩ aw_902 dX8_init_185 (fun H locs hF739 => ?_)
  have hWT739 := wu (k := 28) (v := q695) hWT695 k696 (fun k => tt_arr 29 (by decide) k)
  have hE739 := eu (k := 28) (v := q695) hE695
  have hp739 := up_s P695 a0 28 q695
  have hp740 := (up_k P695 a0 a0 q695 (by decide : 24 ≠ 28)).trans hp718
  have hp741 := (up_k P695 a0 a0 q695 (by decide : 22 ≠ 28)).trans hp719
  have hp742 := (up_k P695 a0 a0 q695 (by decide : 21 ≠ 28)).trans hp720
  have hp743 := (up_k P695 a0 a0 q695 (by decide : 20 ≠ 28)).trans hp721
  have hp744 := (up_k P695 a0 a0 q695 (by decide : 19 ≠ 28)).trans hp722
  have hp745 := (up_k P695 a0 a0 q695 (by decide : 18 ≠ 28)).trans hp723
  have hp746 := (up_k P695 a0 a0 q695 (by decide : 17 ≠ 28)).trans hp724
  have hp747 := (up_k P695 a0 a0 q695 (by decide : 16 ≠ 28)).trans hp725
  have hp748 := (up_k P695 a0 a0 q695 (by decide : 15 ≠ 28)).trans hp726
  have hp749 := (up_k P695 a0 a0 q695 (by decide : 14 ≠ 28)).trans hp727
  have hp750 := (up_k P695 a0 a0 q695 (by decide : 12 ≠ 28)).trans hp728
  have hp751 := (up_k P695 a0 a0 q695 (by decide : 11 ≠ 28)).trans hp729
  have hp752 := (up_k P695 a0 a0 q695 (by decide : 10 ≠ 28)).trans hp730
  have hp753 := (up_k P695 a0 a0 q695 (by decide : 9 ≠ 28)).trans hp731
  have hp754 := (up_k P695 a0 a0 q695 (by decide : 8 ≠ 28)).trans hp732
  have hp755 := (up_k P695 a0 a0 q695 (by decide : 7 ≠ 28)).trans hp733
  have hp756 := (up_k P695 a0 a0 q695 (by decide : 5 ≠ 28)).trans hp734
  have hp757 := (up_k P695 a0 a0 q695 (by decide : 4 ≠ 28)).trans hp735
  have hp758 := (up_k P695 a0 a0 q695 (by decide : 3 ≠ 28)).trans hp736
  have hp759 := (up_k P695 a0 a0 q695 (by decide : 2 ≠ 28)).trans hp737
  have hp760 := (up_k P695 a0 a0 q695 (by decide : 1 ≠ 28)).trans hp738
  obtain ⟨P739, eP739, hf⟩ := bndP_f hf
  rw [eP739] at hF739 hWT739 hE739 hp739 hp740 hp741 hp742 hp743 hp744 hp745 hp746 hp747 hp748 hp749 hp750 hp751 hp752 hp753 hp754 hp755 hp756 hp757 hp758 hp759 hp760
  refine lv_aload_n C0.1 C0.2.1 dX8_init_188 rfl (lv_at hl 0 rfl) ?_
  refine fl_bipush C0 dX8_init_189 (by decide) ?_
  refine fl_newi C0 hF739 (rgk 8 rfl) (by decide) (by decide) aw_117 (Nat.le_of_ble_eq_true rfl) (Nat.le_of_ble_eq_true rfl) dX8_init_191 (fun q761 H hq761 hF761 => ?_)
  have hF761 : FS D cy B (L695 ++ [q761]) (va_up K695 q761 132) (clrN P739 q761) J s.heap (clr I695 q761) H _ := hF761
  have h1q761 : 1 < q761 := hF761.ne0 (by rw [va_up_self]; decide)
  have n762 := nn hF739 hq761 k696 rfl
  have k762 := kn (t := 132) hF739 hq761 k696 rfl
  have n763 := nn hF739 hq761 kq695 rfl
  have k763 := kn (t := 132) hF739 hq761 kq695 rfl
  have n764 := nn hF739 hq761 k697 rfl
  have k764 := kn (t := 132) hF739 hq761 k697 rfl
  have n765 := nn hF739 hq761 k698 rfl
  have k765 := kn (t := 132) hF739 hq761 k698 rfl
  have n766 := nn hF739 hq761 k699 rfl
  have k766 := kn (t := 132) hF739 hq761 k699 rfl
  have n767 := nn hF739 hq761 k700 rfl
  have k767 := kn (t := 132) hF739 hq761 k700 rfl
  have n768 := nn hF739 hq761 k701 rfl
  have k768 := kn (t := 132) hF739 hq761 k701 rfl
  have n769 := nn hF739 hq761 k702 rfl
  have k769 := kn (t := 132) hF739 hq761 k702 rfl
  have n770 := nn hF739 hq761 k703 rfl
  have k770 := kn (t := 132) hF739 hq761 k703 rfl
  have n771 := nn hF739 hq761 k704 rfl
  have k771 := kn (t := 132) hF739 hq761 k704 rfl
  have n772 := nn hF739 hq761 k705 rfl
  have k772 := kn (t := 132) hF739 hq761 k705 rfl
  have n773 := nn hF739 hq761 k706 rfl
  have k773 := kn (t := 132) hF739 hq761 k706 rfl
  have n774 := nn hF739 hq761 k707 rfl
  have k774 := kn (t := 132) hF739 hq761 k707 rfl
  have n775 := nn hF739 hq761 k708 rfl
  have k775 := kn (t := 132) hF739 hq761 k708 rfl
  have n776 := nn hF739 hq761 k709 rfl
  have k776 := kn (t := 132) hF739 hq761 k709 rfl
  have n777 := nn hF739 hq761 k710 rfl
  have k777 := kn (t := 132) hF739 hq761 k710 rfl
  have n778 := nn hF739 hq761 k711 rfl
  have k778 := kn (t := 132) hF739 hq761 k711 rfl
  have n779 := nn hF739 hq761 k712 rfl
  have k779 := kn (t := 132) hF739 hq761 k712 rfl
  have n780 := nn hF739 hq761 k713 rfl
  have k780 := kn (t := 132) hF739 hq761 k713 rfl
  have n781 := nn hF739 hq761 k714 rfl
  have k781 := kn (t := 132) hF739 hq761 k714 rfl
  have n782 := nn hF739 hq761 k715 rfl
  have k782 := kn (t := 132) hF739 hq761 k715 rfl
  have n783 := nn hF739 hq761 k716 rfl
  have k783 := kn (t := 132) hF739 hq761 k716 rfl
  have n784 := nn hF739 hq761 k717 rfl
  have k784 := kn (t := 132) hF739 hq761 k717 rfl
  have z761 := k00 hE739 hF739 hq761 n762
  have hp785 := pn hF739 hq761 k696 rfl hp739
  have hp786 := pn hF739 hq761 k696 rfl hp740
  have hp787 := pn hF739 hq761 k696 rfl hp741
  have hp788 := pn hF739 hq761 k696 rfl hp742
  have hp789 := pn hF739 hq761 k696 rfl hp743
  have hp790 := pn hF739 hq761 k696 rfl hp744
  have hp791 := pn hF739 hq761 k696 rfl hp745
  have hp792 := pn hF739 hq761 k696 rfl hp746
  have hp793 := pn hF739 hq761 k696 rfl hp747
  have hp794 := pn hF739 hq761 k696 rfl hp748
  have hp795 := pn hF739 hq761 k696 rfl hp749
  have hp796 := pn hF739 hq761 k696 rfl hp750
  have hp797 := pn hF739 hq761 k696 rfl hp751
  have hp798 := pn hF739 hq761 k696 rfl hp752
  have hp799 := pn hF739 hq761 k696 rfl hp753
  have hp800 := pn hF739 hq761 k696 rfl hp754
  have hp801 := pn hF739 hq761 k696 rfl hp755
  have hp802 := pn hF739 hq761 k696 rfl hp756
  have hp803 := pn hF739 hq761 k696 rfl hp757
  have hp804 := pn hF739 hq761 k696 rfl hp758
  have hp805 := pn hF739 hq761 k696 rfl hp759
  have hp806 := pn hF739 hq761 k696 rfl hp760
  have hWT761 := wn (t := 132) hF739 hq761 hWT739 (fun k => tt_arr 132 (by decide) k)
  have hE761 := en (t := 132) hE739 hF739 hq761
  have kq761 : va_up K695 q761 132 q761 = 132 := va_up_self _ _ _
  obtain ⟨L761, K761, P761, I761, eL761, eK761, eP761, eI761, hf⟩ := nwP_f hf hq761 (by omega)
  rw [eL761, eK761, eP761, eI761] at hF761
  rw [eK761] at k762 k763 k764 k765 k766 k767 k768 k769 k770 k771 k772 k773 k774 k775 k776 k777 k778 k779 k780 k781 k782 k783 k784 kq761
  rw [eK761, eP761] at hWT761 hE761
  rw [eP761] at hp785 hp786 hp787 hp788 hp789 hp790 hp791 hp792 hp793 hp794 hp795 hp796 hp797 hp798 hp799 hp800 hp801 hp802 hp803 hp804 hp805 hp806
  refine fl_putFr (k := 29) ck_9 C0 hF761 hin k762 rfl (hF761.ne0 (by rw [kq761]; decide)) ⟨rfl, rfl, rfl, rfl⟩ ⟨rfl, rfl⟩ aw_903 dX8_init_193 (fun H locs hF807 => ?_)
  have hWT807 := wu (k := 29) (v := q761) hWT761 k762 (fun k => tt_arr 29 (by decide) k)
  have hE807 := eu (k := 29) (v := q761) hE761
  have hp807 := up_s P761 a0 29 q761
  have hp808 := (up_k P761 a0 a0 q761 (by decide : 28 ≠ 29)).trans hp785
  have hp809 := (up_k P761 a0 a0 q761 (by decide : 24 ≠ 29)).trans hp786
  have hp810 := (up_k P761 a0 a0 q761 (by decide : 22 ≠ 29)).trans hp787
  have hp811 := (up_k P761 a0 a0 q761 (by decide : 21 ≠ 29)).trans hp788
  have hp812 := (up_k P761 a0 a0 q761 (by decide : 20 ≠ 29)).trans hp789
  have hp813 := (up_k P761 a0 a0 q761 (by decide : 19 ≠ 29)).trans hp790
  have hp814 := (up_k P761 a0 a0 q761 (by decide : 18 ≠ 29)).trans hp791
  have hp815 := (up_k P761 a0 a0 q761 (by decide : 17 ≠ 29)).trans hp792
  have hp816 := (up_k P761 a0 a0 q761 (by decide : 16 ≠ 29)).trans hp793
  have hp817 := (up_k P761 a0 a0 q761 (by decide : 15 ≠ 29)).trans hp794
  have hp818 := (up_k P761 a0 a0 q761 (by decide : 14 ≠ 29)).trans hp795
  have hp819 := (up_k P761 a0 a0 q761 (by decide : 12 ≠ 29)).trans hp796
  have hp820 := (up_k P761 a0 a0 q761 (by decide : 11 ≠ 29)).trans hp797
  have hp821 := (up_k P761 a0 a0 q761 (by decide : 10 ≠ 29)).trans hp798
  have hp822 := (up_k P761 a0 a0 q761 (by decide : 9 ≠ 29)).trans hp799
  have hp823 := (up_k P761 a0 a0 q761 (by decide : 8 ≠ 29)).trans hp800
  have hp824 := (up_k P761 a0 a0 q761 (by decide : 7 ≠ 29)).trans hp801
  have hp825 := (up_k P761 a0 a0 q761 (by decide : 5 ≠ 29)).trans hp802
  have hp826 := (up_k P761 a0 a0 q761 (by decide : 4 ≠ 29)).trans hp803
  have hp827 := (up_k P761 a0 a0 q761 (by decide : 3 ≠ 29)).trans hp804
  have hp828 := (up_k P761 a0 a0 q761 (by decide : 2 ≠ 29)).trans hp805
  have hp829 := (up_k P761 a0 a0 q761 (by decide : 1 ≠ 29)).trans hp806
  obtain ⟨P807, eP807, hf⟩ := bndP_f hf
  rw [eP807] at hF807 hWT807 hE807 hp807 hp808 hp809 hp810 hp811 hp812 hp813 hp814 hp815 hp816 hp817 hp818 hp819 hp820 hp821 hp822 hp823 hp824 hp825 hp826 hp827 hp828 hp829
  refine lv_aload_n C0.1 C0.2.1 dX8_init_196 rfl (lv_at hl 0 rfl) ?_
  refine fl_bipush C0 dX8_init_197 (by decide) ?_
  refine fl_newi C0 hF807 (rgk 8 rfl) (by decide) (by decide) aw_117 (Nat.le_of_ble_eq_true rfl) (Nat.le_of_ble_eq_true rfl) dX8_init_199 (fun q830 H hq830 hF830 => ?_)
  have hF830 : FS D cy B (L761 ++ [q830]) (va_up K761 q830 132) (clrN P807 q830) J s.heap (clr I761 q830) H _ := hF830
  have h1q830 : 1 < q830 := hF830.ne0 (by rw [va_up_self]; decide)
  have n831 := nn hF807 hq830 k762 rfl
  have k831 := kn (t := 132) hF807 hq830 k762 rfl
  have n832 := nn hF807 hq830 kq761 rfl
  have k832 := kn (t := 132) hF807 hq830 kq761 rfl
  have n833 := nn hF807 hq830 k763 rfl
  have k833 := kn (t := 132) hF807 hq830 k763 rfl
  have n834 := nn hF807 hq830 k764 rfl
  have k834 := kn (t := 132) hF807 hq830 k764 rfl
  have n835 := nn hF807 hq830 k765 rfl
  have k835 := kn (t := 132) hF807 hq830 k765 rfl
  have n836 := nn hF807 hq830 k766 rfl
  have k836 := kn (t := 132) hF807 hq830 k766 rfl
  have n837 := nn hF807 hq830 k767 rfl
  have k837 := kn (t := 132) hF807 hq830 k767 rfl
  have n838 := nn hF807 hq830 k768 rfl
  have k838 := kn (t := 132) hF807 hq830 k768 rfl
  have n839 := nn hF807 hq830 k769 rfl
  have k839 := kn (t := 132) hF807 hq830 k769 rfl
  have n840 := nn hF807 hq830 k770 rfl
  have k840 := kn (t := 132) hF807 hq830 k770 rfl
  have n841 := nn hF807 hq830 k771 rfl
  have k841 := kn (t := 132) hF807 hq830 k771 rfl
  have n842 := nn hF807 hq830 k772 rfl
  have k842 := kn (t := 132) hF807 hq830 k772 rfl
  have n843 := nn hF807 hq830 k773 rfl
  have k843 := kn (t := 132) hF807 hq830 k773 rfl
  have n844 := nn hF807 hq830 k774 rfl
  have k844 := kn (t := 132) hF807 hq830 k774 rfl
  have n845 := nn hF807 hq830 k775 rfl
  have k845 := kn (t := 132) hF807 hq830 k775 rfl
  have n846 := nn hF807 hq830 k776 rfl
  have k846 := kn (t := 132) hF807 hq830 k776 rfl
  have n847 := nn hF807 hq830 k777 rfl
  have k847 := kn (t := 132) hF807 hq830 k777 rfl
  have n848 := nn hF807 hq830 k778 rfl
  have k848 := kn (t := 132) hF807 hq830 k778 rfl
  have n849 := nn hF807 hq830 k779 rfl
  have k849 := kn (t := 132) hF807 hq830 k779 rfl
  have n850 := nn hF807 hq830 k780 rfl
  have k850 := kn (t := 132) hF807 hq830 k780 rfl
  have n851 := nn hF807 hq830 k781 rfl
  have k851 := kn (t := 132) hF807 hq830 k781 rfl
  have n852 := nn hF807 hq830 k782 rfl
  have k852 := kn (t := 132) hF807 hq830 k782 rfl
  have n853 := nn hF807 hq830 k783 rfl
  have k853 := kn (t := 132) hF807 hq830 k783 rfl
  have n854 := nn hF807 hq830 k784 rfl
  have k854 := kn (t := 132) hF807 hq830 k784 rfl
  have z830 := k00 hE807 hF807 hq830 n831
  have hp855 := pn hF807 hq830 k762 rfl hp807
  have hp856 := pn hF807 hq830 k762 rfl hp808
  have hp857 := pn hF807 hq830 k762 rfl hp809
  have hp858 := pn hF807 hq830 k762 rfl hp810
  have hp859 := pn hF807 hq830 k762 rfl hp811
  have hp860 := pn hF807 hq830 k762 rfl hp812
  have hp861 := pn hF807 hq830 k762 rfl hp813
  have hp862 := pn hF807 hq830 k762 rfl hp814
  have hp863 := pn hF807 hq830 k762 rfl hp815
  have hp864 := pn hF807 hq830 k762 rfl hp816
  have hp865 := pn hF807 hq830 k762 rfl hp817
  have hp866 := pn hF807 hq830 k762 rfl hp818
  have hp867 := pn hF807 hq830 k762 rfl hp819
  have hp868 := pn hF807 hq830 k762 rfl hp820
  have hp869 := pn hF807 hq830 k762 rfl hp821
  have hp870 := pn hF807 hq830 k762 rfl hp822
  have hp871 := pn hF807 hq830 k762 rfl hp823
  have hp872 := pn hF807 hq830 k762 rfl hp824
  have hp873 := pn hF807 hq830 k762 rfl hp825
  have hp874 := pn hF807 hq830 k762 rfl hp826
  have hp875 := pn hF807 hq830 k762 rfl hp827
  have hp876 := pn hF807 hq830 k762 rfl hp828
  have hp877 := pn hF807 hq830 k762 rfl hp829
  have hWT830 := wn (t := 132) hF807 hq830 hWT807 (fun k => tt_arr 132 (by decide) k)
  have hE830 := en (t := 132) hE807 hF807 hq830
  have kq830 : va_up K761 q830 132 q830 = 132 := va_up_self _ _ _
  obtain ⟨L830, K830, P830, I830, eL830, eK830, eP830, eI830, hf⟩ := nwP_f hf hq830 (by omega)
  rw [eL830, eK830, eP830, eI830] at hF830
  rw [eK830] at k831 k832 k833 k834 k835 k836 k837 k838 k839 k840 k841 k842 k843 k844 k845 k846 k847 k848 k849 k850 k851 k852 k853 k854 kq830
  rw [eK830, eP830] at hWT830 hE830
  rw [eP830] at hp855 hp856 hp857 hp858 hp859 hp860 hp861 hp862 hp863 hp864 hp865 hp866 hp867 hp868 hp869 hp870 hp871 hp872 hp873 hp874 hp875 hp876 hp877
  refine fl_putFr (k := 32) ck_9 C0 hF830 hin k831 rfl (hF830.ne0 (by rw [kq830]; decide)) ⟨rfl, rfl, rfl, rfl⟩ ⟨rfl, rfl⟩ aw_906 dX8_init_201 (fun H locs hF878 => ?_)
  have hWT878 := wu (k := 32) (v := q830) hWT830 k831 (fun k => tt_arr 29 (by decide) k)
  have hE878 := eu (k := 32) (v := q830) hE830
  have hp878 := up_s P830 a0 32 q830
  have hp879 := (up_k P830 a0 a0 q830 (by decide : 29 ≠ 32)).trans hp855
  have hp880 := (up_k P830 a0 a0 q830 (by decide : 28 ≠ 32)).trans hp856
  have hp881 := (up_k P830 a0 a0 q830 (by decide : 24 ≠ 32)).trans hp857
  have hp882 := (up_k P830 a0 a0 q830 (by decide : 22 ≠ 32)).trans hp858
  have hp883 := (up_k P830 a0 a0 q830 (by decide : 21 ≠ 32)).trans hp859
  have hp884 := (up_k P830 a0 a0 q830 (by decide : 20 ≠ 32)).trans hp860
  have hp885 := (up_k P830 a0 a0 q830 (by decide : 19 ≠ 32)).trans hp861
  have hp886 := (up_k P830 a0 a0 q830 (by decide : 18 ≠ 32)).trans hp862
  have hp887 := (up_k P830 a0 a0 q830 (by decide : 17 ≠ 32)).trans hp863
  have hp888 := (up_k P830 a0 a0 q830 (by decide : 16 ≠ 32)).trans hp864
  have hp889 := (up_k P830 a0 a0 q830 (by decide : 15 ≠ 32)).trans hp865
  have hp890 := (up_k P830 a0 a0 q830 (by decide : 14 ≠ 32)).trans hp866
  have hp891 := (up_k P830 a0 a0 q830 (by decide : 12 ≠ 32)).trans hp867
  have hp892 := (up_k P830 a0 a0 q830 (by decide : 11 ≠ 32)).trans hp868
  have hp893 := (up_k P830 a0 a0 q830 (by decide : 10 ≠ 32)).trans hp869
  have hp894 := (up_k P830 a0 a0 q830 (by decide : 9 ≠ 32)).trans hp870
  have hp895 := (up_k P830 a0 a0 q830 (by decide : 8 ≠ 32)).trans hp871
  have hp896 := (up_k P830 a0 a0 q830 (by decide : 7 ≠ 32)).trans hp872
  have hp897 := (up_k P830 a0 a0 q830 (by decide : 5 ≠ 32)).trans hp873
  have hp898 := (up_k P830 a0 a0 q830 (by decide : 4 ≠ 32)).trans hp874
  have hp899 := (up_k P830 a0 a0 q830 (by decide : 3 ≠ 32)).trans hp875
  have hp900 := (up_k P830 a0 a0 q830 (by decide : 2 ≠ 32)).trans hp876
  have hp901 := (up_k P830 a0 a0 q830 (by decide : 1 ≠ 32)).trans hp877
  obtain ⟨P878, eP878, hf⟩ := bndP_f hf
  rw [eP878] at hF878 hWT878 hE878 hp878 hp879 hp880 hp881 hp882 hp883 hp884 hp885 hp886 hp887 hp888 hp889 hp890 hp891 hp892 hp893 hp894 hp895 hp896 hp897 hp898 hp899 hp900 hp901
  refine lv_aload_n C0.1 C0.2.1 dX8_init_204 rfl (lv_at hl 0 rfl) ?_
  refine fl_bipush C0 dX8_init_205 (by decide) ?_
  refine fl_newi C0 hF878 (rgk 60 rfl) (by decide) (by decide) aw_117 (Nat.le_of_ble_eq_true rfl) (Nat.le_of_ble_eq_true rfl) dX8_init_207 (fun q902 H hq902 hF902 => ?_)
  have hF902 : FS D cy B (L830 ++ [q902]) (va_up K830 q902 340) (clrN P878 q902) J s.heap (clr I830 q902) H _ := hF902
  have h1q902 : 1 < q902 := hF902.ne0 (by rw [va_up_self]; decide)
  have n903 := nn hF878 hq902 k831 rfl
  have k903 := kn (t := 340) hF878 hq902 k831 rfl
  have n904 := nn hF878 hq902 kq830 rfl
  have k904 := kn (t := 340) hF878 hq902 kq830 rfl
  have n905 := nn hF878 hq902 k832 rfl
  have k905 := kn (t := 340) hF878 hq902 k832 rfl
  have n906 := nn hF878 hq902 k833 rfl
  have k906 := kn (t := 340) hF878 hq902 k833 rfl
  have n907 := nn hF878 hq902 k834 rfl
  have k907 := kn (t := 340) hF878 hq902 k834 rfl
  have n908 := nn hF878 hq902 k835 rfl
  have k908 := kn (t := 340) hF878 hq902 k835 rfl
  have n909 := nn hF878 hq902 k836 rfl
  have k909 := kn (t := 340) hF878 hq902 k836 rfl
  have n910 := nn hF878 hq902 k837 rfl
  have k910 := kn (t := 340) hF878 hq902 k837 rfl
  have n911 := nn hF878 hq902 k838 rfl
  have k911 := kn (t := 340) hF878 hq902 k838 rfl
  have n912 := nn hF878 hq902 k839 rfl
  have k912 := kn (t := 340) hF878 hq902 k839 rfl
  have n913 := nn hF878 hq902 k840 rfl
  have k913 := kn (t := 340) hF878 hq902 k840 rfl
  have n914 := nn hF878 hq902 k841 rfl
  have k914 := kn (t := 340) hF878 hq902 k841 rfl
  have n915 := nn hF878 hq902 k842 rfl
  have k915 := kn (t := 340) hF878 hq902 k842 rfl
  have n916 := nn hF878 hq902 k843 rfl
  have k916 := kn (t := 340) hF878 hq902 k843 rfl
  have n917 := nn hF878 hq902 k844 rfl
  have k917 := kn (t := 340) hF878 hq902 k844 rfl
  have n918 := nn hF878 hq902 k845 rfl
  have k918 := kn (t := 340) hF878 hq902 k845 rfl
  have n919 := nn hF878 hq902 k846 rfl
  have k919 := kn (t := 340) hF878 hq902 k846 rfl
  have n920 := nn hF878 hq902 k847 rfl
  have k920 := kn (t := 340) hF878 hq902 k847 rfl
  have n921 := nn hF878 hq902 k848 rfl
  have k921 := kn (t := 340) hF878 hq902 k848 rfl
  have n922 := nn hF878 hq902 k849 rfl
  have k922 := kn (t := 340) hF878 hq902 k849 rfl
  have n923 := nn hF878 hq902 k850 rfl
  have k923 := kn (t := 340) hF878 hq902 k850 rfl
  have n924 := nn hF878 hq902 k851 rfl
  have k924 := kn (t := 340) hF878 hq902 k851 rfl
  have n925 := nn hF878 hq902 k852 rfl
  have k925 := kn (t := 340) hF878 hq902 k852 rfl
  have n926 := nn hF878 hq902 k853 rfl
  have k926 := kn (t := 340) hF878 hq902 k853 rfl
  have n927 := nn hF878 hq902 k854 rfl
  have k927 := kn (t := 340) hF878 hq902 k854 rfl
  have z902 := k00 hE878 hF878 hq902 n903
  have hp928 := pn hF878 hq902 k831 rfl hp878
  have hp929 := pn hF878 hq902 k831 rfl hp879
  have hp930 := pn hF878 hq902 k831 rfl hp880
  have hp931 := pn hF878 hq902 k831 rfl hp881
  have hp932 := pn hF878 hq902 k831 rfl hp882
  have hp933 := pn hF878 hq902 k831 rfl hp883
  have hp934 := pn hF878 hq902 k831 rfl hp884
  have hp935 := pn hF878 hq902 k831 rfl hp885
  have hp936 := pn hF878 hq902 k831 rfl hp886
  have hp937 := pn hF878 hq902 k831 rfl hp887
  have hp938 := pn hF878 hq902 k831 rfl hp888
  have hp939 := pn hF878 hq902 k831 rfl hp889
  have hp940 := pn hF878 hq902 k831 rfl hp890
  have hp941 := pn hF878 hq902 k831 rfl hp891
  have hp942 := pn hF878 hq902 k831 rfl hp892
  have hp943 := pn hF878 hq902 k831 rfl hp893
  have hp944 := pn hF878 hq902 k831 rfl hp894
  have hp945 := pn hF878 hq902 k831 rfl hp895
  have hp946 := pn hF878 hq902 k831 rfl hp896
  have hp947 := pn hF878 hq902 k831 rfl hp897
  have hp948 := pn hF878 hq902 k831 rfl hp898
  have hp949 := pn hF878 hq902 k831 rfl hp899
  have hp950 := pn hF878 hq902 k831 rfl hp900
  have hp951 := pn hF878 hq902 k831 rfl hp901
  have hWT902 := wn (t := 340) hF878 hq902 hWT878 (fun k => tt_arr 340 (by decide) k)
  have hE902 := en (t := 340) hE878 hF878 hq902
  have kq902 : va_up K830 q902 340 q902 = 340 := va_up_self _ _ _
  obtain ⟨L902, K902, P902, I902, eL902, eK902, eP902, eI902, hf⟩ := nwP_f hf hq902 (by omega)
  rw [eL902, eK902, eP902, eI902] at hF902
  rw [eK902] at k903 k904 k905 k906 k907 k908 k909 k910 k911 k912 k913 k914 k915 k916 k917 k918 k919 k920 k921 k922 k923 k924 k925 k926 k927 kq902
  rw [eK902, eP902] at hWT902 hE902
  rw [eP902] at hp928 hp929 hp930 hp931 hp932 hp933 hp934 hp935 hp936 hp937 hp938 hp939 hp940 hp941 hp942 hp943 hp944 hp945 hp946 hp947 hp948 hp949 hp950 hp951
  refine fl_putFr (k := 33) ck_9 C0 hF902 hin k903 rfl (hF902.ne0 (by rw [kq902]; decide)) ⟨rfl, rfl, rfl, rfl⟩ ⟨rfl, rfl⟩ aw_907 dX8_init_209 (fun H locs hF952 => ?_)
  have hWT952 := wu (k := 33) (v := q902) hWT902 k903 (fun k => tt_arr 29 (by decide) k)
  have hE952 := eu (k := 33) (v := q902) hE902
  have hp952 := up_s P902 a0 33 q902
  have hp953 := (up_k P902 a0 a0 q902 (by decide : 32 ≠ 33)).trans hp928
  have hp954 := (up_k P902 a0 a0 q902 (by decide : 29 ≠ 33)).trans hp929
  have hp955 := (up_k P902 a0 a0 q902 (by decide : 28 ≠ 33)).trans hp930
  have hp956 := (up_k P902 a0 a0 q902 (by decide : 24 ≠ 33)).trans hp931
  have hp957 := (up_k P902 a0 a0 q902 (by decide : 22 ≠ 33)).trans hp932
  have hp958 := (up_k P902 a0 a0 q902 (by decide : 21 ≠ 33)).trans hp933
  have hp959 := (up_k P902 a0 a0 q902 (by decide : 20 ≠ 33)).trans hp934
  have hp960 := (up_k P902 a0 a0 q902 (by decide : 19 ≠ 33)).trans hp935
  have hp961 := (up_k P902 a0 a0 q902 (by decide : 18 ≠ 33)).trans hp936
  have hp962 := (up_k P902 a0 a0 q902 (by decide : 17 ≠ 33)).trans hp937
  have hp963 := (up_k P902 a0 a0 q902 (by decide : 16 ≠ 33)).trans hp938
  have hp964 := (up_k P902 a0 a0 q902 (by decide : 15 ≠ 33)).trans hp939
  have hp965 := (up_k P902 a0 a0 q902 (by decide : 14 ≠ 33)).trans hp940
  have hp966 := (up_k P902 a0 a0 q902 (by decide : 12 ≠ 33)).trans hp941
  have hp967 := (up_k P902 a0 a0 q902 (by decide : 11 ≠ 33)).trans hp942
  have hp968 := (up_k P902 a0 a0 q902 (by decide : 10 ≠ 33)).trans hp943
  have hp969 := (up_k P902 a0 a0 q902 (by decide : 9 ≠ 33)).trans hp944
  have hp970 := (up_k P902 a0 a0 q902 (by decide : 8 ≠ 33)).trans hp945
  have hp971 := (up_k P902 a0 a0 q902 (by decide : 7 ≠ 33)).trans hp946
  have hp972 := (up_k P902 a0 a0 q902 (by decide : 5 ≠ 33)).trans hp947
  have hp973 := (up_k P902 a0 a0 q902 (by decide : 4 ≠ 33)).trans hp948
  have hp974 := (up_k P902 a0 a0 q902 (by decide : 3 ≠ 33)).trans hp949
  have hp975 := (up_k P902 a0 a0 q902 (by decide : 2 ≠ 33)).trans hp950
  have hp976 := (up_k P902 a0 a0 q902 (by decide : 1 ≠ 33)).trans hp951
  obtain ⟨P952, eP952, hf⟩ := bndP_f hf
  rw [eP952] at hF952 hWT952 hE952 hp952 hp953 hp954 hp955 hp956 hp957 hp958 hp959 hp960 hp961 hp962 hp963 hp964 hp965 hp966 hp967 hp968 hp969 hp970 hp971 hp972 hp973 hp974 hp975 hp976
  refine lv_aload_n C0.1 C0.2.1 dX8_init_212 rfl (lv_at hl 0 rfl) ?_
  refine fl_bipush C0 dX8_init_213 (by decide) ?_
  refine fl_newi C0 hF952 (rgk 8 rfl) (by decide) (by decide) aw_117 (Nat.le_of_ble_eq_true rfl) (Nat.le_of_ble_eq_true rfl) dX8_init_215 (fun q977 H hq977 hF977 => ?_)
  have hF977 : FS D cy B (L902 ++ [q977]) (va_up K902 q977 132) (clrN P952 q977) J s.heap (clr I902 q977) H _ := hF977
  have h1q977 : 1 < q977 := hF977.ne0 (by rw [va_up_self]; decide)
  have n978 := nn hF952 hq977 k903 rfl
  have k978 := kn (t := 132) hF952 hq977 k903 rfl
  have n979 := nn hF952 hq977 kq902 rfl
  have k979 := kn (t := 132) hF952 hq977 kq902 rfl
  have n980 := nn hF952 hq977 k904 rfl
  have k980 := kn (t := 132) hF952 hq977 k904 rfl
  have n981 := nn hF952 hq977 k905 rfl
  have k981 := kn (t := 132) hF952 hq977 k905 rfl
  have n982 := nn hF952 hq977 k906 rfl
  have k982 := kn (t := 132) hF952 hq977 k906 rfl
  have n983 := nn hF952 hq977 k907 rfl
  have k983 := kn (t := 132) hF952 hq977 k907 rfl
  have n984 := nn hF952 hq977 k908 rfl
  have k984 := kn (t := 132) hF952 hq977 k908 rfl
  have n985 := nn hF952 hq977 k909 rfl
  have k985 := kn (t := 132) hF952 hq977 k909 rfl
  have n986 := nn hF952 hq977 k910 rfl
  have k986 := kn (t := 132) hF952 hq977 k910 rfl
  have n987 := nn hF952 hq977 k911 rfl
  have k987 := kn (t := 132) hF952 hq977 k911 rfl
  have n988 := nn hF952 hq977 k912 rfl
  have k988 := kn (t := 132) hF952 hq977 k912 rfl
  have n989 := nn hF952 hq977 k913 rfl
  have k989 := kn (t := 132) hF952 hq977 k913 rfl
  have n990 := nn hF952 hq977 k914 rfl
  have k990 := kn (t := 132) hF952 hq977 k914 rfl
  have n991 := nn hF952 hq977 k915 rfl
  have k991 := kn (t := 132) hF952 hq977 k915 rfl
  have n992 := nn hF952 hq977 k916 rfl
  have k992 := kn (t := 132) hF952 hq977 k916 rfl
  have n993 := nn hF952 hq977 k917 rfl
  have k993 := kn (t := 132) hF952 hq977 k917 rfl
  have n994 := nn hF952 hq977 k918 rfl
  have k994 := kn (t := 132) hF952 hq977 k918 rfl
  have n995 := nn hF952 hq977 k919 rfl
  have k995 := kn (t := 132) hF952 hq977 k919 rfl
  have n996 := nn hF952 hq977 k920 rfl
  have k996 := kn (t := 132) hF952 hq977 k920 rfl
  have n997 := nn hF952 hq977 k921 rfl
  have k997 := kn (t := 132) hF952 hq977 k921 rfl
  have n998 := nn hF952 hq977 k922 rfl
  have k998 := kn (t := 132) hF952 hq977 k922 rfl
  have n999 := nn hF952 hq977 k923 rfl
  have k999 := kn (t := 132) hF952 hq977 k923 rfl
  have n1000 := nn hF952 hq977 k924 rfl
  have k1000 := kn (t := 132) hF952 hq977 k924 rfl
  have n1001 := nn hF952 hq977 k925 rfl
  have k1001 := kn (t := 132) hF952 hq977 k925 rfl
  have n1002 := nn hF952 hq977 k926 rfl
  have k1002 := kn (t := 132) hF952 hq977 k926 rfl
  have n1003 := nn hF952 hq977 k927 rfl
  have k1003 := kn (t := 132) hF952 hq977 k927 rfl
  have z977 := k00 hE952 hF952 hq977 n978
  have hp1004 := pn hF952 hq977 k903 rfl hp952
  have hp1005 := pn hF952 hq977 k903 rfl hp953
  have hp1006 := pn hF952 hq977 k903 rfl hp954
  have hp1007 := pn hF952 hq977 k903 rfl hp955
  have hp1008 := pn hF952 hq977 k903 rfl hp956
  have hp1009 := pn hF952 hq977 k903 rfl hp957
  have hp1010 := pn hF952 hq977 k903 rfl hp958
  have hp1011 := pn hF952 hq977 k903 rfl hp959
  have hp1012 := pn hF952 hq977 k903 rfl hp960
  have hp1013 := pn hF952 hq977 k903 rfl hp961
  have hp1014 := pn hF952 hq977 k903 rfl hp962
  have hp1015 := pn hF952 hq977 k903 rfl hp963
  have hp1016 := pn hF952 hq977 k903 rfl hp964
  have hp1017 := pn hF952 hq977 k903 rfl hp965
  have hp1018 := pn hF952 hq977 k903 rfl hp966
  have hp1019 := pn hF952 hq977 k903 rfl hp967
  have hp1020 := pn hF952 hq977 k903 rfl hp968
  have hp1021 := pn hF952 hq977 k903 rfl hp969
  have hp1022 := pn hF952 hq977 k903 rfl hp970
  have hp1023 := pn hF952 hq977 k903 rfl hp971
  have hp1024 := pn hF952 hq977 k903 rfl hp972
  have hp1025 := pn hF952 hq977 k903 rfl hp973
  have hp1026 := pn hF952 hq977 k903 rfl hp974
  have hp1027 := pn hF952 hq977 k903 rfl hp975
  have hp1028 := pn hF952 hq977 k903 rfl hp976
  have hWT977 := wn (t := 132) hF952 hq977 hWT952 (fun k => tt_arr 132 (by decide) k)
  have hE977 := en (t := 132) hE952 hF952 hq977
  have kq977 : va_up K902 q977 132 q977 = 132 := va_up_self _ _ _
  obtain ⟨L977, K977, P977, I977, eL977, eK977, eP977, eI977, hf⟩ := nwP_f hf hq977 (by omega)
  rw [eL977, eK977, eP977, eI977] at hF977
  rw [eK977] at k978 k979 k980 k981 k982 k983 k984 k985 k986 k987 k988 k989 k990 k991 k992 k993 k994 k995 k996 k997 k998 k999 k1000 k1001 k1002 k1003 kq977
  rw [eK977, eP977] at hWT977 hE977
  rw [eP977] at hp1004 hp1005 hp1006 hp1007 hp1008 hp1009 hp1010 hp1011 hp1012 hp1013 hp1014 hp1015 hp1016 hp1017 hp1018 hp1019 hp1020 hp1021 hp1022 hp1023 hp1024 hp1025 hp1026 hp1027 hp1028
  refine fl_putFr (k := 34) ck_9 C0 hF977 hin k978 rfl (hF977.ne0 (by rw [kq977]; decide)) ⟨rfl, rfl, rfl, rfl⟩ ⟨rfl, rfl⟩ aw_908 dX8_init_217 (fun H locs hF1029 => ?_)
  have hWT1029 := wu (k := 34) (v := q977) hWT977 k978 (fun k => tt_arr 29 (by decide) k)
  have hE1029 := eu (k := 34) (v := q977) hE977
  have hp1029 := up_s P977 a0 34 q977
  have hp1030 := (up_k P977 a0 a0 q977 (by decide : 33 ≠ 34)).trans hp1004
  have hp1031 := (up_k P977 a0 a0 q977 (by decide : 32 ≠ 34)).trans hp1005
  have hp1032 := (up_k P977 a0 a0 q977 (by decide : 29 ≠ 34)).trans hp1006
  have hp1033 := (up_k P977 a0 a0 q977 (by decide : 28 ≠ 34)).trans hp1007
  have hp1034 := (up_k P977 a0 a0 q977 (by decide : 24 ≠ 34)).trans hp1008
  have hp1035 := (up_k P977 a0 a0 q977 (by decide : 22 ≠ 34)).trans hp1009
  have hp1036 := (up_k P977 a0 a0 q977 (by decide : 21 ≠ 34)).trans hp1010
  have hp1037 := (up_k P977 a0 a0 q977 (by decide : 20 ≠ 34)).trans hp1011
  have hp1038 := (up_k P977 a0 a0 q977 (by decide : 19 ≠ 34)).trans hp1012
  have hp1039 := (up_k P977 a0 a0 q977 (by decide : 18 ≠ 34)).trans hp1013
  have hp1040 := (up_k P977 a0 a0 q977 (by decide : 17 ≠ 34)).trans hp1014
  have hp1041 := (up_k P977 a0 a0 q977 (by decide : 16 ≠ 34)).trans hp1015
  have hp1042 := (up_k P977 a0 a0 q977 (by decide : 15 ≠ 34)).trans hp1016
  have hp1043 := (up_k P977 a0 a0 q977 (by decide : 14 ≠ 34)).trans hp1017
  have hp1044 := (up_k P977 a0 a0 q977 (by decide : 12 ≠ 34)).trans hp1018
  have hp1045 := (up_k P977 a0 a0 q977 (by decide : 11 ≠ 34)).trans hp1019
  have hp1046 := (up_k P977 a0 a0 q977 (by decide : 10 ≠ 34)).trans hp1020
  have hp1047 := (up_k P977 a0 a0 q977 (by decide : 9 ≠ 34)).trans hp1021
  have hp1048 := (up_k P977 a0 a0 q977 (by decide : 8 ≠ 34)).trans hp1022
  have hp1049 := (up_k P977 a0 a0 q977 (by decide : 7 ≠ 34)).trans hp1023
  have hp1050 := (up_k P977 a0 a0 q977 (by decide : 5 ≠ 34)).trans hp1024
  have hp1051 := (up_k P977 a0 a0 q977 (by decide : 4 ≠ 34)).trans hp1025
  have hp1052 := (up_k P977 a0 a0 q977 (by decide : 3 ≠ 34)).trans hp1026
  have hp1053 := (up_k P977 a0 a0 q977 (by decide : 2 ≠ 34)).trans hp1027
  have hp1054 := (up_k P977 a0 a0 q977 (by decide : 1 ≠ 34)).trans hp1028
  obtain ⟨P1029, eP1029, hf⟩ := bndP_f hf
  rw [eP1029] at hF1029 hWT1029 hE1029 hp1029 hp1030 hp1031 hp1032 hp1033 hp1034 hp1035 hp1036 hp1037 hp1038 hp1039 hp1040 hp1041 hp1042 hp1043 hp1044 hp1045 hp1046 hp1047 hp1048 hp1049 hp1050 hp1051 hp1052 hp1053 hp1054
  refine lv_aload_n C0.1 C0.2.1 dX8_init_220 rfl (lv_at hl 0 rfl) ?_
  refine fl_bipush C0 dX8_init_221 (by decide) ?_
  refine fl_newi C0 hF1029 (rgk 8 rfl) (by decide) (by decide) aw_117 (Nat.le_of_ble_eq_true rfl) (Nat.le_of_ble_eq_true rfl) dX8_init_223 (fun q1055 H hq1055 hF1055 => ?_)
  have hF1055 : FS D cy B (L977 ++ [q1055]) (va_up K977 q1055 132) (clrN P1029 q1055) J s.heap (clr I977 q1055) H _ := hF1055
  have h1q1055 : 1 < q1055 := hF1055.ne0 (by rw [va_up_self]; decide)
  have n1056 := nn hF1029 hq1055 k978 rfl
  have k1056 := kn (t := 132) hF1029 hq1055 k978 rfl
  have n1057 := nn hF1029 hq1055 kq977 rfl
  have k1057 := kn (t := 132) hF1029 hq1055 kq977 rfl
  have n1058 := nn hF1029 hq1055 k979 rfl
  have k1058 := kn (t := 132) hF1029 hq1055 k979 rfl
  have n1059 := nn hF1029 hq1055 k980 rfl
  have k1059 := kn (t := 132) hF1029 hq1055 k980 rfl
  have n1060 := nn hF1029 hq1055 k981 rfl
  have k1060 := kn (t := 132) hF1029 hq1055 k981 rfl
  have n1061 := nn hF1029 hq1055 k982 rfl
  have k1061 := kn (t := 132) hF1029 hq1055 k982 rfl
  have n1062 := nn hF1029 hq1055 k983 rfl
  have k1062 := kn (t := 132) hF1029 hq1055 k983 rfl
  have n1063 := nn hF1029 hq1055 k984 rfl
  have k1063 := kn (t := 132) hF1029 hq1055 k984 rfl
  have n1064 := nn hF1029 hq1055 k985 rfl
  have k1064 := kn (t := 132) hF1029 hq1055 k985 rfl
  have n1065 := nn hF1029 hq1055 k986 rfl
  have k1065 := kn (t := 132) hF1029 hq1055 k986 rfl
  have n1066 := nn hF1029 hq1055 k987 rfl
  have k1066 := kn (t := 132) hF1029 hq1055 k987 rfl
  have n1067 := nn hF1029 hq1055 k988 rfl
  have k1067 := kn (t := 132) hF1029 hq1055 k988 rfl
  have n1068 := nn hF1029 hq1055 k989 rfl
  have k1068 := kn (t := 132) hF1029 hq1055 k989 rfl
  have n1069 := nn hF1029 hq1055 k990 rfl
  have k1069 := kn (t := 132) hF1029 hq1055 k990 rfl
  have n1070 := nn hF1029 hq1055 k991 rfl
  have k1070 := kn (t := 132) hF1029 hq1055 k991 rfl
  have n1071 := nn hF1029 hq1055 k992 rfl
  have k1071 := kn (t := 132) hF1029 hq1055 k992 rfl
  have n1072 := nn hF1029 hq1055 k993 rfl
  have k1072 := kn (t := 132) hF1029 hq1055 k993 rfl
  have n1073 := nn hF1029 hq1055 k994 rfl
  have k1073 := kn (t := 132) hF1029 hq1055 k994 rfl
  have n1074 := nn hF1029 hq1055 k995 rfl
  have k1074 := kn (t := 132) hF1029 hq1055 k995 rfl
  have n1075 := nn hF1029 hq1055 k996 rfl
  have k1075 := kn (t := 132) hF1029 hq1055 k996 rfl
  have n1076 := nn hF1029 hq1055 k997 rfl
  have k1076 := kn (t := 132) hF1029 hq1055 k997 rfl
  have n1077 := nn hF1029 hq1055 k998 rfl
  have k1077 := kn (t := 132) hF1029 hq1055 k998 rfl
  have n1078 := nn hF1029 hq1055 k999 rfl
  have k1078 := kn (t := 132) hF1029 hq1055 k999 rfl
  have n1079 := nn hF1029 hq1055 k1000 rfl
  have k1079 := kn (t := 132) hF1029 hq1055 k1000 rfl
  have n1080 := nn hF1029 hq1055 k1001 rfl
  have k1080 := kn (t := 132) hF1029 hq1055 k1001 rfl
  have n1081 := nn hF1029 hq1055 k1002 rfl
  have k1081 := kn (t := 132) hF1029 hq1055 k1002 rfl
  have n1082 := nn hF1029 hq1055 k1003 rfl
  have k1082 := kn (t := 132) hF1029 hq1055 k1003 rfl
  have z1055 := k00 hE1029 hF1029 hq1055 n1056
  have hp1083 := pn hF1029 hq1055 k978 rfl hp1029
  have hp1084 := pn hF1029 hq1055 k978 rfl hp1030
  have hp1085 := pn hF1029 hq1055 k978 rfl hp1031
  have hp1086 := pn hF1029 hq1055 k978 rfl hp1032
  have hp1087 := pn hF1029 hq1055 k978 rfl hp1033
  have hp1088 := pn hF1029 hq1055 k978 rfl hp1034
  have hp1089 := pn hF1029 hq1055 k978 rfl hp1035
  have hp1090 := pn hF1029 hq1055 k978 rfl hp1036
  have hp1091 := pn hF1029 hq1055 k978 rfl hp1037
  have hp1092 := pn hF1029 hq1055 k978 rfl hp1038
  have hp1093 := pn hF1029 hq1055 k978 rfl hp1039
  have hp1094 := pn hF1029 hq1055 k978 rfl hp1040
  have hp1095 := pn hF1029 hq1055 k978 rfl hp1041
  have hp1096 := pn hF1029 hq1055 k978 rfl hp1042
  have hp1097 := pn hF1029 hq1055 k978 rfl hp1043
  have hp1098 := pn hF1029 hq1055 k978 rfl hp1044
  have hp1099 := pn hF1029 hq1055 k978 rfl hp1045
  have hp1100 := pn hF1029 hq1055 k978 rfl hp1046
  have hp1101 := pn hF1029 hq1055 k978 rfl hp1047
  have hp1102 := pn hF1029 hq1055 k978 rfl hp1048
  have hp1103 := pn hF1029 hq1055 k978 rfl hp1049
  have hp1104 := pn hF1029 hq1055 k978 rfl hp1050
  have hp1105 := pn hF1029 hq1055 k978 rfl hp1051
  have hp1106 := pn hF1029 hq1055 k978 rfl hp1052
  have hp1107 := pn hF1029 hq1055 k978 rfl hp1053
  have hp1108 := pn hF1029 hq1055 k978 rfl hp1054
  have hWT1055 := wn (t := 132) hF1029 hq1055 hWT1029 (fun k => tt_arr 132 (by decide) k)
  have hE1055 := en (t := 132) hE1029 hF1029 hq1055
  have kq1055 : va_up K977 q1055 132 q1055 = 132 := va_up_self _ _ _
  obtain ⟨L1055, K1055, P1055, I1055, eL1055, eK1055, eP1055, eI1055, hf⟩ := nwP_f hf hq1055 (by omega)
  rw [eL1055, eK1055, eP1055, eI1055] at hF1055
  rw [eK1055] at k1056 k1057 k1058 k1059 k1060 k1061 k1062 k1063 k1064 k1065 k1066 k1067 k1068 k1069 k1070 k1071 k1072 k1073 k1074 k1075 k1076 k1077 k1078 k1079 k1080 k1081 k1082 kq1055
  rw [eK1055, eP1055] at hWT1055 hE1055
  rw [eP1055] at hp1083 hp1084 hp1085 hp1086 hp1087 hp1088 hp1089 hp1090 hp1091 hp1092 hp1093 hp1094 hp1095 hp1096 hp1097 hp1098 hp1099 hp1100 hp1101 hp1102 hp1103 hp1104 hp1105 hp1106 hp1107 hp1108
  refine fl_putFr (k := 35) ck_9 C0 hF1055 hin k1056 rfl (hF1055.ne0 (by rw [kq1055]; decide)) ⟨rfl, rfl, rfl, rfl⟩ ⟨rfl, rfl⟩ aw_909 dX8_init_225 (fun H locs hF1109 => ?_)
  have hWT1109 := wu (k := 35) (v := q1055) hWT1055 k1056 (fun k => tt_arr 29 (by decide) k)
  have hE1109 := eu (k := 35) (v := q1055) hE1055
  have hp1109 := up_s P1055 a0 35 q1055
  have hp1110 := (up_k P1055 a0 a0 q1055 (by decide : 34 ≠ 35)).trans hp1083
  have hp1111 := (up_k P1055 a0 a0 q1055 (by decide : 33 ≠ 35)).trans hp1084
  have hp1112 := (up_k P1055 a0 a0 q1055 (by decide : 32 ≠ 35)).trans hp1085
  have hp1113 := (up_k P1055 a0 a0 q1055 (by decide : 29 ≠ 35)).trans hp1086
  have hp1114 := (up_k P1055 a0 a0 q1055 (by decide : 28 ≠ 35)).trans hp1087
  have hp1115 := (up_k P1055 a0 a0 q1055 (by decide : 24 ≠ 35)).trans hp1088
  have hp1116 := (up_k P1055 a0 a0 q1055 (by decide : 22 ≠ 35)).trans hp1089
  have hp1117 := (up_k P1055 a0 a0 q1055 (by decide : 21 ≠ 35)).trans hp1090
  have hp1118 := (up_k P1055 a0 a0 q1055 (by decide : 20 ≠ 35)).trans hp1091
  have hp1119 := (up_k P1055 a0 a0 q1055 (by decide : 19 ≠ 35)).trans hp1092
  have hp1120 := (up_k P1055 a0 a0 q1055 (by decide : 18 ≠ 35)).trans hp1093
  have hp1121 := (up_k P1055 a0 a0 q1055 (by decide : 17 ≠ 35)).trans hp1094
  have hp1122 := (up_k P1055 a0 a0 q1055 (by decide : 16 ≠ 35)).trans hp1095
  have hp1123 := (up_k P1055 a0 a0 q1055 (by decide : 15 ≠ 35)).trans hp1096
  have hp1124 := (up_k P1055 a0 a0 q1055 (by decide : 14 ≠ 35)).trans hp1097
  have hp1125 := (up_k P1055 a0 a0 q1055 (by decide : 12 ≠ 35)).trans hp1098
  have hp1126 := (up_k P1055 a0 a0 q1055 (by decide : 11 ≠ 35)).trans hp1099
  have hp1127 := (up_k P1055 a0 a0 q1055 (by decide : 10 ≠ 35)).trans hp1100
  have hp1128 := (up_k P1055 a0 a0 q1055 (by decide : 9 ≠ 35)).trans hp1101
  have hp1129 := (up_k P1055 a0 a0 q1055 (by decide : 8 ≠ 35)).trans hp1102
  have hp1130 := (up_k P1055 a0 a0 q1055 (by decide : 7 ≠ 35)).trans hp1103
  have hp1131 := (up_k P1055 a0 a0 q1055 (by decide : 5 ≠ 35)).trans hp1104
  have hp1132 := (up_k P1055 a0 a0 q1055 (by decide : 4 ≠ 35)).trans hp1105
  have hp1133 := (up_k P1055 a0 a0 q1055 (by decide : 3 ≠ 35)).trans hp1106
  have hp1134 := (up_k P1055 a0 a0 q1055 (by decide : 2 ≠ 35)).trans hp1107
  have hp1135 := (up_k P1055 a0 a0 q1055 (by decide : 1 ≠ 35)).trans hp1108
  obtain ⟨P1109, eP1109, hf⟩ := bndP_f hf
  rw [eP1109] at hF1109 hWT1109 hE1109 hp1109 hp1110 hp1111 hp1112 hp1113 hp1114 hp1115 hp1116 hp1117 hp1118 hp1119 hp1120 hp1121 hp1122 hp1123 hp1124 hp1125 hp1126 hp1127 hp1128 hp1129 hp1130 hp1131 hp1132 hp1133 hp1134 hp1135
  refine lv_aload_n C0.1 C0.2.1 dX8_init_228 rfl (lv_at hl 0 rfl) ?_
  refine fl_bipush C0 dX8_init_229 (by decide) ?_
  refine fl_newi C0 hF1109 (rgk 8 rfl) (by decide) (by decide) aw_117 (Nat.le_of_ble_eq_true rfl) (Nat.le_of_ble_eq_true rfl) dX8_init_231 (fun q1136 H hq1136 hF1136 => ?_)
  have hF1136 : FS D cy B (L1055 ++ [q1136]) (va_up K1055 q1136 132) (clrN P1109 q1136) J s.heap (clr I1055 q1136) H _ := hF1136
  have h1q1136 : 1 < q1136 := hF1136.ne0 (by rw [va_up_self]; decide)
  have n1137 := nn hF1109 hq1136 k1056 rfl
  have k1137 := kn (t := 132) hF1109 hq1136 k1056 rfl
  have n1138 := nn hF1109 hq1136 kq1055 rfl
  have k1138 := kn (t := 132) hF1109 hq1136 kq1055 rfl
  have n1139 := nn hF1109 hq1136 k1057 rfl
  have k1139 := kn (t := 132) hF1109 hq1136 k1057 rfl
  have n1140 := nn hF1109 hq1136 k1058 rfl
  have k1140 := kn (t := 132) hF1109 hq1136 k1058 rfl
  have n1141 := nn hF1109 hq1136 k1059 rfl
  have k1141 := kn (t := 132) hF1109 hq1136 k1059 rfl
  have n1142 := nn hF1109 hq1136 k1060 rfl
  have k1142 := kn (t := 132) hF1109 hq1136 k1060 rfl
  have n1143 := nn hF1109 hq1136 k1061 rfl
  have k1143 := kn (t := 132) hF1109 hq1136 k1061 rfl
  have n1144 := nn hF1109 hq1136 k1062 rfl
  have k1144 := kn (t := 132) hF1109 hq1136 k1062 rfl
  have n1145 := nn hF1109 hq1136 k1063 rfl
  have k1145 := kn (t := 132) hF1109 hq1136 k1063 rfl
  have n1146 := nn hF1109 hq1136 k1064 rfl
  have k1146 := kn (t := 132) hF1109 hq1136 k1064 rfl
  have n1147 := nn hF1109 hq1136 k1065 rfl
  have k1147 := kn (t := 132) hF1109 hq1136 k1065 rfl
  have n1148 := nn hF1109 hq1136 k1066 rfl
  have k1148 := kn (t := 132) hF1109 hq1136 k1066 rfl
  have n1149 := nn hF1109 hq1136 k1067 rfl
  have k1149 := kn (t := 132) hF1109 hq1136 k1067 rfl
  have n1150 := nn hF1109 hq1136 k1068 rfl
  have k1150 := kn (t := 132) hF1109 hq1136 k1068 rfl
  have n1151 := nn hF1109 hq1136 k1069 rfl
  have k1151 := kn (t := 132) hF1109 hq1136 k1069 rfl
  have n1152 := nn hF1109 hq1136 k1070 rfl
  have k1152 := kn (t := 132) hF1109 hq1136 k1070 rfl
  have n1153 := nn hF1109 hq1136 k1071 rfl
  have k1153 := kn (t := 132) hF1109 hq1136 k1071 rfl
  have n1154 := nn hF1109 hq1136 k1072 rfl
  have k1154 := kn (t := 132) hF1109 hq1136 k1072 rfl
  have n1155 := nn hF1109 hq1136 k1073 rfl
  have k1155 := kn (t := 132) hF1109 hq1136 k1073 rfl
  have n1156 := nn hF1109 hq1136 k1074 rfl
  have k1156 := kn (t := 132) hF1109 hq1136 k1074 rfl
  have n1157 := nn hF1109 hq1136 k1075 rfl
  have k1157 := kn (t := 132) hF1109 hq1136 k1075 rfl
  have n1158 := nn hF1109 hq1136 k1076 rfl
  have k1158 := kn (t := 132) hF1109 hq1136 k1076 rfl
  have n1159 := nn hF1109 hq1136 k1077 rfl
  have k1159 := kn (t := 132) hF1109 hq1136 k1077 rfl
  have n1160 := nn hF1109 hq1136 k1078 rfl
  have k1160 := kn (t := 132) hF1109 hq1136 k1078 rfl
  have n1161 := nn hF1109 hq1136 k1079 rfl
  have k1161 := kn (t := 132) hF1109 hq1136 k1079 rfl
  have n1162 := nn hF1109 hq1136 k1080 rfl
  have k1162 := kn (t := 132) hF1109 hq1136 k1080 rfl
  have n1163 := nn hF1109 hq1136 k1081 rfl
  have k1163 := kn (t := 132) hF1109 hq1136 k1081 rfl
  have n1164 := nn hF1109 hq1136 k1082 rfl
  have k1164 := kn (t := 132) hF1109 hq1136 k1082 rfl
  have z1136 := k00 hE1109 hF1109 hq1136 n1137
  have hp1165 := pn hF1109 hq1136 k1056 rfl hp1109
  have hp1166 := pn hF1109 hq1136 k1056 rfl hp1110
  have hp1167 := pn hF1109 hq1136 k1056 rfl hp1111
  have hp1168 := pn hF1109 hq1136 k1056 rfl hp1112
  have hp1169 := pn hF1109 hq1136 k1056 rfl hp1113
  have hp1170 := pn hF1109 hq1136 k1056 rfl hp1114
  have hp1171 := pn hF1109 hq1136 k1056 rfl hp1115
  have hp1172 := pn hF1109 hq1136 k1056 rfl hp1116
  have hp1173 := pn hF1109 hq1136 k1056 rfl hp1117
  have hp1174 := pn hF1109 hq1136 k1056 rfl hp1118
  have hp1175 := pn hF1109 hq1136 k1056 rfl hp1119
  have hp1176 := pn hF1109 hq1136 k1056 rfl hp1120
  have hp1177 := pn hF1109 hq1136 k1056 rfl hp1121
  have hp1178 := pn hF1109 hq1136 k1056 rfl hp1122
  have hp1179 := pn hF1109 hq1136 k1056 rfl hp1123
  have hp1180 := pn hF1109 hq1136 k1056 rfl hp1124
  have hp1181 := pn hF1109 hq1136 k1056 rfl hp1125
  have hp1182 := pn hF1109 hq1136 k1056 rfl hp1126
  have hp1183 := pn hF1109 hq1136 k1056 rfl hp1127
  have hp1184 := pn hF1109 hq1136 k1056 rfl hp1128
  have hp1185 := pn hF1109 hq1136 k1056 rfl hp1129
  have hp1186 := pn hF1109 hq1136 k1056 rfl hp1130
  have hp1187 := pn hF1109 hq1136 k1056 rfl hp1131
  have hp1188 := pn hF1109 hq1136 k1056 rfl hp1132
  have hp1189 := pn hF1109 hq1136 k1056 rfl hp1133
  have hp1190 := pn hF1109 hq1136 k1056 rfl hp1134
  have hp1191 := pn hF1109 hq1136 k1056 rfl hp1135
  have hWT1136 := wn (t := 132) hF1109 hq1136 hWT1109 (fun k => tt_arr 132 (by decide) k)
  have hE1136 := en (t := 132) hE1109 hF1109 hq1136
  have kq1136 : va_up K1055 q1136 132 q1136 = 132 := va_up_self _ _ _
  obtain ⟨L1136, K1136, P1136, I1136, eL1136, eK1136, eP1136, eI1136, hf⟩ := nwP_f hf hq1136 (by omega)
  rw [eL1136, eK1136, eP1136, eI1136] at hF1136
  rw [eK1136] at k1137 k1138 k1139 k1140 k1141 k1142 k1143 k1144 k1145 k1146 k1147 k1148 k1149 k1150 k1151 k1152 k1153 k1154 k1155 k1156 k1157 k1158 k1159 k1160 k1161 k1162 k1163 k1164 kq1136
  rw [eK1136, eP1136] at hWT1136 hE1136
  rw [eP1136] at hp1165 hp1166 hp1167 hp1168 hp1169 hp1170 hp1171 hp1172 hp1173 hp1174 hp1175 hp1176 hp1177 hp1178 hp1179 hp1180 hp1181 hp1182 hp1183 hp1184 hp1185 hp1186 hp1187 hp1188 hp1189 hp1190 hp1191
  refine fl_putFr (k := 36) ck_9 C0 hF1136 hin k1137 rfl (hF1136.ne0 (by rw [kq1136]; decide)) ⟨rfl, rfl, rfl, rfl⟩ ⟨rfl, rfl⟩ aw_910 dX8_init_233 (fun H locs hF1192 => ?_)
  have hWT1192 := wu (k := 36) (v := q1136) hWT1136 k1137 (fun k => tt_arr 29 (by decide) k)
  have hE1192 := eu (k := 36) (v := q1136) hE1136
  have hp1192 := up_s P1136 a0 36 q1136
  have hp1193 := (up_k P1136 a0 a0 q1136 (by decide : 35 ≠ 36)).trans hp1165
  have hp1194 := (up_k P1136 a0 a0 q1136 (by decide : 34 ≠ 36)).trans hp1166
  have hp1195 := (up_k P1136 a0 a0 q1136 (by decide : 33 ≠ 36)).trans hp1167
  have hp1196 := (up_k P1136 a0 a0 q1136 (by decide : 32 ≠ 36)).trans hp1168
  have hp1197 := (up_k P1136 a0 a0 q1136 (by decide : 29 ≠ 36)).trans hp1169
  have hp1198 := (up_k P1136 a0 a0 q1136 (by decide : 28 ≠ 36)).trans hp1170
  have hp1199 := (up_k P1136 a0 a0 q1136 (by decide : 24 ≠ 36)).trans hp1171
  have hp1200 := (up_k P1136 a0 a0 q1136 (by decide : 22 ≠ 36)).trans hp1172
  have hp1201 := (up_k P1136 a0 a0 q1136 (by decide : 21 ≠ 36)).trans hp1173
  have hp1202 := (up_k P1136 a0 a0 q1136 (by decide : 20 ≠ 36)).trans hp1174
  have hp1203 := (up_k P1136 a0 a0 q1136 (by decide : 19 ≠ 36)).trans hp1175
  have hp1204 := (up_k P1136 a0 a0 q1136 (by decide : 18 ≠ 36)).trans hp1176
  have hp1205 := (up_k P1136 a0 a0 q1136 (by decide : 17 ≠ 36)).trans hp1177
  have hp1206 := (up_k P1136 a0 a0 q1136 (by decide : 16 ≠ 36)).trans hp1178
  have hp1207 := (up_k P1136 a0 a0 q1136 (by decide : 15 ≠ 36)).trans hp1179
  have hp1208 := (up_k P1136 a0 a0 q1136 (by decide : 14 ≠ 36)).trans hp1180
  have hp1209 := (up_k P1136 a0 a0 q1136 (by decide : 12 ≠ 36)).trans hp1181
  have hp1210 := (up_k P1136 a0 a0 q1136 (by decide : 11 ≠ 36)).trans hp1182
  have hp1211 := (up_k P1136 a0 a0 q1136 (by decide : 10 ≠ 36)).trans hp1183
  have hp1212 := (up_k P1136 a0 a0 q1136 (by decide : 9 ≠ 36)).trans hp1184
  have hp1213 := (up_k P1136 a0 a0 q1136 (by decide : 8 ≠ 36)).trans hp1185
  have hp1214 := (up_k P1136 a0 a0 q1136 (by decide : 7 ≠ 36)).trans hp1186
  have hp1215 := (up_k P1136 a0 a0 q1136 (by decide : 5 ≠ 36)).trans hp1187
  have hp1216 := (up_k P1136 a0 a0 q1136 (by decide : 4 ≠ 36)).trans hp1188
  have hp1217 := (up_k P1136 a0 a0 q1136 (by decide : 3 ≠ 36)).trans hp1189
  have hp1218 := (up_k P1136 a0 a0 q1136 (by decide : 2 ≠ 36)).trans hp1190
  have hp1219 := (up_k P1136 a0 a0 q1136 (by decide : 1 ≠ 36)).trans hp1191
  obtain ⟨P1192, eP1192, hf⟩ := bndP_f hf
  rw [eP1192] at hF1192 hWT1192 hE1192 hp1192 hp1193 hp1194 hp1195 hp1196 hp1197 hp1198 hp1199 hp1200 hp1201 hp1202 hp1203 hp1204 hp1205 hp1206 hp1207 hp1208 hp1209 hp1210 hp1211 hp1212 hp1213 hp1214 hp1215 hp1216 hp1217 hp1218 hp1219
  refine lv_aload_n C0.1 C0.2.1 dX8_init_236 rfl (lv_at hl 0 rfl) ?_
  refine fl_bipush C0 dX8_init_237 (by decide) ?_
  refine fl_newi C0 hF1192 (rgk 17 rfl) (by decide) (by decide) aw_117 (Nat.le_of_ble_eq_true rfl) (Nat.le_of_ble_eq_true rfl) dX8_init_239 (fun q1220 H hq1220 hF1220 => ?_)
  have hF1220 : FS D cy B (L1136 ++ [q1220]) (va_up K1136 q1220 168) (clrN P1192 q1220) J s.heap (clr I1136 q1220) H _ := hF1220
  have h1q1220 : 1 < q1220 := hF1220.ne0 (by rw [va_up_self]; decide)
  have n1221 := nn hF1192 hq1220 k1137 rfl
  have k1221 := kn (t := 168) hF1192 hq1220 k1137 rfl
  have n1222 := nn hF1192 hq1220 kq1136 rfl
  have k1222 := kn (t := 168) hF1192 hq1220 kq1136 rfl
  have n1223 := nn hF1192 hq1220 k1138 rfl
  have k1223 := kn (t := 168) hF1192 hq1220 k1138 rfl
  have n1224 := nn hF1192 hq1220 k1139 rfl
  have k1224 := kn (t := 168) hF1192 hq1220 k1139 rfl
  have n1225 := nn hF1192 hq1220 k1140 rfl
  have k1225 := kn (t := 168) hF1192 hq1220 k1140 rfl
  have n1226 := nn hF1192 hq1220 k1141 rfl
  have k1226 := kn (t := 168) hF1192 hq1220 k1141 rfl
  have n1227 := nn hF1192 hq1220 k1142 rfl
  have k1227 := kn (t := 168) hF1192 hq1220 k1142 rfl
  have n1228 := nn hF1192 hq1220 k1143 rfl
  have k1228 := kn (t := 168) hF1192 hq1220 k1143 rfl
  have n1229 := nn hF1192 hq1220 k1144 rfl
  have k1229 := kn (t := 168) hF1192 hq1220 k1144 rfl
  have n1230 := nn hF1192 hq1220 k1145 rfl
  have k1230 := kn (t := 168) hF1192 hq1220 k1145 rfl
  have n1231 := nn hF1192 hq1220 k1146 rfl
  have k1231 := kn (t := 168) hF1192 hq1220 k1146 rfl
  have n1232 := nn hF1192 hq1220 k1147 rfl
  have k1232 := kn (t := 168) hF1192 hq1220 k1147 rfl
  have n1233 := nn hF1192 hq1220 k1148 rfl
  have k1233 := kn (t := 168) hF1192 hq1220 k1148 rfl
  have n1234 := nn hF1192 hq1220 k1149 rfl
  have k1234 := kn (t := 168) hF1192 hq1220 k1149 rfl
  have n1235 := nn hF1192 hq1220 k1150 rfl
  have k1235 := kn (t := 168) hF1192 hq1220 k1150 rfl
  have n1236 := nn hF1192 hq1220 k1151 rfl
  have k1236 := kn (t := 168) hF1192 hq1220 k1151 rfl
  have n1237 := nn hF1192 hq1220 k1152 rfl
  have k1237 := kn (t := 168) hF1192 hq1220 k1152 rfl
  have n1238 := nn hF1192 hq1220 k1153 rfl
  have k1238 := kn (t := 168) hF1192 hq1220 k1153 rfl
  have n1239 := nn hF1192 hq1220 k1154 rfl
  have k1239 := kn (t := 168) hF1192 hq1220 k1154 rfl
  have n1240 := nn hF1192 hq1220 k1155 rfl
  have k1240 := kn (t := 168) hF1192 hq1220 k1155 rfl
  have n1241 := nn hF1192 hq1220 k1156 rfl
  have k1241 := kn (t := 168) hF1192 hq1220 k1156 rfl
  have n1242 := nn hF1192 hq1220 k1157 rfl
  have k1242 := kn (t := 168) hF1192 hq1220 k1157 rfl
  have n1243 := nn hF1192 hq1220 k1158 rfl
  have k1243 := kn (t := 168) hF1192 hq1220 k1158 rfl
  have n1244 := nn hF1192 hq1220 k1159 rfl
  have k1244 := kn (t := 168) hF1192 hq1220 k1159 rfl
  have n1245 := nn hF1192 hq1220 k1160 rfl
  have k1245 := kn (t := 168) hF1192 hq1220 k1160 rfl
  have n1246 := nn hF1192 hq1220 k1161 rfl
  have k1246 := kn (t := 168) hF1192 hq1220 k1161 rfl
  have n1247 := nn hF1192 hq1220 k1162 rfl
  have k1247 := kn (t := 168) hF1192 hq1220 k1162 rfl
  have n1248 := nn hF1192 hq1220 k1163 rfl
  have k1248 := kn (t := 168) hF1192 hq1220 k1163 rfl
  have n1249 := nn hF1192 hq1220 k1164 rfl
  have k1249 := kn (t := 168) hF1192 hq1220 k1164 rfl
  have z1220 := k00 hE1192 hF1192 hq1220 n1221
  have hp1250 := pn hF1192 hq1220 k1137 rfl hp1192
  have hp1251 := pn hF1192 hq1220 k1137 rfl hp1193
  have hp1252 := pn hF1192 hq1220 k1137 rfl hp1194
  have hp1253 := pn hF1192 hq1220 k1137 rfl hp1195
  have hp1254 := pn hF1192 hq1220 k1137 rfl hp1196
  have hp1255 := pn hF1192 hq1220 k1137 rfl hp1197
  have hp1256 := pn hF1192 hq1220 k1137 rfl hp1198
  have hp1257 := pn hF1192 hq1220 k1137 rfl hp1199
  have hp1258 := pn hF1192 hq1220 k1137 rfl hp1200
  have hp1259 := pn hF1192 hq1220 k1137 rfl hp1201
  have hp1260 := pn hF1192 hq1220 k1137 rfl hp1202
  have hp1261 := pn hF1192 hq1220 k1137 rfl hp1203
  have hp1262 := pn hF1192 hq1220 k1137 rfl hp1204
  have hp1263 := pn hF1192 hq1220 k1137 rfl hp1205
  have hp1264 := pn hF1192 hq1220 k1137 rfl hp1206
  have hp1265 := pn hF1192 hq1220 k1137 rfl hp1207
  have hp1266 := pn hF1192 hq1220 k1137 rfl hp1208
  have hp1267 := pn hF1192 hq1220 k1137 rfl hp1209
  have hp1268 := pn hF1192 hq1220 k1137 rfl hp1210
  have hp1269 := pn hF1192 hq1220 k1137 rfl hp1211
  have hp1270 := pn hF1192 hq1220 k1137 rfl hp1212
  have hp1271 := pn hF1192 hq1220 k1137 rfl hp1213
  have hp1272 := pn hF1192 hq1220 k1137 rfl hp1214
  have hp1273 := pn hF1192 hq1220 k1137 rfl hp1215
  have hp1274 := pn hF1192 hq1220 k1137 rfl hp1216
  have hp1275 := pn hF1192 hq1220 k1137 rfl hp1217
  have hp1276 := pn hF1192 hq1220 k1137 rfl hp1218
  have hp1277 := pn hF1192 hq1220 k1137 rfl hp1219
  have hWT1220 := wn (t := 168) hF1192 hq1220 hWT1192 (fun k => tt_arr 168 (by decide) k)
  have hE1220 := en (t := 168) hE1192 hF1192 hq1220
  have kq1220 : va_up K1136 q1220 168 q1220 = 168 := va_up_self _ _ _
  obtain ⟨L1220, K1220, P1220, I1220, eL1220, eK1220, eP1220, eI1220, hf⟩ := nwP_f hf hq1220 (by omega)
  rw [eL1220, eK1220, eP1220, eI1220] at hF1220
  rw [eK1220] at k1221 k1222 k1223 k1224 k1225 k1226 k1227 k1228 k1229 k1230 k1231 k1232 k1233 k1234 k1235 k1236 k1237 k1238 k1239 k1240 k1241 k1242 k1243 k1244 k1245 k1246 k1247 k1248 k1249 kq1220
  rw [eK1220, eP1220] at hWT1220 hE1220
  rw [eP1220] at hp1250 hp1251 hp1252 hp1253 hp1254 hp1255 hp1256 hp1257 hp1258 hp1259 hp1260 hp1261 hp1262 hp1263 hp1264 hp1265 hp1266 hp1267 hp1268 hp1269 hp1270 hp1271 hp1272 hp1273 hp1274 hp1275 hp1276 hp1277
  refine fl_putFr (k := 37) ck_9 C0 hF1220 hin k1221 rfl (hF1220.ne0 (by rw [kq1220]; decide)) ⟨rfl, rfl, rfl, rfl⟩ ⟨rfl, rfl⟩ aw_911 dX8_init_241 (fun H locs hF1278 => ?_)
  have hWT1278 := wu (k := 37) (v := q1220) hWT1220 k1221 (fun k => tt_arr 29 (by decide) k)
  have hE1278 := eu (k := 37) (v := q1220) hE1220
  have hp1278 := up_s P1220 a0 37 q1220
  have hp1279 := (up_k P1220 a0 a0 q1220 (by decide : 36 ≠ 37)).trans hp1250
  have hp1280 := (up_k P1220 a0 a0 q1220 (by decide : 35 ≠ 37)).trans hp1251
  have hp1281 := (up_k P1220 a0 a0 q1220 (by decide : 34 ≠ 37)).trans hp1252
  have hp1282 := (up_k P1220 a0 a0 q1220 (by decide : 33 ≠ 37)).trans hp1253
  have hp1283 := (up_k P1220 a0 a0 q1220 (by decide : 32 ≠ 37)).trans hp1254
  have hp1284 := (up_k P1220 a0 a0 q1220 (by decide : 29 ≠ 37)).trans hp1255
  have hp1285 := (up_k P1220 a0 a0 q1220 (by decide : 28 ≠ 37)).trans hp1256
  have hp1286 := (up_k P1220 a0 a0 q1220 (by decide : 24 ≠ 37)).trans hp1257
  have hp1287 := (up_k P1220 a0 a0 q1220 (by decide : 22 ≠ 37)).trans hp1258
  have hp1288 := (up_k P1220 a0 a0 q1220 (by decide : 21 ≠ 37)).trans hp1259
  have hp1289 := (up_k P1220 a0 a0 q1220 (by decide : 20 ≠ 37)).trans hp1260
  have hp1290 := (up_k P1220 a0 a0 q1220 (by decide : 19 ≠ 37)).trans hp1261
  have hp1291 := (up_k P1220 a0 a0 q1220 (by decide : 18 ≠ 37)).trans hp1262
  have hp1292 := (up_k P1220 a0 a0 q1220 (by decide : 17 ≠ 37)).trans hp1263
  have hp1293 := (up_k P1220 a0 a0 q1220 (by decide : 16 ≠ 37)).trans hp1264
  have hp1294 := (up_k P1220 a0 a0 q1220 (by decide : 15 ≠ 37)).trans hp1265
  have hp1295 := (up_k P1220 a0 a0 q1220 (by decide : 14 ≠ 37)).trans hp1266
  have hp1296 := (up_k P1220 a0 a0 q1220 (by decide : 12 ≠ 37)).trans hp1267
  have hp1297 := (up_k P1220 a0 a0 q1220 (by decide : 11 ≠ 37)).trans hp1268
  have hp1298 := (up_k P1220 a0 a0 q1220 (by decide : 10 ≠ 37)).trans hp1269
  have hp1299 := (up_k P1220 a0 a0 q1220 (by decide : 9 ≠ 37)).trans hp1270
  have hp1300 := (up_k P1220 a0 a0 q1220 (by decide : 8 ≠ 37)).trans hp1271
  have hp1301 := (up_k P1220 a0 a0 q1220 (by decide : 7 ≠ 37)).trans hp1272
  have hp1302 := (up_k P1220 a0 a0 q1220 (by decide : 5 ≠ 37)).trans hp1273
  have hp1303 := (up_k P1220 a0 a0 q1220 (by decide : 4 ≠ 37)).trans hp1274
  have hp1304 := (up_k P1220 a0 a0 q1220 (by decide : 3 ≠ 37)).trans hp1275
  have hp1305 := (up_k P1220 a0 a0 q1220 (by decide : 2 ≠ 37)).trans hp1276
  have hp1306 := (up_k P1220 a0 a0 q1220 (by decide : 1 ≠ 37)).trans hp1277
  obtain ⟨P1278, eP1278, hf⟩ := bndP_f hf
  rw [eP1278] at hF1278 hWT1278 hE1278 hp1278 hp1279 hp1280 hp1281 hp1282 hp1283 hp1284 hp1285 hp1286 hp1287 hp1288 hp1289 hp1290 hp1291 hp1292 hp1293 hp1294 hp1295 hp1296 hp1297 hp1298 hp1299 hp1300 hp1301 hp1302 hp1303 hp1304 hp1305 hp1306
  refine fl_iconst C0 dX8_init_244 ?_
  refine lv_istore_n (lv' := [(1, iv 0), (0, .ref a0)]) C0.1 C0.2.1 dX8_init_245 rfl hl (by decide) rfl (fun ls hl => ?_)
  obtain ⟨I1307, hq1307, hf⟩ := hf
  refine b_fill25 C0 k1221 (by rw [hp1296]; exact k1239) FU I1220 0 _ _ _ hF1278 (rgk 0 rfl) (lv_sub hl [1, 0] rfl) hq1307 (fun H locs ls hF hl => ?_)
  have ht : ∀ k, tt 9 k ≠ 0 → K1220 (P1278 a0 k) = tt 9 k ∧ P1278 a0 k ≠ a0 := by
    intro k hk
    by_cases h1 : k = 1
    · subst h1; rw [hp1306]; exact ⟨k1249, fun e => by have h9 := k1249; rw [e, k1221] at h9; exact absurd h9 (by decide)⟩
    by_cases h2 : k = 2
    · subst h2; rw [hp1305]; exact ⟨k1248, fun e => by have h9 := k1248; rw [e, k1221] at h9; exact absurd h9 (by decide)⟩
    by_cases h3 : k = 3
    · subst h3; rw [hp1304]; exact ⟨k1247, fun e => by have h9 := k1247; rw [e, k1221] at h9; exact absurd h9 (by decide)⟩
    by_cases h4 : k = 4
    · subst h4; rw [hp1303]; exact ⟨k1246, fun e => by have h9 := k1246; rw [e, k1221] at h9; exact absurd h9 (by decide)⟩
    by_cases h5 : k = 5
    · subst h5; rw [hp1302]; exact ⟨k1245, fun e => by have h9 := k1245; rw [e, k1221] at h9; exact absurd h9 (by decide)⟩
    by_cases h7 : k = 7
    · subst h7; rw [hp1301]; exact ⟨k1244, fun e => by have h9 := k1244; rw [e, k1221] at h9; exact absurd h9 (by decide)⟩
    by_cases h8 : k = 8
    · subst h8; rw [hp1300]; exact ⟨k1243, fun e => by have h9 := k1243; rw [e, k1221] at h9; exact absurd h9 (by decide)⟩
    by_cases h9 : k = 9
    · subst h9; rw [hp1299]; exact ⟨k1242, fun e => by have h9 := k1242; rw [e, k1221] at h9; exact absurd h9 (by decide)⟩
    by_cases h10 : k = 10
    · subst h10; rw [hp1298]; exact ⟨k1241, fun e => by have h9 := k1241; rw [e, k1221] at h9; exact absurd h9 (by decide)⟩
    by_cases h11 : k = 11
    · subst h11; rw [hp1297]; exact ⟨k1240, fun e => by have h9 := k1240; rw [e, k1221] at h9; exact absurd h9 (by decide)⟩
    by_cases h12 : k = 12
    · subst h12; rw [hp1296]; exact ⟨k1239, fun e => by have h9 := k1239; rw [e, k1221] at h9; exact absurd h9 (by decide)⟩
    by_cases h14 : k = 14
    · subst h14; rw [hp1295]; exact ⟨k1238, fun e => by have h9 := k1238; rw [e, k1221] at h9; exact absurd h9 (by decide)⟩
    by_cases h15 : k = 15
    · subst h15; rw [hp1294]; exact ⟨k1237, fun e => by have h9 := k1237; rw [e, k1221] at h9; exact absurd h9 (by decide)⟩
    by_cases h16 : k = 16
    · subst h16; rw [hp1293]; exact ⟨k1236, fun e => by have h9 := k1236; rw [e, k1221] at h9; exact absurd h9 (by decide)⟩
    by_cases h17 : k = 17
    · subst h17; rw [hp1292]; exact ⟨k1235, fun e => by have h9 := k1235; rw [e, k1221] at h9; exact absurd h9 (by decide)⟩
    by_cases h18 : k = 18
    · subst h18; rw [hp1291]; exact ⟨k1234, fun e => by have h9 := k1234; rw [e, k1221] at h9; exact absurd h9 (by decide)⟩
    by_cases h19 : k = 19
    · subst h19; rw [hp1290]; exact ⟨k1233, fun e => by have h9 := k1233; rw [e, k1221] at h9; exact absurd h9 (by decide)⟩
    by_cases h20 : k = 20
    · subst h20; rw [hp1289]; exact ⟨k1232, fun e => by have h9 := k1232; rw [e, k1221] at h9; exact absurd h9 (by decide)⟩
    by_cases h21 : k = 21
    · subst h21; rw [hp1288]; exact ⟨k1231, fun e => by have h9 := k1231; rw [e, k1221] at h9; exact absurd h9 (by decide)⟩
    by_cases h22 : k = 22
    · subst h22; rw [hp1287]; exact ⟨k1230, fun e => by have h9 := k1230; rw [e, k1221] at h9; exact absurd h9 (by decide)⟩
    by_cases h24 : k = 24
    · subst h24; rw [hp1286]; exact ⟨k1229, fun e => by have h9 := k1229; rw [e, k1221] at h9; exact absurd h9 (by decide)⟩
    by_cases h28 : k = 28
    · subst h28; rw [hp1285]; exact ⟨k1228, fun e => by have h9 := k1228; rw [e, k1221] at h9; exact absurd h9 (by decide)⟩
    by_cases h29 : k = 29
    · subst h29; rw [hp1284]; exact ⟨k1227, fun e => by have h9 := k1227; rw [e, k1221] at h9; exact absurd h9 (by decide)⟩
    by_cases h32 : k = 32
    · subst h32; rw [hp1283]; exact ⟨k1226, fun e => by have h9 := k1226; rw [e, k1221] at h9; exact absurd h9 (by decide)⟩
    by_cases h33 : k = 33
    · subst h33; rw [hp1282]; exact ⟨k1225, fun e => by have h9 := k1225; rw [e, k1221] at h9; exact absurd h9 (by decide)⟩
    by_cases h34 : k = 34
    · subst h34; rw [hp1281]; exact ⟨k1224, fun e => by have h9 := k1224; rw [e, k1221] at h9; exact absurd h9 (by decide)⟩
    by_cases h35 : k = 35
    · subst h35; rw [hp1280]; exact ⟨k1223, fun e => by have h9 := k1223; rw [e, k1221] at h9; exact absurd h9 (by decide)⟩
    by_cases h36 : k = 36
    · subst h36; rw [hp1279]; exact ⟨k1222, fun e => by have h9 := k1222; rw [e, k1221] at h9; exact absurd h9 (by decide)⟩
    by_cases h37 : k = 37
    · subst h37; rw [hp1278]; exact ⟨kq1220, fun e => by have h9 := kq1220; rw [e, k1221] at h9; exact absurd h9 (by decide)⟩
    exact absurd (show tt 9 k = 0 by simp [tt, h1, h2, h3, h4, h5, h7, h8, h9, h10, h11, h12, h14, h15, h16, h17, h18, h19, h20, h21, h22, h24, h28, h29, h32, h33, h34, h35, h36, h37]) hk
  exact fl_vretC C0 (hF.done (ci := 9) (co2 := 9) k1221 rfl rfl) hr hf (wd hWT1278 k1221 ht (wraw hWT1278 k1221 rfl)) (ked hE1278 k1221) (va_up_self _ _ _) dX8_init_266 (Nat.le_of_ble_eq_true rfl) (Nat.le_of_ble_eq_true rfl)
