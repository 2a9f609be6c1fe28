-- RejudgeHall.needRange(III)V
abbrev rm_X7_needRange : Room := { frames := 6, cells := 1, slots := 6, locals := 90 }
def f_X7_needRange_10 (K : KT) (P : PT) (I : IT)  : Option (Nat × Unit × IT) := some (1, (), I)
def f_X7_needRange (K : KT) (P : PT) (I : IT) (x0 : Int) (x1 : Int) (x2 : Int) : Option (Nat × Unit × IT) := if x0 < x1 then (f_X7_needRange_10 K P  I) else (if x0 ≤ x2 then (some (0, (), I)) else (f_X7_needRange_10 K P  I))
abbrev G_X7_needRange_10 (p : Program) (l : Launch) (e : Env) (s : State) (m : MethodId) (args : Array Value) (below : List Frame) (meth : Method) (c : Code) (D : va_G) (cy : Nat → ClassId) (B : Nat) (L : List Nat) (K : KT) (P : PT) (J : IT) (res : Nat × Unit × IT) (f : IT → Option (Nat × Unit × IT)) : Prop := ∀ (I : IT)  (H : Heap) (locs : List Loc) (ls : Array Slot), FS D cy B L K P J s.heap I H locs → lv_has ls 3 [] → f I = some res → W p l e rm_X7_needRange s m args below meth c H locs 0 0 (vx_MQ below (XV D cy B L K P J res) (XX D cy B L K P J res) args s 1 6 (fun q => B ≤ q)) (F0 m 10 ls [])
set_option maxRecDepth 100000 in
set_option maxHeartbeats 4000000 in
theorem b_X7_needRange_10 {p : Program} {l : Launch} {e : Env} {s : State} {m : MethodId} {args : Array Value} {below : List Frame} {meth : Method} {c : Code} {D : va_G} {cy : Nat → ClassId} {B : Nat} {L : List Nat} {K : KT} {P : PT} {J : IT} {res : Nat × Unit × IT} (C0 : FC D cy B p s m meth c "RejudgeHall" cX7_needRange 3) (hr : meth.sig.returnType = none) (hWT : WT K P) (hst : l.stackTraces = false) (hx0 : ∀ x ∈ c.exceptionTable.toList, False) : G_X7_needRange_10 p l e s m args below meth c D cy B L K P J res (f_X7_needRange_10 K P ) := by
  intro I H locs ls hF hl hf
  unfold f_X7_needRange_10 at hf
  cases hf
  exact fl_throwW C0 hF hst hx0 hl.1 ex_1 (by decide) (List.mem_of_getElem? (i := 0) rfl) rfl dX7_needRange_10 dX7_needRange_13 dX7_needRange_14 dX7_needRange_17 dX7_needRange_20 (Nat.le_of_ble_eq_true rfl) (Nat.le_of_ble_eq_true rfl) (Nat.le_of_ble_eq_true rfl) (Nat.le_of_ble_eq_true rfl) (Nat.le_of_ble_eq_true rfl) (Nat.le_of_ble_eq_true rfl)
theorem pm_X7_needRange : plainM yX7_needRange 3 := by decide +kernel
set_option maxRecDepth 100000 in
set_option maxHeartbeats 4000000 in
theorem c_X7_needRange (l : Launch) (hst : l.stackTraces = false) (D : va_G) (cy : Nat → ClassId) (B : Nat) (L : List Nat) (K : KT) (P : PT) (J : IT) (hWT : WT K P) (I : IT) (x0 : Int) (x1 : Int) (x2 : Int) (rx0 : rg x0) (rx1 : rg x1) (rx2 : rg x2) {co : Nat} {r : Unit} {I' : IT} (hf : f_X7_needRange K P I x0 x1 x2 = some (co, r, I')) : vx_Met l yX7_needRange [.code yX7_needRange cX7_needRange 3 none] rm_X7_needRange (va_Pc [iv x0, iv x1, iv x2] (FW D cy B L K P J I)) (XV D cy B L K P J (co, r, I')) (XX D cy B L K P J (co, r, I')) 1 6 (fun q => B ≤ q) := by
  refine fl_bodyX (own := "RejudgeHall") [iv x0, iv x1, iv x2] (by decide) rfl (Nat.le_of_ble_eq_true rfl) ?_
  intro p e s m args below meth c ls C0 hr hx0 hF hl
  have hl : lv_has ls 3 [(0, iv x0), (1, iv x1), (2, iv x2)] := hl
  unfold f_X7_needRange at hf
  refine lv_iload_n C0.1 C0.2.1 dX7_needRange_0 rfl (lv_at hl 0 rfl) ?_
  refine lv_iload_n C0.1 C0.2.1 dX7_needRange_1 rfl (lv_at hl 1 rfl) ?_
  refine fl_icmp_lt (tgt := 10) C0 rx0 rx1 dX7_needRange_2 (by decide) (fun c1 => ?_) (fun c1 => ?_)
  · replace hf := (if_pos c1).symm.trans hf
    exact b_X7_needRange_10 C0 hr hWT hst hx0  I  _ _ _  hF (lv_sub hl [] rfl) hf
  · replace hf := (if_neg c1).symm.trans hf
    refine lv_iload_n C0.1 C0.2.1 dX7_needRange_5 rfl (lv_at hl 0 rfl) ?_
    refine lv_iload_n C0.1 C0.2.1 dX7_needRange_6 rfl (lv_at hl 2 rfl) ?_
    refine fl_icmp_le (tgt := 21) C0 rx0 rx2 dX7_needRange_7 (by decide) (fun c2 => ?_) (fun c2 => ?_)
    · replace hf := (if_pos c2).symm.trans hf
      cases hf
      exact fl_vretX C0 hF hr rfl dX7_needRange_21 (Nat.le_of_ble_eq_true rfl) (Nat.le_of_ble_eq_true rfl)
    · replace hf := (if_neg c2).symm.trans hf
      exact b_X7_needRange_10 C0 hr hWT hst hx0  I  _ _ _  hF (lv_sub hl [] rfl) hf
-- RejudgeHall.needIndex(II)V
abbrev rm_X7_needIndex : Room := { frames := 6, cells := 1, slots := 6, locals := 90 }
def f_X7_needIndex_9 (K : KT) (P : PT) (I : IT)  : Option (Nat × Unit × IT) := some (3, (), I)
def f_X7_needIndex (K : KT) (P : PT) (I : IT) (x0 : Int) (x1 : Int) : Option (Nat × Unit × IT) := if x0 < 0 then (f_X7_needIndex_9 K P  I) else (if x0 < x1 then (some (0, (), I)) else (f_X7_needIndex_9 K P  I))
abbrev G_X7_needIndex_9 (p : Program) (l : Launch) (e : Env) (s : State) (m : MethodId) (args : Array Value) (below : List Frame) (meth : Method) (c : Code) (D : va_G) (cy : Nat → ClassId) (B : Nat) (L : List Nat) (K : KT) (P : PT) (J : IT) (res : Nat × Unit × IT) (f : IT → Option (Nat × Unit × IT)) : Prop := ∀ (I : IT)  (H : Heap) (locs : List Loc) (ls : Array Slot), FS D cy B L K P J s.heap I H locs → lv_has ls 2 [] → f I = some res → W p l e rm_X7_needIndex s m args below meth c H locs 0 0 (vx_MQ below (XV D cy B L K P J res) (XX D cy B L K P J res) args s 1 6 (fun q => B ≤ q)) (F0 m 9 ls [])
set_option maxRecDepth 100000 in
set_option maxHeartbeats 4000000 in
theorem b_X7_needIndex_9 {p : Program} {l : Launch} {e : Env} {s : State} {m : MethodId} {args : Array Value} {below : List Frame} {meth : Method} {c : Code} {D : va_G} {cy : Nat → ClassId} {B : Nat} {L : List Nat} {K : KT} {P : PT} {J : IT} {res : Nat × Unit × IT} (C0 : FC D cy B p s m meth c "RejudgeHall" cX7_needIndex 2) (hr : meth.sig.returnType = none) (hWT : WT K P) (hst : l.stackTraces = false) (hx0 : ∀ x ∈ c.exceptionTable.toList, False) : G_X7_needIndex_9 p l e s m args below meth c D cy B L K P J res (f_X7_needIndex_9 K P ) := by
  intro I H locs ls hF hl hf
  unfold f_X7_needIndex_9 at hf
  cases hf
  exact fl_throwW C0 hF hst hx0 hl.1 ex_3 (by decide) (List.mem_of_getElem? (i := 4) rfl) rfl dX7_needIndex_9 dX7_needIndex_12 dX7_needIndex_13 dX7_needIndex_16 dX7_needIndex_19 (Nat.le_of_ble_eq_true rfl) (Nat.le_of_ble_eq_true rfl) (Nat.le_of_ble_eq_true rfl) (Nat.le_of_ble_eq_true rfl) (Nat.le_of_ble_eq_true rfl) (Nat.le_of_ble_eq_true rfl)
theorem pm_X7_needIndex : plainM yX7_needIndex 2 := by decide +kernel
set_option maxRecDepth 100000 in
set_option maxHeartbeats 4000000 in
theorem c_X7_needIndex (l : Launch) (hst : l.stackTraces = false) (D : va_G) (cy : Nat → ClassId) (B : Nat) (L : List Nat) (K : KT) (P : PT) (J : IT) (hWT : WT K P) (I : IT) (x0 : Int) (x1 : Int) (rx0 : rg x0) (rx1 : rg x1) {co : Nat} {r : Unit} {I' : IT} (hf : f_X7_needIndex K P I x0 x1 = some (co, r, I')) : vx_Met l yX7_needIndex [.code yX7_needIndex cX7_needIndex 2 none] rm_X7_needIndex (va_Pc [iv x0, iv x1] (FW D cy B L K P J I)) (XV D cy B L K P J (co, r, I')) (XX D cy B L K P J (co, r, I')) 1 6 (fun q => B ≤ q) := by
  refine fl_bodyX (own := "RejudgeHall") [iv x0, iv x1] (by decide) rfl (Nat.le_of_ble_eq_true rfl) ?_
  intro p e s m args below meth c ls C0 hr hx0 hF hl
  have hl : lv_has ls 2 [(0, iv x0), (1, iv x1)] := hl
  unfold f_X7_needIndex at hf
  refine lv_iload_n C0.1 C0.2.1 dX7_needIndex_0 rfl (lv_at hl 0 rfl) ?_
  refine fl_if_lt (tgt := 9) C0 rx0 dX7_needIndex_1 (by decide) (fun c1 => ?_) (fun c1 => ?_)
  · replace hf := (if_pos c1).symm.trans hf
    exact b_X7_needIndex_9 C0 hr hWT hst hx0  I  _ _ _  hF (lv_sub hl [] rfl) hf
  · replace hf := (if_neg c1).symm.trans hf
    refine lv_iload_n C0.1 C0.2.1 dX7_needIndex_4 rfl (lv_at hl 0 rfl) ?_
    refine lv_iload_n C0.1 C0.2.1 dX7_needIndex_5 rfl (lv_at hl 1 rfl) ?_
    refine fl_icmp_lt (tgt := 20) C0 rx0 rx1 dX7_needIndex_6 (by decide) (fun c2 => ?_) (fun c2 => ?_)
    · replace hf := (if_pos c2).symm.trans hf
      cases hf
      exact fl_vretX C0 hF hr rfl dX7_needIndex_20 (Nat.le_of_ble_eq_true rfl) (Nat.le_of_ble_eq_true rfl)
    · replace hf := (if_neg c2).symm.trans hf
      exact b_X7_needIndex_9 C0 hr hWT hst hx0  I  _ _ _  hF (lv_sub hl [] rfl) hf
-- RejudgeHall.problemAt(I)LRejudgeHall$Problem;
abbrev rm_X7_problemAt : Room := { frames := 7, cells := 1, slots := 6, locals := 111 }
def f_X7_problemAt (K : KT) (P : PT) (I : IT) (a0 : Nat) (x1 : Int) : Option (Nat × Nat × IT) := bx (f_X7_needIndex K P I x1 ((I ((P a0 3)) 2))) fun _ I2 => bp (lgetf K P I2 ((P a0 3)) x1 3) fun r3 => some (0, r3, I2)
theorem pm_X7_problemAt : plainM yX7_problemAt 1 := by decide +kernel
set_option maxRecDepth 100000 in
set_option maxHeartbeats 4000000 in
theorem c_X7_problemAt (l : Launch) (hst : l.stackTraces = false) (D : va_G) (cy : Nat → ClassId) (B : Nat) (L : List Nat) (K : KT) (P : PT) (J : IT) (hWT : WT K P) (I : IT) (a0 : Nat) (x1 : Int) (ka0 : K a0 = 8) (rx1 : rg x1) {co : Nat} {r : Nat} {I' : IT} (hf : f_X7_problemAt K P I a0 x1 = some (co, r, I')) : vx_Met l yX7_problemAt [.code yX7_problemAt cX7_problemAt 2 (some (.object "RejudgeHall$Problem"))] rm_X7_problemAt (va_Pc [.ref a0, iv x1] (FW D cy B L K P J I)) (XR D cy B L K P J (co, r, I')) (XX D cy B L K P J (co, r, I')) 1 6 (fun q => B ≤ q) := by
  refine fl_bodyX (own := "RejudgeHall") [.ref a0, iv x1] (by decide) rfl (Nat.le_of_ble_eq_true rfl) ?_
  intro p e s m args below meth c ls C0 hr hx0 hF hl
  have hl : lv_has ls 2 [(0, .ref a0), (1, iv x1)] := hl
  unfold f_X7_problemAt at hf
  refine lv_iload_n C0.1 C0.2.1 dX7_problemAt_0 rfl (lv_at hl 1 rfl) ?_
  refine lv_aload_n C0.1 C0.2.1 dX7_problemAt_1 rfl (lv_at hl 0 rfl) ?_
  refine fl_getr (k := 3) (t := 10) ck_8 C0 hF ka0 rfl (wt_at (k := 3) (t := 10) hWT ka0 rfl) rfl ⟨rfl, rfl⟩ aw_193 dX7_problemAt_2 ?_
  refine fl_ri hF (fl_runV (As := []) (rest := [iv x1]) C0 hF hl.1 ck_0 (wt_at (k := 3) (t := 10) hWT ka0 rfl) rfl (c_size l D cy B L K P J I ((P a0 3)) 10 (wt_at (k := 3) (t := 10) hWT ka0 rfl) rfl) aw_344 aw_345 aw_346 aw_51 aw_347 rfl rfl pm_size rfl rfl ⟨Nat.le_of_ble_eq_true rfl, Nat.le_of_ble_eq_true rfl⟩ rfl (Nat.le_of_ble_eq_true rfl) dX7_problemAt_5 ⟨Nat.le_of_ble_eq_true rfl, Nat.le_of_ble_eq_true rfl⟩) (fun H locs hF1 _ => ?_)
  obtain ⟨co2, r2, I2, hq2, hf, hg⟩ := bx_f hf
  refine fl_xv hF1 (fl_runSX (As := [iv x1, iv (I ((P a0 3)) 2)]) (rest := []) C0 hF1 hl.1 (c_X7_needIndex l hst D cy B L K P J hWT I x1 ((I ((P a0 3)) 2)) rx1 ((hF1.rI _ _)) hq2) aw_449 aw_450 aw_45 aw_451 rfl pm_X7_needIndex rfl rfl ⟨Nat.le_of_ble_eq_true rfl, Nat.le_of_ble_eq_true rfl⟩ rfl (Nat.le_of_ble_eq_true rfl) dX7_problemAt_8 ⟨Nat.le_of_ble_eq_true rfl, Nat.le_of_ble_eq_true rfl⟩) (fun c2 H locs hF2 => ?_) (fun c2 H locs q ce hF2 e1 e2 e3 => fl_prop C0 hF2 hx0 c2 e1 e2 e3 (hg c2) (Nat.le_of_ble_eq_true rfl) (Nat.le_of_ble_eq_true rfl))
  replace hf := hf c2
  refine lv_aload_n C0.1 C0.2.1 dX7_problemAt_11 rfl (lv_at hl 0 rfl) ?_
  refine fl_getr (k := 3) (t := 10) ck_8 C0 hF2 ka0 rfl (wt_at (k := 3) (t := 10) hWT ka0 rfl) rfl ⟨rfl, rfl⟩ aw_193 dX7_problemAt_12 ?_
  refine lv_iload_n C0.1 C0.2.1 dX7_problemAt_15 rfl (lv_at hl 1 rfl) ?_
  obtain ⟨r3, hq3, hf⟩ := bp_f hf
  have kr3 := lget_k hq3
  refine fl_rr hF2 (fl_runV (As := [iv x1]) (rest := []) C0 hF2 hl.1 ck_0 (wt_at (k := 3) (t := 10) hWT ka0 rfl) rfl (c_get l D cy B L K P J I2 ((P a0 3)) x1 10 3 (wt_at (k := 3) (t := 10) hWT ka0 rfl) rfl rx1 hq3) aw_348 aw_349 aw_350 aw_51 aw_351 rfl rfl pm_get rfl rfl ⟨Nat.le_of_ble_eq_true rfl, Nat.le_of_ble_eq_true rfl⟩ rfl (Nat.le_of_ble_eq_true rfl) dX7_problemAt_16 ⟨Nat.le_of_ble_eq_true rfl, Nat.le_of_ble_eq_true rfl⟩) (fun H locs hF3 => ?_)
  refine fl_cast ck_3 C0 hF3 kr3 rfl aw_468 dX7_problemAt_19 ?_
  cases hf
  exact fl_aretX C0 hF3 hr rfl dX7_problemAt_22 (Nat.le_of_ble_eq_true rfl) (Nat.le_of_ble_eq_true rfl)
-- RejudgeHall.entryAt(I)LRejudgeHall$Entry;
abbrev rm_X7_entryAt : Room := { frames := 7, cells := 1, slots := 6, locals := 111 }
def f_X7_entryAt (K : KT) (P : PT) (I : IT) (a0 : Nat) (x1 : Int) : Option (Nat × Nat × IT) := bx (f_X7_needIndex K P I x1 ((I ((P a0 4)) 2))) fun _ I2 => bp (lgetf K P I2 ((P a0 4)) x1 1) fun r3 => some (0, r3, I2)
theorem pm_X7_entryAt : plainM yX7_entryAt 1 := by decide +kernel
set_option maxRecDepth 100000 in
set_option maxHeartbeats 4000000 in
theorem c_X7_entryAt (l : Launch) (hst : l.stackTraces = false) (D : va_G) (cy : Nat → ClassId) (B : Nat) (L : List Nat) (K : KT) (P : PT) (J : IT) (hWT : WT K P) (I : IT) (a0 : Nat) (x1 : Int) (ka0 : K a0 = 8) (rx1 : rg x1) {co : Nat} {r : Nat} {I' : IT} (hf : f_X7_entryAt K P I a0 x1 = some (co, r, I')) : vx_Met l yX7_entryAt [.code yX7_entryAt cX7_entryAt 2 (some (.object "RejudgeHall$Entry"))] rm_X7_entryAt (va_Pc [.ref a0, iv x1] (FW D cy B L K P J I)) (XR D cy B L K P J (co, r, I')) (XX D cy B L K P J (co, r, I')) 1 6 (fun q => B ≤ q) := by
  refine fl_bodyX (own := "RejudgeHall") [.ref a0, iv x1] (by decide) rfl (Nat.le_of_ble_eq_true rfl) ?_
  intro p e s m args below meth c ls C0 hr hx0 hF hl
  have hl : lv_has ls 2 [(0, .ref a0), (1, iv x1)] := hl
  unfold f_X7_entryAt at hf
  refine lv_iload_n C0.1 C0.2.1 dX7_entryAt_0 rfl (lv_at hl 1 rfl) ?_
  refine lv_aload_n C0.1 C0.2.1 dX7_entryAt_1 rfl (lv_at hl 0 rfl) ?_
  refine fl_getr (k := 4) (t := 11) ck_8 C0 hF ka0 rfl (wt_at (k := 4) (t := 11) hWT ka0 rfl) rfl ⟨rfl, rfl⟩ aw_194 dX7_entryAt_2 ?_
  refine fl_ri hF (fl_runV (As := []) (rest := [iv x1]) C0 hF hl.1 ck_0 (wt_at (k := 4) (t := 11) hWT ka0 rfl) rfl (c_size l D cy B L K P J I ((P a0 4)) 11 (wt_at (k := 4) (t := 11) hWT ka0 rfl) rfl) aw_344 aw_345 aw_346 aw_51 aw_347 rfl rfl pm_size rfl rfl ⟨Nat.le_of_ble_eq_true rfl, Nat.le_of_ble_eq_true rfl⟩ rfl (Nat.le_of_ble_eq_true rfl) dX7_entryAt_5 ⟨Nat.le_of_ble_eq_true rfl, Nat.le_of_ble_eq_true rfl⟩) (fun H locs hF1 _ => ?_)
  obtain ⟨co2, r2, I2, hq2, hf, hg⟩ := bx_f hf
  refine fl_xv hF1 (fl_runSX (As := [iv x1, iv (I ((P a0 4)) 2)]) (rest := []) C0 hF1 hl.1 (c_X7_needIndex l hst D cy B L K P J hWT I x1 ((I ((P a0 4)) 2)) rx1 ((hF1.rI _ _)) hq2) aw_449 aw_450 aw_45 aw_451 rfl pm_X7_needIndex rfl rfl ⟨Nat.le_of_ble_eq_true rfl, Nat.le_of_ble_eq_true rfl⟩ rfl (Nat.le_of_ble_eq_true rfl) dX7_entryAt_8 ⟨Nat.le_of_ble_eq_true rfl, Nat.le_of_ble_eq_true rfl⟩) (fun c2 H locs hF2 => ?_) (fun c2 H locs q ce hF2 e1 e2 e3 => fl_prop C0 hF2 hx0 c2 e1 e2 e3 (hg c2) (Nat.le_of_ble_eq_true rfl) (Nat.le_of_ble_eq_true rfl))
  replace hf := hf c2
  refine lv_aload_n C0.1 C0.2.1 dX7_entryAt_11 rfl (lv_at hl 0 rfl) ?_
  refine fl_getr (k := 4) (t := 11) ck_8 C0 hF2 ka0 rfl (wt_at (k := 4) (t := 11) hWT ka0 rfl) rfl ⟨rfl, rfl⟩ aw_194 dX7_entryAt_12 ?_
  refine lv_iload_n C0.1 C0.2.1 dX7_entryAt_15 rfl (lv_at hl 1 rfl) ?_
  obtain ⟨r3, hq3, hf⟩ := bp_f hf
  have kr3 := lget_k hq3
  refine fl_rr hF2 (fl_runV (As := [iv x1]) (rest := []) C0 hF2 hl.1 ck_0 (wt_at (k := 4) (t := 11) hWT ka0 rfl) rfl (c_get l D cy B L K P J I2 ((P a0 4)) x1 11 1 (wt_at (k := 4) (t := 11) hWT ka0 rfl) rfl rx1 hq3) aw_348 aw_349 aw_350 aw_51 aw_351 rfl rfl pm_get rfl rfl ⟨Nat.le_of_ble_eq_true rfl, Nat.le_of_ble_eq_true rfl⟩ rfl (Nat.le_of_ble_eq_true rfl) dX7_entryAt_16 ⟨Nat.le_of_ble_eq_true rfl, Nat.le_of_ble_eq_true rfl⟩) (fun H locs hF3 => ?_)
  refine fl_cast ck_1 C0 hF3 kr3 rfl aw_362 dX7_entryAt_19 ?_
  cases hf
  exact fl_aretX C0 hF3 hr rfl dX7_entryAt_22 (Nat.le_of_ble_eq_true rfl) (Nat.le_of_ble_eq_true rfl)
-- RejudgeHall.code(II)I
abbrev rm_X7_code : Room := { frames := 7, cells := 3, slots := 18, locals := 112 }
def f_X7_code (K : KT) (P : PT) (I : IT) (a0 : Nat) (x1 : Int) (x2 : Int) : Option (Nat × Int × IT) := bx (f_X7_needRange K P I x1 0 9) fun _ I1 => bx (f_X7_needRange K P I1 x2 ((-99)) 99) fun _ I2 => if (I2 ((P a0 0)) 2) < 16 then (bp (f_X3_append K P I2 ((P a0 0)) x1 x2) fun I4 => some (0, (I4 ((P a0 0)) 2), I4)) else (some (2, 0, I2))
theorem pm_X7_code : plainM yX7_code 2 := by decide +kernel
set_option maxRecDepth 100000 in
set_option maxHeartbeats 4000000 in
theorem c_X7_code (l : Launch) (hst : l.stackTraces = false) (D : va_G) (cy : Nat → ClassId) (B : Nat) (L : List Nat) (K : KT) (P : PT) (J : IT) (hWT : WT K P) (I : IT) (a0 : Nat) (x1 : Int) (x2 : Int) (ka0 : K a0 = 8) (rx1 : rg x1) (rx2 : rg x2) {co : Nat} {r : Int} {I' : IT} (hf : f_X7_code K P I a0 x1 x2 = some (co, r, I')) : vx_Met l yX7_code [.code yX7_code cX7_code 3 (some .int)] rm_X7_code (va_Pc [.ref a0, iv x1, iv x2] (FW D cy B L K P J I)) (XI D cy B L K P J (co, r, I')) (XX D cy B L K P J (co, r, I')) 3 18 (fun q => B ≤ q) := by
  refine fl_bodyX (own := "RejudgeHall") [.ref a0, iv x1, iv x2] (by decide) rfl (Nat.le_of_ble_eq_true rfl) ?_
  intro p e s m args below meth c ls C0 hr hx0 hF hl
  have hl : lv_has ls 3 [(0, .ref a0), (1, iv x1), (2, iv x2)] := hl
  unfold f_X7_code at hf
  refine lv_iload_n C0.1 C0.2.1 dX7_code_0 rfl (lv_at hl 1 rfl) ?_
  refine fl_iconst C0 dX7_code_1 ?_
  refine fl_bipush C0 dX7_code_2 (by decide) ?_
  obtain ⟨co1, r1, I1, hq1, hf, hg⟩ := bx_f hf
  refine fl_xv hF (fl_runSX (As := [iv x1, iv 0, iv 9]) (rest := []) C0 hF hl.1 (c_X7_needRange l hst D cy B L K P J hWT I x1 0 9 rx1 ((rgk 0 rfl)) ((rgk 9 rfl)) hq1) aw_231 aw_232 aw_45 aw_233 rfl pm_X7_needRange rfl rfl ⟨Nat.le_of_ble_eq_true rfl, Nat.le_of_ble_eq_true rfl⟩ rfl (Nat.le_of_ble_eq_true rfl) dX7_code_4 ⟨Nat.le_of_ble_eq_true rfl, Nat.le_of_ble_eq_true rfl⟩) (fun c1 H locs hF1 => ?_) (fun c1 H locs q ce hF1 e1 e2 e3 => fl_prop C0 hF1 hx0 c1 e1 e2 e3 (hg c1) (Nat.le_of_ble_eq_true rfl) (Nat.le_of_ble_eq_true rfl))
  replace hf := hf c1
  refine lv_iload_n C0.1 C0.2.1 dX7_code_7 rfl (lv_at hl 2 rfl) ?_
  refine fl_bipush C0 dX7_code_8 (by decide) ?_
  refine fl_bipush C0 dX7_code_10 (by decide) ?_
  obtain ⟨co2, r2, I2, hq2, hf, hg⟩ := bx_f hf
  refine fl_xv hF1 (fl_runSX (As := [iv x2, iv (-99), iv 99]) (rest := []) C0 hF1 hl.1 (c_X7_needRange l hst D cy B L K P J hWT I1 x2 ((-99)) 99 rx2 ((rgk (-99) rfl)) ((rgk 99 rfl)) hq2) aw_231 aw_232 aw_45 aw_233 rfl pm_X7_needRange rfl rfl ⟨Nat.le_of_ble_eq_true rfl, Nat.le_of_ble_eq_true rfl⟩ rfl (Nat.le_of_ble_eq_true rfl) dX7_code_12 ⟨Nat.le_of_ble_eq_true rfl, Nat.le_of_ble_eq_true rfl⟩) (fun c2 H locs hF2 => ?_) (fun c2 H locs q ce hF2 e1 e2 e3 => fl_prop C0 hF2 hx0 c2 e1 e2 e3 (hg c2) (Nat.le_of_ble_eq_true rfl) (Nat.le_of_ble_eq_true rfl))
  replace hf := hf c2
  refine lv_aload_n C0.1 C0.2.1 dX7_code_15 rfl (lv_at hl 0 rfl) ?_
  refine fl_getr (k := 0) (t := 4) ck_8 C0 hF2 ka0 rfl (wt_at (k := 0) (t := 4) hWT ka0 rfl) rfl ⟨rfl, rfl⟩ aw_190 dX7_code_16 ?_
  refine fl_getiN (k := 2) ck_4 C0 hF2 (wt_at (k := 0) (t := 4) hWT ka0 rfl) rfl ⟨rfl, rfl⟩ aw_87 dX7_code_19 ?_
  refine fl_bipush C0 dX7_code_22 (by decide) ?_
  refine fl_icmp_lt (tgt := 37) C0 (hF2.rI _ _) (rgk 16 rfl) dX7_code_24 (by decide) (fun c3 => ?_) (fun c3 => ?_)
  · replace hf := (if_pos c3).symm.trans hf
    refine lv_aload_n C0.1 C0.2.1 dX7_code_37 rfl (lv_at hl 0 rfl) ?_
    refine fl_getr (k := 0) (t := 4) ck_8 C0 hF2 ka0 rfl (wt_at (k := 0) (t := 4) hWT ka0 rfl) rfl ⟨rfl, rfl⟩ aw_190 dX7_code_38 ?_
    refine lv_iload_n C0.1 C0.2.1 dX7_code_41 rfl (lv_at hl 1 rfl) ?_
    refine lv_iload_n C0.1 C0.2.1 dX7_code_42 rfl (lv_at hl 2 rfl) ?_
    obtain ⟨I4, hq4, hf⟩ := bp_f hf
    refine fl_rv hF2 (fl_runN (As := [iv x1, iv x2]) (rest := []) C0 hF2 hl.1 ck_4 (wt_at (k := 0) (t := 4) hWT ka0 rfl) rfl (c_X3_append l D cy B L K P J hWT I2 ((P a0 0)) x1 x2 ((wt_at (k := 0) (t := 4) hWT ka0 rfl)) rx1 rx2 hq4) aw_318 aw_320 aw_1 aw_46 aw_321 rfl pm_X3_append rfl rfl ⟨Nat.le_of_ble_eq_true rfl, Nat.le_of_ble_eq_true rfl⟩ rfl (Nat.le_of_ble_eq_true rfl) dX7_code_43 ⟨Nat.le_of_ble_eq_true rfl, Nat.le_of_ble_eq_true rfl⟩) (fun H locs hF4 => ?_)
    refine lv_aload_n C0.1 C0.2.1 dX7_code_46 rfl (lv_at hl 0 rfl) ?_
    refine fl_getr (k := 0) (t := 4) ck_8 C0 hF4 ka0 rfl (wt_at (k := 0) (t := 4) hWT ka0 rfl) rfl ⟨rfl, rfl⟩ aw_190 dX7_code_47 ?_
    refine fl_getiN (k := 2) ck_4 C0 hF4 (wt_at (k := 0) (t := 4) hWT ka0 rfl) rfl ⟨rfl, rfl⟩ aw_87 dX7_code_50 ?_
    cases hf
    exact fl_iretX C0 hF4 hr (hF4.rI _ _) rfl dX7_code_53 (Nat.le_of_ble_eq_true rfl) (Nat.le_of_ble_eq_true rfl)
  · replace hf := (if_neg c3).symm.trans hf
    cases hf
    exact fl_throw C0 hF2 hst hx0 hl.1 ex_2 (by decide) (List.mem_of_getElem? (i := 1) rfl) rfl dX7_code_27 dX7_code_30 dX7_code_31 dX7_code_33 dX7_code_36 (Nat.le_of_ble_eq_true rfl) (Nat.le_of_ble_eq_true rfl) (Nat.le_of_ble_eq_true rfl) (Nat.le_of_ble_eq_true rfl) (Nat.le_of_ble_eq_true rfl) (Nat.le_of_ble_eq_true rfl)
-- RejudgeHall.input(I)I
abbrev rm_X7_input : Room := { frames := 7, cells := 2, slots := 12, locals := 112 }
def f_X7_input (K : KT) (P : PT) (I : IT) (a0 : Nat) (x1 : Int) : Option (Nat × Int × IT) := bx (f_X7_needRange K P I x1 ((-9)) 9) fun _ I1 => if (I1 ((P a0 1)) 1) < 4 then (bp (f_X4_push K P I1 ((P a0 1)) x1) fun I3 => some (0, (I3 ((P a0 1)) 1), I3)) else (some (2, 0, I1))
theorem pm_X7_input : plainM yX7_input 1 := by decide +kernel
set_option maxRecDepth 100000 in
set_option maxHeartbeats 4000000 in
theorem c_X7_input (l : Launch) (hst : l.stackTraces = false) (D : va_G) (cy : Nat → ClassId) (B : Nat) (L : List Nat) (K : KT) (P : PT) (J : IT) (hWT : WT K P) (I : IT) (a0 : Nat) (x1 : Int) (ka0 : K a0 = 8) (rx1 : rg x1) {co : Nat} {r : Int} {I' : IT} (hf : f_X7_input K P I a0 x1 = some (co, r, I')) : vx_Met l yX7_input [.code yX7_input cX7_input 2 (some .int)] rm_X7_input (va_Pc [.ref a0, iv x1] (FW D cy B L K P J I)) (XI D cy B L K P J (co, r, I')) (XX D cy B L K P J (co, r, I')) 2 12 (fun q => B ≤ q) := by
  refine fl_bodyX (own := "RejudgeHall") [.ref a0, iv x1] (by decide) rfl (Nat.le_of_ble_eq_true rfl) ?_
  intro p e s m args below meth c ls C0 hr hx0 hF hl
  have hl : lv_has ls 2 [(0, .ref a0), (1, iv x1)] := hl
  unfold f_X7_input at hf
  refine lv_iload_n C0.1 C0.2.1 dX7_input_0 rfl (lv_at hl 1 rfl) ?_
  refine fl_bipush C0 dX7_input_1 (by decide) ?_
  refine fl_bipush C0 dX7_input_3 (by decide) ?_
  obtain ⟨co1, r1, I1, hq1, hf, hg⟩ := bx_f hf
  refine fl_xv hF (fl_runSX (As := [iv x1, iv (-9), iv 9]) (rest := []) C0 hF hl.1 (c_X7_needRange l hst D cy B L K P J hWT I x1 ((-9)) 9 rx1 ((rgk (-9) rfl)) ((rgk 9 rfl)) hq1) aw_231 aw_232 aw_45 aw_233 rfl pm_X7_needRange rfl rfl ⟨Nat.le_of_ble_eq_true rfl, Nat.le_of_ble_eq_true rfl⟩ rfl (Nat.le_of_ble_eq_true rfl) dX7_input_5 ⟨Nat.le_of_ble_eq_true rfl, Nat.le_of_ble_eq_true rfl⟩) (fun c1 H locs hF1 => ?_) (fun c1 H locs q ce hF1 e1 e2 e3 => fl_prop C0 hF1 hx0 c1 e1 e2 e3 (hg c1) (Nat.le_of_ble_eq_true rfl) (Nat.le_of_ble_eq_true rfl))
  replace hf := hf c1
  refine lv_aload_n C0.1 C0.2.1 dX7_input_8 rfl (lv_at hl 0 rfl) ?_
  refine fl_getr (k := 1) (t := 5) ck_8 C0 hF1 ka0 rfl (wt_at (k := 1) (t := 5) hWT ka0 rfl) rfl ⟨rfl, rfl⟩ aw_191 dX7_input_9 ?_
  refine fl_getiN (k := 1) ck_5 C0 hF1 (wt_at (k := 1) (t := 5) hWT ka0 rfl) rfl ⟨rfl, rfl⟩ aw_106 dX7_input_12 ?_
  refine fl_iconst C0 dX7_input_15 ?_
  refine fl_icmp_lt (tgt := 29) C0 (hF1.rI _ _) (rgk 4 rfl) dX7_input_16 (by decide) (fun c2 => ?_) (fun c2 => ?_)
  · replace hf := (if_pos c2).symm.trans hf
    refine lv_aload_n C0.1 C0.2.1 dX7_input_29 rfl (lv_at hl 0 rfl) ?_
    refine fl_getr (k := 1) (t := 5) ck_8 C0 hF1 ka0 rfl (wt_at (k := 1) (t := 5) hWT ka0 rfl) rfl ⟨rfl, rfl⟩ aw_191 dX7_input_30 ?_
    refine lv_iload_n C0.1 C0.2.1 dX7_input_33 rfl (lv_at hl 1 rfl) ?_
    obtain ⟨I3, hq3, hf⟩ := bp_f hf
    refine fl_rv hF1 (fl_runN (As := [iv x1]) (rest := []) C0 hF1 hl.1 ck_5 (wt_at (k := 1) (t := 5) hWT ka0 rfl) rfl (c_X4_push l D cy B L K P J hWT I1 ((P a0 1)) x1 ((wt_at (k := 1) (t := 5) hWT ka0 rfl)) rx1 hq3) aw_327 aw_329 aw_2 aw_47 aw_330 rfl pm_X4_push rfl rfl ⟨Nat.le_of_ble_eq_true rfl, Nat.le_of_ble_eq_true rfl⟩ rfl (Nat.le_of_ble_eq_true rfl) dX7_input_34 ⟨Nat.le_of_ble_eq_true rfl, Nat.le_of_ble_eq_true rfl⟩) (fun H locs hF3 => ?_)
    refine lv_aload_n C0.1 C0.2.1 dX7_input_37 rfl (lv_at hl 0 rfl) ?_
    refine fl_getr (k := 1) (t := 5) ck_8 C0 hF3 ka0 rfl (wt_at (k := 1) (t := 5) hWT ka0 rfl) rfl ⟨rfl, rfl⟩ aw_191 dX7_input_38 ?_
    refine fl_getiN (k := 1) ck_5 C0 hF3 (wt_at (k := 1) (t := 5) hWT ka0 rfl) rfl ⟨rfl, rfl⟩ aw_106 dX7_input_41 ?_
    cases hf
    exact fl_iretX C0 hF3 hr (hF3.rI _ _) rfl dX7_input_44 (Nat.le_of_ble_eq_true rfl) (Nat.le_of_ble_eq_true rfl)
  · replace hf := (if_neg c2).symm.trans hf
    cases hf
    exact fl_throw C0 hF1 hst hx0 hl.1 ex_2 (by decide) (List.mem_of_getElem? (i := 2) rfl) rfl dX7_input_19 dX7_input_22 dX7_input_23 dX7_input_25 dX7_input_28 (Nat.le_of_ble_eq_true rfl) (Nat.le_of_ble_eq_true rfl) (Nat.le_of_ble_eq_true rfl) (Nat.le_of_ble_eq_true rfl) (Nat.le_of_ble_eq_true rfl) (Nat.le_of_ble_eq_true rfl)
-- RejudgeHall.run(II)I
abbrev rm_X7_run : Room := { frames := 7, cells := 2, slots := 12, locals := 112 }
def f_X7_run (K : KT) (P : PT) (I : IT) (a0 : Nat) (x1 : Int) (x2 : Int) : Option (Nat × Int × IT) := bx (f_X7_needRange K P I x1 1 500) fun _ I1 => bx (f_X7_needRange K P I1 x2 0 10) fun _ I2 => bi (f_X1_execute K P I2 ((P a0 2)) ((P a0 0)) ((P a0 1)) x1) fun r3 I3 => if x2 = 0 then (some (0, r3, I3)) else if x2 = 1 then (some (0, (I3 ((P a0 2)) 2), I3)) else if x2 = 2 then (some (0, (I3 ((P ((P a0 2)) 1)) 1), I3)) else (bp (f_X4_at K P I3 ((P ((P a0 2)) 1)) ((wr (x2 - 3)))) fun r7 => some (0, r7, I3))
theorem pm_X7_run : plainM yX7_run 2 := by decide +kernel
set_option maxRecDepth 100000 in
set_option maxHeartbeats 4000000 in
theorem c_X7_run (l : Launch) (hst : l.stackTraces = false) (D : va_G) (cy : Nat → ClassId) (B : Nat) (L : List Nat) (K : KT) (P : PT) (J : IT) (hWT : WT K P) (I : IT) (a0 : Nat) (x1 : Int) (x2 : Int) (ka0 : K a0 = 8) (rx1 : rg x1) (rx2 : rg x2) {co : Nat} {r : Int} {I' : IT} (hf : f_X7_run K P I a0 x1 x2 = some (co, r, I')) : vx_Met l yX7_run [.code yX7_run cX7_run 4 (some .int)] rm_X7_run (va_Pc [.ref a0, iv x1, iv x2] (FW D cy B L K P J I)) (XI D cy B L K P J (co, r, I')) (XX D cy B L K P J (co, r, I')) 2 12 (fun q => B ≤ q) := by
  refine fl_bodyX (own := "RejudgeHall") [.ref a0, iv x1, iv x2] (by decide) rfl (Nat.le_of_ble_eq_true rfl) ?_
  intro p e s m args below meth c ls C0 hr hx0 hF hl
  have hl : lv_has ls 4 [(0, .ref a0), (1, iv x1), (2, iv x2)] := hl
  unfold f_X7_run at hf
  refine lv_iload_n C0.1 C0.2.1 dX7_run_0 rfl (lv_at hl 1 rfl) ?_
  refine fl_iconst C0 dX7_run_1 ?_
  refine fl_sipush C0 dX7_run_2 (by decide) ?_
  obtain ⟨co1, r1, I1, hq1, hf, hg⟩ := bx_f hf
  refine fl_xv hF (fl_runSX (As := [iv x1, iv 1, iv 500]) (rest := []) C0 hF hl.1 (c_X7_needRange l hst D cy B L K P J hWT I x1 1 500 rx1 ((rgk 1 rfl)) ((rgk 500 rfl)) hq1) aw_231 aw_232 aw_45 aw_233 rfl pm_X7_needRange rfl rfl ⟨Nat.le_of_ble_eq_true rfl, Nat.le_of_ble_eq_true rfl⟩ rfl (Nat.le_of_ble_eq_true rfl) dX7_run_5 ⟨Nat.le_of_ble_eq_true rfl, Nat.le_of_ble_eq_true rfl⟩) (fun c1 H locs hF1 => ?_) (fun c1 H locs q ce hF1 e1 e2 e3 => fl_prop C0 hF1 hx0 c1 e1 e2 e3 (hg c1) (Nat.le_of_ble_eq_true rfl) (Nat.le_of_ble_eq_true rfl))
  replace hf := hf c1
  refine lv_iload_n C0.1 C0.2.1 dX7_run_8 rfl (lv_at hl 2 rfl) ?_
  refine fl_iconst C0 dX7_run_9 ?_
  refine fl_bipush C0 dX7_run_10 (by decide) ?_
  obtain ⟨co2, r2, I2, hq2, hf, hg⟩ := bx_f hf
  refine fl_xv hF1 (fl_runSX (As := [iv x2, iv 0, iv 10]) (rest := []) C0 hF1 hl.1 (c_X7_needRange l hst D cy B L K P J hWT I1 x2 0 10 rx2 ((rgk 0 rfl)) ((rgk 10 rfl)) hq2) aw_231 aw_232 aw_45 aw_233 rfl pm_X7_needRange rfl rfl ⟨Nat.le_of_ble_eq_true rfl, Nat.le_of_ble_eq_true rfl⟩ rfl (Nat.le_of_ble_eq_true rfl) dX7_run_12 ⟨Nat.le_of_ble_eq_true rfl, Nat.le_of_ble_eq_true rfl⟩) (fun c2 H locs hF2 => ?_) (fun c2 H locs q ce hF2 e1 e2 e3 => fl_prop C0 hF2 hx0 c2 e1 e2 e3 (hg c2) (Nat.le_of_ble_eq_true rfl) (Nat.le_of_ble_eq_true rfl))
  replace hf := hf c2
  refine lv_aload_n C0.1 C0.2.1 dX7_run_15 rfl (lv_at hl 0 rfl) ?_
  refine fl_getr (k := 2) (t := 2) ck_8 C0 hF2 ka0 rfl (wt_at (k := 2) (t := 2) hWT ka0 rfl) rfl ⟨rfl, rfl⟩ aw_192 dX7_run_16 ?_
  refine lv_aload_n C0.1 C0.2.1 dX7_run_19 rfl (lv_at hl 0 rfl) ?_
  refine fl_getr (k := 0) (t := 4) ck_8 C0 hF2 ka0 rfl (wt_at (k := 0) (t := 4) hWT ka0 rfl) rfl ⟨rfl, rfl⟩ aw_190 dX7_run_20 ?_
  refine lv_aload_n C0.1 C0.2.1 dX7_run_23 rfl (lv_at hl 0 rfl) ?_
  refine fl_getr (k := 1) (t := 5) ck_8 C0 hF2 ka0 rfl (wt_at (k := 1) (t := 5) hWT ka0 rfl) rfl ⟨rfl, rfl⟩ aw_191 dX7_run_24 ?_
  refine lv_iload_n C0.1 C0.2.1 dX7_run_27 rfl (lv_at hl 1 rfl) ?_
  obtain ⟨r3, I3, hq3, hf⟩ := bi_f hf
  refine fl_ri hF2 (fl_runN (As := [.ref (P a0 0), .ref (P a0 1), iv x1]) (rest := []) C0 hF2 hl.1 ck_2 (wt_at (k := 2) (t := 2) hWT ka0 rfl) rfl (c_X1_execute l D cy B L K P J hWT I2 ((P a0 2)) ((P a0 0)) ((P a0 1)) x1 ((wt_at (k := 2) (t := 2) hWT ka0 rfl)) ((wt_at (k := 0) (t := 4) hWT ka0 rfl)) ((wt_at (k := 1) (t := 5) hWT ka0 rfl)) rx1 hq3) aw_377 aw_379 aw_6 aw_48 aw_380 rfl pm_X1_execute rfl rfl ⟨Nat.le_of_ble_eq_true rfl, Nat.le_of_ble_eq_true rfl⟩ rfl (Nat.le_of_ble_eq_true rfl) dX7_run_28 ⟨Nat.le_of_ble_eq_true rfl, Nat.le_of_ble_eq_true rfl⟩) (fun H locs hF3 rr3 => ?_)
  refine lv_istore_n (lv' := [(3, iv r3), (0, .ref a0), (1, iv x1), (2, iv x2)]) C0.1 C0.2.1 dX7_run_31 rfl hl (by decide) rfl (fun ls hl => ?_)
  refine lv_iload_n C0.1 C0.2.1 dX7_run_32 rfl (lv_at hl 3 rfl) ?_
  rcases Classical.em (x2 = 0) with c4 | c4
  · replace hf := (if_pos c4).symm.trans hf
    refine fl_tableIn (v := 0) (tgt := 60) C0 rx2 dX7_run_33 c4 (by decide) rfl (by decide) ?_
    refine lv_iload_n C0.1 C0.2.1 dX7_run_60 rfl (lv_at hl 0 rfl) ?_
    cases hf
    exact fl_iretX C0 hF3 hr rr3 rfl dX7_run_61 (Nat.le_of_ble_eq_true rfl) (Nat.le_of_ble_eq_true rfl)
  · replace hf := (if_neg c4).symm.trans hf
    rcases Classical.em (x2 = 1) with c5 | c5
    · replace hf := (if_pos c5).symm.trans hf
      refine fl_tableIn (v := 1) (tgt := 62) C0 rx2 dX7_run_33 c5 (by decide) rfl (by decide) ?_
      refine lv_aload_n C0.1 C0.2.1 dX7_run_62 rfl (lv_at hl 1 rfl) ?_
      refine fl_getr (k := 2) (t := 2) ck_8 C0 hF3 ka0 rfl (wt_at (k := 2) (t := 2) hWT ka0 rfl) rfl ⟨rfl, rfl⟩ aw_192 dX7_run_63 ?_
      refine fl_getiN (k := 2) ck_2 C0 hF3 (wt_at (k := 2) (t := 2) hWT ka0 rfl) rfl ⟨rfl, rfl⟩ aw_124 dX7_run_66 ?_
      cases hf
      exact fl_iretX C0 hF3 hr (hF3.rI _ _) rfl dX7_run_69 (Nat.le_of_ble_eq_true rfl) (Nat.le_of_ble_eq_true rfl)
    · replace hf := (if_neg c5).symm.trans hf
      rcases Classical.em (x2 = 2) with c6 | c6
      · replace hf := (if_pos c6).symm.trans hf
        refine fl_tableIn (v := 2) (tgt := 70) C0 rx2 dX7_run_33 c6 (by decide) rfl (by decide) ?_
        refine lv_aload_n C0.1 C0.2.1 dX7_run_70 rfl (lv_at hl 1 rfl) ?_
        refine fl_getr (k := 2) (t := 2) ck_8 C0 hF3 ka0 rfl (wt_at (k := 2) (t := 2) hWT ka0 rfl) rfl ⟨rfl, rfl⟩ aw_192 dX7_run_71 ?_
        refine fl_getrN (k := 1) (t := 5) ck_2 C0 hF3 (wt_at (k := 2) (t := 2) hWT ka0 rfl) rfl (wt_at (k := 1) (t := 5) hWT (wt_at (k := 2) (t := 2) hWT ka0 rfl) rfl) rfl ⟨rfl, rfl⟩ aw_122 dX7_run_74 ?_
        refine fl_getiN (k := 1) ck_5 C0 hF3 (wt_at (k := 1) (t := 5) hWT (wt_at (k := 2) (t := 2) hWT ka0 rfl) rfl) rfl ⟨rfl, rfl⟩ aw_106 dX7_run_77 ?_
        cases hf
        exact fl_iretX C0 hF3 hr (hF3.rI _ _) rfl dX7_run_80 (Nat.le_of_ble_eq_true rfl) (Nat.le_of_ble_eq_true rfl)
      · replace hf := (if_neg c6).symm.trans hf
        refine fl_tableOut (tgt := 81) C0 rx2 dX7_run_33 (by omega) (by decide) ?_
        refine lv_aload_n C0.1 C0.2.1 dX7_run_81 rfl (lv_at hl 1 rfl) ?_
        refine fl_getr (k := 2) (t := 2) ck_8 C0 hF3 ka0 rfl (wt_at (k := 2) (t := 2) hWT ka0 rfl) rfl ⟨rfl, rfl⟩ aw_192 dX7_run_82 ?_
        refine fl_getrN (k := 1) (t := 5) ck_2 C0 hF3 (wt_at (k := 2) (t := 2) hWT ka0 rfl) rfl (wt_at (k := 1) (t := 5) hWT (wt_at (k := 2) (t := 2) hWT ka0 rfl) rfl) rfl ⟨rfl, rfl⟩ aw_122 dX7_run_85 ?_
        refine lv_iload_n C0.1 C0.2.1 dX7_run_88 rfl (lv_at hl 3 rfl) ?_
        refine fl_iconst C0 dX7_run_89 ?_
        refine fl_isub C0 dX7_run_90 ?_
        obtain ⟨r7, hq7, hf⟩ := bp_f hf
        refine fl_ri hF3 (fl_runN (As := [iv (wr (x2 - 3))]) (rest := []) C0 hF3 hl.1 ck_5 (wt_at (k := 1) (t := 5) hWT (wt_at (k := 2) (t := 2) hWT ka0 rfl) rfl) rfl (c_X4_at l D cy B L K P J hWT I3 ((P ((P a0 2)) 1)) ((wr (x2 - 3))) ((wt_at (k := 1) (t := 5) hWT (wt_at (k := 2) (t := 2) hWT ka0 rfl) rfl)) ((rg_wr _)) hq7) aw_568 aw_391 aw_9 aw_47 aw_392 rfl pm_X4_at rfl rfl ⟨Nat.le_of_ble_eq_true rfl, Nat.le_of_ble_eq_true rfl⟩ rfl (Nat.le_of_ble_eq_true rfl) dX7_run_91 ⟨Nat.le_of_ble_eq_true rfl, Nat.le_of_ble_eq_true rfl⟩) (fun H locs hF7 rr7 => ?_)
        cases hf
        exact fl_iretX C0 hF7 hr rr7 rfl dX7_run_94 (Nat.le_of_ble_eq_true rfl) (Nat.le_of_ble_eq_true rfl)
-- RejudgeHall.points(III)I
abbrev rm_X7_points : Room := { frames := 8, cells := 3, slots := 18, locals := 132 }
def f_X7_points (K : KT) (P : PT) (I : IT) (a0 : Nat) (x1 : Int) (x2 : Int) (x3 : Int) : Option (Nat × Int × IT) := bx (f_X7_problemAt K P I a0 x1) fun r1 I1 => ck (K r1 = 3) <| bx (f_X7_needIndex K P I1 x2 4) fun _ I2 => bx (f_X7_needRange K P I2 x3 0 100) fun _ I3 => ck (0 ≤ x2 ∧ x2 < 4) <| ck (0 ≤ x2 ∧ x2 < 4) <| bnd (up I3 ((P r1 4)) (x2 : Int).toNat x3) fun I4 => some (0, (I3 ((P r1 4)) (x2 : Int).toNat), I4)
theorem pm_X7_points : plainM yX7_points 3 := by decide +kernel
set_option maxRecDepth 100000 in
set_option maxHeartbeats 4000000 in
theorem c_X7_points (l : Launch) (hst : l.stackTraces = false) (D : va_G) (cy : Nat → ClassId) (B : Nat) (L : List Nat) (K : KT) (P : PT) (J : IT) (hWT : WT K P) (I : IT) (a0 : Nat) (x1 : Int) (x2 : Int) (x3 : Int) (ka0 : K a0 = 8) (rx1 : rg x1) (rx2 : rg x2) (rx3 : rg x3) {co : Nat} {r : Int} {I' : IT} (hf : f_X7_points K P I a0 x1 x2 x3 = some (co, r, I')) : vx_Met l yX7_points [.code yX7_points cX7_points 6 (some .int)] rm_X7_points (va_Pc [.ref a0, iv x1, iv x2, iv x3] (FW D cy B L K P J I)) (XI D cy B L K P J (co, r, I')) (XX D cy B L K P J (co, r, I')) 3 18 (fun q => B ≤ q) := by
  refine fl_bodyX (own := "RejudgeHall") [.ref a0, iv x1, iv x2, iv x3] (by decide) rfl (Nat.le_of_ble_eq_true rfl) ?_
  intro p e s m args below meth c ls C0 hr hx0 hF hl
  have hl : lv_has ls 6 [(0, .ref a0), (1, iv x1), (2, iv x2), (3, iv x3)] := hl
  unfold f_X7_points at hf
  refine lv_aload_n C0.1 C0.2.1 dX7_points_0 rfl (lv_at hl 0 rfl) ?_
  refine lv_iload_n C0.1 C0.2.1 dX7_points_1 rfl (lv_at hl 1 rfl) ?_
  obtain ⟨co1, r1, I1, hq1, hf, hg⟩ := bx_f hf
  refine fl_xr hF (fl_runVX (As := [iv x1]) (rest := []) C0 hF hl.1 ck_8 ka0 rfl (c_X7_problemAt l hst D cy B L K P J hWT I a0 x1 ka0 rx1 hq1) aw_445 aw_447 aw_20 aw_45 aw_448 rfl rfl pm_X7_problemAt rfl rfl ⟨Nat.le_of_ble_eq_true rfl, Nat.le_of_ble_eq_true rfl⟩ rfl (Nat.le_of_ble_eq_true rfl) dX7_points_2 ⟨Nat.le_of_ble_eq_true rfl, Nat.le_of_ble_eq_true rfl⟩) (fun c1 H locs hF1 => ?_) (fun c1 H locs q ce hF1 e1 e2 e3 => fl_prop C0 hF1 hx0 c1 e1 e2 e3 (hg c1) (Nat.le_of_ble_eq_true rfl) (Nat.le_of_ble_eq_true rfl))
  replace hf := hf c1
  obtain ⟨kr1, hf⟩ := ck_f hf
  refine lv_astore (lv' := [(4, .ref r1), (0, .ref a0), (1, iv x1), (2, iv x2), (3, iv x3)]) C0.1 C0.2.1 dX7_points_5 hl (by decide) rfl (fun ls hl => ?_)
  refine lv_iload_n C0.1 C0.2.1 dX7_points_7 rfl (lv_at hl 3 rfl) ?_
  refine fl_iconst C0 dX7_points_8 ?_
  obtain ⟨co2, r2, I2, hq2, hf, hg⟩ := bx_f hf
  refine fl_xv hF1 (fl_runSX (As := [iv x2, iv 4]) (rest := []) C0 hF1 hl.1 (c_X7_needIndex l hst D cy B L K P J hWT I1 x2 4 rx2 ((rgk 4 rfl)) hq2) aw_449 aw_450 aw_45 aw_451 rfl pm_X7_needIndex rfl rfl ⟨Nat.le_of_ble_eq_true rfl, Nat.le_of_ble_eq_true rfl⟩ rfl (Nat.le_of_ble_eq_true rfl) dX7_points_9 ⟨Nat.le_of_ble_eq_true rfl, Nat.le_of_ble_eq_true rfl⟩) (fun c2 H locs hF2 => ?_) (fun c2 H locs q ce hF2 e1 e2 e3 => fl_prop C0 hF2 hx0 c2 e1 e2 e3 (hg c2) (Nat.le_of_ble_eq_true rfl) (Nat.le_of_ble_eq_true rfl))
  replace hf := hf c2
  refine lv_iload_n C0.1 C0.2.1 dX7_points_12 rfl (lv_at hl 4 rfl) ?_
  refine fl_iconst C0 dX7_points_13 ?_
  refine fl_bipush C0 dX7_points_14 (by decide) ?_
  obtain ⟨co3, r3, I3, hq3, hf, hg⟩ := bx_f hf
  refine fl_xv hF2 (fl_runSX (As := [iv x3, iv 0, iv 100]) (rest := []) C0 hF2 hl.1 (c_X7_needRange l hst D cy B L K P J hWT I2 x3 0 100 rx3 ((rgk 0 rfl)) ((rgk 100 rfl)) hq3) aw_231 aw_232 aw_45 aw_233 rfl pm_X7_needRange rfl rfl ⟨Nat.le_of_ble_eq_true rfl, Nat.le_of_ble_eq_true rfl⟩ rfl (Nat.le_of_ble_eq_true rfl) dX7_points_16 ⟨Nat.le_of_ble_eq_true rfl, Nat.le_of_ble_eq_true rfl⟩) (fun c3 H locs hF3 => ?_) (fun c3 H locs q ce hF3 e1 e2 e3 => fl_prop C0 hF3 hx0 c3 e1 e2 e3 (hg c3) (Nat.le_of_ble_eq_true rfl) (Nat.le_of_ble_eq_true rfl))
  replace hf := hf c3
  refine lv_aload C0.1 C0.2.1 dX7_points_19 (lv_at hl 0 rfl) ?_
  refine fl_getrN (k := 4) (t := 116) ck_3 C0 hF3 kr1 rfl (wt_at (k := 4) (t := 116) hWT kr1 rfl) rfl ⟨rfl, rfl⟩ aw_593 dX7_points_21 ?_
  refine lv_iload_n C0.1 C0.2.1 dX7_points_24 rfl (lv_at hl 3 rfl) ?_
  obtain ⟨hc, hf⟩ := ck_f hf
  refine fl_iald (n := 4) C0 hF3 (wt_at (k := 4) (t := 116) hWT kr1 rfl) rx2 hc dX7_points_25 ?_
  refine lv_istore (lv' := [(5, iv (I3 ((P r1 4)) (x2 : Int).toNat)), (4, .ref r1), (0, .ref a0), (1, iv x1), (2, iv x2), (3, iv x3)]) C0.1 C0.2.1 dX7_points_26 hl (by decide) rfl (fun ls hl => ?_)
  refine lv_aload C0.1 C0.2.1 dX7_points_28 (lv_at hl 1 rfl) ?_
  refine fl_getrN (k := 4) (t := 116) ck_3 C0 hF3 kr1 rfl (wt_at (k := 4) (t := 116) hWT kr1 rfl) rfl ⟨rfl, rfl⟩ aw_593 dX7_points_30 ?_
  refine lv_iload_n C0.1 C0.2.1 dX7_points_33 rfl (lv_at hl 4 rfl) ?_
  refine lv_iload_n C0.1 C0.2.1 dX7_points_34 rfl (lv_at hl 5 rfl) ?_
  obtain ⟨hc, hf⟩ := ck_f hf
  refine fl_iast (n := 4) C0 hF3 (wt_at (k := 4) (t := 116) hWT kr1 rfl) rx2 rx3 hc dX7_points_35 (fun H locs hF4 => ?_)
  obtain ⟨I4, eI4, hf⟩ := bnd_f hf
  rw [eI4] at hF4
  refine lv_iload C0.1 C0.2.1 dX7_points_36 (lv_at hl 0 rfl) ?_
  cases hf
  exact fl_iretX C0 hF4 hr (hF3.rI _ _) rfl dX7_points_38 (Nat.le_of_ble_eq_true rfl) (Nat.le_of_ble_eq_true rfl)
-- RejudgeHall.mend(II)I
abbrev rm_X7_mend : Room := { frames := 8, cells := 3, slots := 18, locals := 141 }
def f_X7_mend_60 (K : KT) (P : PT) (I : IT) (x2 : Int) (a3 : Nat) : Option (Nat × Int × IT) := bnd (up I a3 5 x2) fun I8 => bnd (up I8 a3 6 (wr ((I8 a3 6) + 1))) fun I9 => some (0, (I9 a3 6), I9)
def f_X7_mend (K : KT) (P : PT) (I : IT) (a0 : Nat) (x1 : Int) (x2 : Int) : Option (Nat × Int × IT) := bx (f_X7_problemAt K P I a0 x1) fun r1 I1 => ck (K r1 = 3) <| bx (f_X7_needRange K P I1 x2 0 1) fun _ I2 => if (I2 ((P a0 0)) 2) ≤ 0 then (f_X7_mend_60 K P  I2 x2 r1) else (bi (f_X7_findsAllAnswers K P I2 a0 r1 ((P a0 0))) fun r4 I4 => if r4 = 0 then (some (2, 0, I4)) else (bp (f_X3_takeFrom K P I4 ((P r1 2)) ((P a0 0))) fun I6 => bp (f_X7_renewAnswers K P I6 a0 r1) fun I7 => f_X7_mend_60 K P  I7 x2 r1))
abbrev G_X7_mend_60 (p : Program) (l : Launch) (e : Env) (s : State) (m : MethodId) (args : Array Value) (below : List Frame) (meth : Method) (c : Code) (D : va_G) (cy : Nat → ClassId) (B : Nat) (L : List Nat) (K : KT) (P : PT) (J : IT) (res : Nat × Int × IT) (f : IT → Int → Nat → Option (Nat × Int × IT)) : Prop := ∀ (I : IT) (x2 : Int) (a3 : Nat) (H : Heap) (locs : List Loc) (ls : Array Slot), rg x2 → K a3 = 3 → FS D cy B L K P J s.heap I H locs → lv_has ls 4 [(2, iv x2), (3, .ref a3)] → f I x2 a3 = some res → W p l e rm_X7_mend s m args below meth c H locs 2 12 (vx_MQ below (XI D cy B L K P J res) (XX D cy B L K P J res) args s 3 18 (fun q => B ≤ q)) (F0 m 60 ls [])
set_option maxRecDepth 100000 in
set_option maxHeartbeats 4000000 in
theorem b_X7_mend_60 {p : Program} {l : Launch} {e : Env} {s : State} {m : MethodId} {args : Array Value} {below : List Frame} {meth : Method} {c : Code} {D : va_G} {cy : Nat → ClassId} {B : Nat} {L : List Nat} {K : KT} {P : PT} {J : IT} {res : Nat × Int × IT} (C0 : FC D cy B p s m meth c "RejudgeHall" cX7_mend 4) (hr : meth.sig.returnType = (some .int)) (hWT : WT K P) (hst : l.stackTraces = false) (hx0 : ∀ x ∈ c.exceptionTable.toList, False) : G_X7_mend_60 p l e s m args below meth c D cy B L K P J res (f_X7_mend_60 K P ) := by
  intro I x2 a3 H locs ls rx2 ka3 hF hl hf
  unfold f_X7_mend_60 at hf
  refine lv_aload_n C0.1 C0.2.1 dX7_mend_60 rfl (lv_at hl 1 rfl) ?_
  refine lv_iload_n C0.1 C0.2.1 dX7_mend_61 rfl (lv_at hl 0 rfl) ?_
  refine fl_putiN (k := 5) ck_3 C0 hF ka3 rfl rx2 ⟨rfl, rfl, rfl⟩ aw_595 dX7_mend_62 (fun H locs hF8 => ?_)
  obtain ⟨I8, eI8, hf⟩ := bnd_f hf
  rw [eI8] at hF8
  refine lv_aload_n C0.1 C0.2.1 dX7_mend_65 rfl (lv_at hl 1 rfl) ?_
  refine lv_dup C0.1 C0.2.1 dX7_mend_66 rfl ?_
  refine fl_getiN (k := 6) ck_3 C0 hF8 ka3 rfl ⟨rfl, rfl⟩ aw_597 dX7_mend_67 ?_
  refine fl_iconst C0 dX7_mend_70 ?_
  refine fl_iadd C0 dX7_mend_71 ?_
  refine fl_putiN (k := 6) ck_3 C0 hF8 ka3 rfl (rg_wr _) ⟨rfl, rfl, rfl⟩ aw_597 dX7_mend_72 (fun H locs hF9 => ?_)
  obtain ⟨I9, eI9, hf⟩ := bnd_f hf
  rw [eI9] at hF9
  refine lv_aload_n C0.1 C0.2.1 dX7_mend_75 rfl (lv_at hl 1 rfl) ?_
  refine fl_getiN (k := 6) ck_3 C0 hF9 ka3 rfl ⟨rfl, rfl⟩ aw_597 dX7_mend_76 ?_
  cases hf
  exact fl_iretX C0 hF9 hr (hF9.rI _ _) rfl dX7_mend_79 (Nat.le_of_ble_eq_true rfl) (Nat.le_of_ble_eq_true rfl)
theorem pm_X7_mend : plainM yX7_mend 2 := by decide +kernel
set_option maxRecDepth 100000 in
set_option maxHeartbeats 4000000 in
theorem c_X7_mend (l : Launch) (hst : l.stackTraces = false) (D : va_G) (cy : Nat → ClassId) (B : Nat) (L : List Nat) (K : KT) (P : PT) (J : IT) (hWT : WT K P) (I : IT) (a0 : Nat) (x1 : Int) (x2 : Int) (ka0 : K a0 = 8) (rx1 : rg x1) (rx2 : rg x2) {co : Nat} {r : Int} {I' : IT} (hf : f_X7_mend K P I a0 x1 x2 = some (co, r, I')) : vx_Met l yX7_mend [.code yX7_mend cX7_mend 4 (some .int)] rm_X7_mend (va_Pc [.ref a0, iv x1, iv x2] (FW D cy B L K P J I)) (XI D cy B L K P J (co, r, I')) (XX D cy B L K P J (co, r, I')) 3 18 (fun q => B ≤ q) := by
  refine fl_bodyX (own := "RejudgeHall") [.ref a0, iv x1, iv x2] (by decide) rfl (Nat.le_of_ble_eq_true rfl) ?_
  intro p e s m args below meth c ls C0 hr hx0 hF hl
  have hl : lv_has ls 4 [(0, .ref a0), (1, iv x1), (2, iv x2)] := hl
  unfold f_X7_mend at hf
  refine lv_aload_n C0.1 C0.2.1 dX7_mend_0 rfl (lv_at hl 0 rfl) ?_
  refine lv_iload_n C0.1 C0.2.1 dX7_mend_1 rfl (lv_at hl 1 rfl) ?_
  obtain ⟨co1, r1, I1, hq1, hf, hg⟩ := bx_f hf
  refine fl_xr hF (fl_runVX (As := [iv x1]) (rest := []) C0 hF hl.1 ck_8 ka0 rfl (c_X7_problemAt l hst D cy B L K P J hWT I a0 x1 ka0 rx1 hq1) aw_445 aw_447 aw_20 aw_45 aw_448 rfl rfl pm_X7_problemAt rfl rfl ⟨Nat.le_of_ble_eq_true rfl, Nat.le_of_ble_eq_true rfl⟩ rfl (Nat.le_of_ble_eq_true rfl) dX7_mend_2 ⟨Nat.le_of_ble_eq_true rfl, Nat.le_of_ble_eq_true rfl⟩) (fun c1 H locs hF1 => ?_) (fun c1 H locs q ce hF1 e1 e2 e3 => fl_prop C0 hF1 hx0 c1 e1 e2 e3 (hg c1) (Nat.le_of_ble_eq_true rfl) (Nat.le_of_ble_eq_true rfl))
  replace hf := hf c1
  obtain ⟨kr1, hf⟩ := ck_f hf
  refine lv_astore_n (lv' := [(3, .ref r1), (0, .ref a0), (1, iv x1), (2, iv x2)]) C0.1 C0.2.1 dX7_mend_5 rfl hl (by decide) rfl (fun ls hl => ?_)
  refine lv_iload_n C0.1 C0.2.1 dX7_mend_6 rfl (lv_at hl 3 rfl) ?_
  refine fl_iconst C0 dX7_mend_7 ?_
  refine fl_iconst C0 dX7_mend_8 ?_
  obtain ⟨co2, r2, I2, hq2, hf, hg⟩ := bx_f hf
  refine fl_xv hF1 (fl_runSX (As := [iv x2, iv 0, iv 1]) (rest := []) C0 hF1 hl.1 (c_X7_needRange l hst D cy B L K P J hWT I1 x2 0 1 rx2 ((rgk 0 rfl)) ((rgk 1 rfl)) hq2) aw_231 aw_232 aw_45 aw_233 rfl pm_X7_needRange rfl rfl ⟨Nat.le_of_ble_eq_true rfl, Nat.le_of_ble_eq_true rfl⟩ rfl (Nat.le_of_ble_eq_true rfl) dX7_mend_9 ⟨Nat.le_of_ble_eq_true rfl, Nat.le_of_ble_eq_true rfl⟩) (fun c2 H locs hF2 => ?_) (fun c2 H locs q ce hF2 e1 e2 e3 => fl_prop C0 hF2 hx0 c2 e1 e2 e3 (hg c2) (Nat.le_of_ble_eq_true rfl) (Nat.le_of_ble_eq_true rfl))
  replace hf := hf c2
  refine lv_aload_n C0.1 C0.2.1 dX7_mend_12 rfl (lv_at hl 1 rfl) ?_
  refine fl_getr (k := 0) (t := 4) ck_8 C0 hF2 ka0 rfl (wt_at (k := 0) (t := 4) hWT ka0 rfl) rfl ⟨rfl, rfl⟩ aw_190 dX7_mend_13 ?_
  refine fl_getiN (k := 2) ck_4 C0 hF2 (wt_at (k := 0) (t := 4) hWT ka0 rfl) rfl ⟨rfl, rfl⟩ aw_87 dX7_mend_16 ?_
  refine fl_if_le (tgt := 60) C0 (hF2.rI _ _) dX7_mend_19 (by decide) (fun c3 => ?_) (fun c3 => ?_)
  · replace hf := (if_pos c3).symm.trans hf
    exact b_X7_mend_60 C0 hr hWT hst hx0  I2 x2 r1 _ _ _ rx2 kr1 hF2 (lv_sub hl [3, 0] rfl) hf
  · replace hf := (if_neg c3).symm.trans hf
    refine lv_aload_n C0.1 C0.2.1 dX7_mend_22 rfl (lv_at hl 1 rfl) ?_
    refine lv_aload_n C0.1 C0.2.1 dX7_mend_23 rfl (lv_at hl 0 rfl) ?_
    refine lv_aload_n C0.1 C0.2.1 dX7_mend_24 rfl (lv_at hl 1 rfl) ?_
    refine fl_getr (k := 0) (t := 4) ck_8 C0 hF2 ka0 rfl (wt_at (k := 0) (t := 4) hWT ka0 rfl) rfl ⟨rfl, rfl⟩ aw_190 dX7_mend_25 ?_
    obtain ⟨r4, I4, hq4, hf⟩ := bi_f hf
    refine fl_ri hF2 (fl_runV (As := [.ref r1, .ref (P a0 0)]) (rest := []) C0 hF2 hl.1 ck_8 ka0 rfl (c_X7_findsAllAnswers l D cy B L K P J hWT I2 a0 r1 ((P a0 0)) ka0 kr1 ((wt_at (k := 0) (t := 4) hWT ka0 rfl)) hq4) aw_721 aw_723 aw_41 aw_45 aw_724 rfl rfl pm_X7_findsAllAnswers rfl rfl ⟨Nat.le_of_ble_eq_true rfl, Nat.le_of_ble_eq_true rfl⟩ rfl (Nat.le_of_ble_eq_true rfl) dX7_mend_28 ⟨Nat.le_of_ble_eq_true rfl, Nat.le_of_ble_eq_true rfl⟩) (fun H locs hF4 rr4 => ?_)
    refine fl_if_ne (tgt := 44) C0 rr4 dX7_mend_31 (by decide) (fun c5 => ?_) (fun c5 => ?_)
    · replace hf := (if_neg c5).symm.trans hf
      refine lv_aload_n C0.1 C0.2.1 dX7_mend_44 rfl (lv_at hl 0 rfl) ?_
      refine fl_getrN (k := 2) (t := 4) ck_3 C0 hF4 kr1 rfl (wt_at (k := 2) (t := 4) hWT kr1 rfl) rfl ⟨rfl, rfl⟩ aw_589 dX7_mend_45 ?_
      refine lv_aload_n C0.1 C0.2.1 dX7_mend_48 rfl (lv_at hl 1 rfl) ?_
      refine fl_getr (k := 0) (t := 4) ck_8 C0 hF4 ka0 rfl (wt_at (k := 0) (t := 4) hWT ka0 rfl) rfl ⟨rfl, rfl⟩ aw_190 dX7_mend_49 ?_
      obtain ⟨I6, hq6, hf⟩ := bp_f hf
      refine fl_rv hF4 (fl_runN (As := [.ref (P a0 0)]) (rest := []) C0 hF4 hl.1 ck_4 (wt_at (k := 2) (t := 4) hWT kr1 rfl) rfl (c_X3_takeFrom l D cy B L K P J hWT I4 ((P r1 2)) ((P a0 0)) ((wt_at (k := 2) (t := 4) hWT kr1 rfl)) ((wt_at (k := 0) (t := 4) hWT ka0 rfl)) hq6) aw_613 aw_615 aw_34 aw_46 aw_616 rfl pm_X3_takeFrom rfl rfl ⟨Nat.le_of_ble_eq_true rfl, Nat.le_of_ble_eq_true rfl⟩ rfl (Nat.le_of_ble_eq_true rfl) dX7_mend_52 ⟨Nat.le_of_ble_eq_true rfl, Nat.le_of_ble_eq_true rfl⟩) (fun H locs hF6 => ?_)
      refine lv_aload_n C0.1 C0.2.1 dX7_mend_55 rfl (lv_at hl 1 rfl) ?_
      refine lv_aload_n C0.1 C0.2.1 dX7_mend_56 rfl (lv_at hl 0 rfl) ?_
      obtain ⟨I7, hq7, hf⟩ := bp_f hf
      refine fl_rv hF6 (fl_runV (As := [.ref r1]) (rest := []) C0 hF6 hl.1 ck_8 ka0 rfl (c_X7_renewAnswers l D cy B L K P J hWT I6 a0 r1 ka0 kr1 hq7) aw_726 aw_728 aw_42 aw_45 aw_729 rfl rfl pm_X7_renewAnswers rfl rfl ⟨Nat.le_of_ble_eq_true rfl, Nat.le_of_ble_eq_true rfl⟩ rfl (Nat.le_of_ble_eq_true rfl) dX7_mend_57 ⟨Nat.le_of_ble_eq_true rfl, Nat.le_of_ble_eq_true rfl⟩) (fun H locs hF7 => ?_)
      exact b_X7_mend_60 C0 hr hWT hst hx0  I7 x2 r1 _ _ _ rx2 kr1 hF7 (lv_sub hl [3, 0] rfl) hf
    · replace hf := (if_pos c5).symm.trans hf
      cases hf
      exact fl_throw C0 hF4 hst hx0 hl.1 ex_2 (by decide) (List.mem_of_getElem? (i := 7) rfl) rfl dX7_mend_34 dX7_mend_37 dX7_mend_38 dX7_mend_40 dX7_mend_43 (Nat.le_of_ble_eq_true rfl) (Nat.le_of_ble_eq_true rfl) (Nat.le_of_ble_eq_true rfl) (Nat.le_of_ble_eq_true rfl) (Nat.le_of_ble_eq_true rfl) (Nat.le_of_ble_eq_true rfl)
-- RejudgeHall.answer(III)I
abbrev rm_X7_answer : Room := { frames := 8, cells := 3, slots := 18, locals := 132 }
def f_X7_answer (K : KT) (P : PT) (I : IT) (a0 : Nat) (x1 : Int) (x2 : Int) (x3 : Int) : Option (Nat × Int × IT) := bx (f_X7_problemAt K P I a0 x1) fun r1 I1 => ck (K r1 = 3) <| bx (f_X7_needIndex K P I1 x2 ((I1 ((P r1 3)) 2))) fun _ I3 => if 0 ≤ x3 then (bp (lgetf K P I3 ((P r1 3)) x2 7) fun r5 => bp (f_X4_at K P I3 ((P r5 1)) x3) fun r6 => some (0, r6, I3)) else (some (3, 0, I3))
theorem pm_X7_answer : plainM yX7_answer 3 := by decide +kernel
set_option maxRecDepth 100000 in
set_option maxHeartbeats 4000000 in
theorem c_X7_answer (l : Launch) (hst : l.stackTraces = false) (D : va_G) (cy : Nat → ClassId) (B : Nat) (L : List Nat) (K : KT) (P : PT) (J : IT) (hWT : WT K P) (I : IT) (a0 : Nat) (x1 : Int) (x2 : Int) (x3 : Int) (ka0 : K a0 = 8) (rx1 : rg x1) (rx2 : rg x2) (rx3 : rg x3) {co : Nat} {r : Int} {I' : IT} (hf : f_X7_answer K P I a0 x1 x2 x3 = some (co, r, I')) : vx_Met l yX7_answer [.code yX7_answer cX7_answer 5 (some .int)] rm_X7_answer (va_Pc [.ref a0, iv x1, iv x2, iv x3] (FW D cy B L K P J I)) (XI D cy B L K P J (co, r, I')) (XX D cy B L K P J (co, r, I')) 3 18 (fun q => B ≤ q) := by
  refine fl_bodyX (own := "RejudgeHall") [.ref a0, iv x1, iv x2, iv x3] (by decide) rfl (Nat.le_of_ble_eq_true rfl) ?_
  intro p e s m args below meth c ls C0 hr hx0 hF hl
  have hl : lv_has ls 5 [(0, .ref a0), (1, iv x1), (2, iv x2), (3, iv x3)] := hl
  unfold f_X7_answer at hf
  refine lv_aload_n C0.1 C0.2.1 dX7_answer_0 rfl (lv_at hl 0 rfl) ?_
  refine lv_iload_n C0.1 C0.2.1 dX7_answer_1 rfl (lv_at hl 1 rfl) ?_
  obtain ⟨co1, r1, I1, hq1, hf, hg⟩ := bx_f hf
  refine fl_xr hF (fl_runVX (As := [iv x1]) (rest := []) C0 hF hl.1 ck_8 ka0 rfl (c_X7_problemAt l hst D cy B L K P J hWT I a0 x1 ka0 rx1 hq1) aw_445 aw_447 aw_20 aw_45 aw_448 rfl rfl pm_X7_problemAt rfl rfl ⟨Nat.le_of_ble_eq_true rfl, Nat.le_of_ble_eq_true rfl⟩ rfl (Nat.le_of_ble_eq_true rfl) dX7_answer_2 ⟨Nat.le_of_ble_eq_true rfl, Nat.le_of_ble_eq_true rfl⟩) (fun c1 H locs hF1 => ?_) (fun c1 H locs q ce hF1 e1 e2 e3 => fl_prop C0 hF1 hx0 c1 e1 e2 e3 (hg c1) (Nat.le_of_ble_eq_true rfl) (Nat.le_of_ble_eq_true rfl))
  replace hf := hf c1
  obtain ⟨kr1, hf⟩ := ck_f hf
  refine lv_astore (lv' := [(4, .ref r1), (0, .ref a0), (1, iv x1), (2, iv x2), (3, iv x3)]) C0.1 C0.2.1 dX7_answer_5 hl (by decide) rfl (fun ls hl => ?_)
  refine lv_iload_n C0.1 C0.2.1 dX7_answer_7 rfl (lv_at hl 3 rfl) ?_
  refine lv_aload C0.1 C0.2.1 dX7_answer_8 (lv_at hl 0 rfl) ?_
  refine fl_getrN (k := 3) (t := 12) ck_3 C0 hF1 kr1 rfl (wt_at (k := 3) (t := 12) hWT kr1 rfl) rfl ⟨rfl, rfl⟩ aw_591 dX7_answer_10 ?_
  refine fl_ri hF1 (fl_runV (As := []) (rest := [iv x2]) C0 hF1 hl.1 ck_0 (wt_at (k := 3) (t := 12) hWT kr1 rfl) rfl (c_size l D cy B L K P J I1 ((P r1 3)) 12 (wt_at (k := 3) (t := 12) hWT kr1 rfl) rfl) aw_344 aw_345 aw_346 aw_51 aw_347 rfl rfl pm_size rfl rfl ⟨Nat.le_of_ble_eq_true rfl, Nat.le_of_ble_eq_true rfl⟩ rfl (Nat.le_of_ble_eq_true rfl) dX7_answer_13 ⟨Nat.le_of_ble_eq_true rfl, Nat.le_of_ble_eq_true rfl⟩) (fun H locs hF2 _ => ?_)
  obtain ⟨co3, r3, I3, hq3, hf, hg⟩ := bx_f hf
  refine fl_xv hF2 (fl_runSX (As := [iv x2, iv (I1 ((P r1 3)) 2)]) (rest := []) C0 hF2 hl.1 (c_X7_needIndex l hst D cy B L K P J hWT I1 x2 ((I1 ((P r1 3)) 2)) rx2 ((hF2.rI _ _)) hq3) aw_449 aw_450 aw_45 aw_451 rfl pm_X7_needIndex rfl rfl ⟨Nat.le_of_ble_eq_true rfl, Nat.le_of_ble_eq_true rfl⟩ rfl (Nat.le_of_ble_eq_true rfl) dX7_answer_16 ⟨Nat.le_of_ble_eq_true rfl, Nat.le_of_ble_eq_true rfl⟩) (fun c3 H locs hF3 => ?_) (fun c3 H locs q ce hF3 e1 e2 e3 => fl_prop C0 hF3 hx0 c3 e1 e2 e3 (hg c3) (Nat.le_of_ble_eq_true rfl) (Nat.le_of_ble_eq_true rfl))
  replace hf := hf c3
  refine lv_iload_n C0.1 C0.2.1 dX7_answer_19 rfl (lv_at hl 4 rfl) ?_
  refine fl_if_ge (tgt := 33) C0 rx3 dX7_answer_20 (by decide) (fun c4 => ?_) (fun c4 => ?_)
  · replace hf := (if_pos c4).symm.trans hf
    refine lv_aload C0.1 C0.2.1 dX7_answer_33 (lv_at hl 0 rfl) ?_
    refine fl_getrN (k := 3) (t := 12) ck_3 C0 hF3 kr1 rfl (wt_at (k := 3) (t := 12) hWT kr1 rfl) rfl ⟨rfl, rfl⟩ aw_591 dX7_answer_35 ?_
    refine lv_iload_n C0.1 C0.2.1 dX7_answer_38 rfl (lv_at hl 3 rfl) ?_
    obtain ⟨r5, hq5, hf⟩ := bp_f hf
    have kr5 := lget_k hq5
    refine fl_rr hF3 (fl_runV (As := [iv x2]) (rest := []) C0 hF3 hl.1 ck_0 (wt_at (k := 3) (t := 12) hWT kr1 rfl) rfl (c_get l D cy B L K P J I3 ((P r1 3)) x2 12 7 (wt_at (k := 3) (t := 12) hWT kr1 rfl) rfl rx2 hq5) aw_348 aw_349 aw_350 aw_51 aw_351 rfl rfl pm_get rfl rfl ⟨Nat.le_of_ble_eq_true rfl, Nat.le_of_ble_eq_true rfl⟩ rfl (Nat.le_of_ble_eq_true rfl) dX7_answer_39 ⟨Nat.le_of_ble_eq_true rfl, Nat.le_of_ble_eq_true rfl⟩) (fun H locs hF5 => ?_)
    refine fl_cast ck_7 C0 hF5 kr5 rfl aw_372 dX7_answer_42 ?_
    refine fl_getrN (k := 1) (t := 5) ck_7 C0 hF5 kr5 rfl (wt_at (k := 1) (t := 5) hWT kr5 rfl) rfl ⟨rfl, rfl⟩ aw_698 dX7_answer_45 ?_
    refine lv_iload_n C0.1 C0.2.1 dX7_answer_48 rfl (lv_at hl 4 rfl) ?_
    obtain ⟨r6, hq6, hf⟩ := bp_f hf
    refine fl_ri hF5 (fl_runN (As := [iv x3]) (rest := []) C0 hF5 hl.1 ck_5 (wt_at (k := 1) (t := 5) hWT kr5 rfl) rfl (c_X4_at l D cy B L K P J hWT I3 ((P r5 1)) x3 ((wt_at (k := 1) (t := 5) hWT kr5 rfl)) rx3 hq6) aw_568 aw_391 aw_9 aw_47 aw_392 rfl pm_X4_at rfl rfl ⟨Nat.le_of_ble_eq_true rfl, Nat.le_of_ble_eq_true rfl⟩ rfl (Nat.le_of_ble_eq_true rfl) dX7_answer_49 ⟨Nat.le_of_ble_eq_true rfl, Nat.le_of_ble_eq_true rfl⟩) (fun H locs hF6 rr6 => ?_)
    cases hf
    exact fl_iretX C0 hF6 hr rr6 rfl dX7_answer_52 (Nat.le_of_ble_eq_true rfl) (Nat.le_of_ble_eq_true rfl)
  · replace hf := (if_neg c4).symm.trans hf
    cases hf
    exact fl_throw C0 hF3 hst hx0 hl.1 ex_3 (by decide) (List.mem_of_getElem? (i := 8) rfl) rfl dX7_answer_23 dX7_answer_26 dX7_answer_27 dX7_answer_29 dX7_answer_32 (Nat.le_of_ble_eq_true rfl) (Nat.le_of_ble_eq_true rfl) (Nat.le_of_ble_eq_true rfl) (Nat.le_of_ble_eq_true rfl) (Nat.le_of_ble_eq_true rfl) (Nat.le_of_ble_eq_true rfl)
-- RejudgeHall.pass(I)I
abbrev rm_X7_pass : Room := { frames := 7, cells := 2, slots := 12, locals := 112 }
def f_X7_pass (K : KT) (P : PT) (I : IT) (a0 : Nat) (x1 : Int) : Option (Nat × Int × IT) := bx (f_X7_needRange K P I x1 1 300) fun _ I1 => if (wr ((I1 a0 10) + x1)) ≤ 9999 then (bnd (up I1 a0 10 (wr ((I1 a0 10) + x1))) fun I3 => some (0, (I3 a0 10), I3)) else (some (2, 0, I1))
theorem pm_X7_pass : plainM yX7_pass 1 := by decide +kernel
set_option maxRecDepth 100000 in
set_option maxHeartbeats 4000000 in
theorem c_X7_pass (l : Launch) (hst : l.stackTraces = false) (D : va_G) (cy : Nat → ClassId) (B : Nat) (L : List Nat) (K : KT) (P : PT) (J : IT) (hWT : WT K P) (I : IT) (a0 : Nat) (x1 : Int) (ka0 : K a0 = 8) (rx1 : rg x1) {co : Nat} {r : Int} {I' : IT} (hf : f_X7_pass K P I a0 x1 = some (co, r, I')) : vx_Met l yX7_pass [.code yX7_pass cX7_pass 2 (some .int)] rm_X7_pass (va_Pc [.ref a0, iv x1] (FW D cy B L K P J I)) (XI D cy B L K P J (co, r, I')) (XX D cy B L K P J (co, r, I')) 2 12 (fun q => B ≤ q) := by
  refine fl_bodyX (own := "RejudgeHall") [.ref a0, iv x1] (by decide) rfl (Nat.le_of_ble_eq_true rfl) ?_
  intro p e s m args below meth c ls C0 hr hx0 hF hl
  have hl : lv_has ls 2 [(0, .ref a0), (1, iv x1)] := hl
  unfold f_X7_pass at hf
  refine lv_iload_n C0.1 C0.2.1 dX7_pass_0 rfl (lv_at hl 1 rfl) ?_
  refine fl_iconst C0 dX7_pass_1 ?_
  refine fl_sipush C0 dX7_pass_2 (by decide) ?_
  obtain ⟨co1, r1, I1, hq1, hf, hg⟩ := bx_f hf
  refine fl_xv hF (fl_runSX (As := [iv x1, iv 1, iv 300]) (rest := []) C0 hF hl.1 (c_X7_needRange l hst D cy B L K P J hWT I x1 1 300 rx1 ((rgk 1 rfl)) ((rgk 300 rfl)) hq1) aw_231 aw_232 aw_45 aw_233 rfl pm_X7_needRange rfl rfl ⟨Nat.le_of_ble_eq_true rfl, Nat.le_of_ble_eq_true rfl⟩ rfl (Nat.le_of_ble_eq_true rfl) dX7_pass_5 ⟨Nat.le_of_ble_eq_true rfl, Nat.le_of_ble_eq_true rfl⟩) (fun c1 H locs hF1 => ?_) (fun c1 H locs q ce hF1 e1 e2 e3 => fl_prop C0 hF1 hx0 c1 e1 e2 e3 (hg c1) (Nat.le_of_ble_eq_true rfl) (Nat.le_of_ble_eq_true rfl))
  replace hf := hf c1
  refine lv_aload_n C0.1 C0.2.1 dX7_pass_8 rfl (lv_at hl 0 rfl) ?_
  refine fl_geti (k := 10) ck_8 C0 hF1 ka0 rfl ⟨rfl, rfl⟩ aw_200 dX7_pass_9 ?_
  refine lv_iload_n C0.1 C0.2.1 dX7_pass_12 rfl (lv_at hl 1 rfl) ?_
  refine fl_iadd C0 dX7_pass_13 ?_
  refine fl_sipush C0 dX7_pass_14 (by decide) ?_
  refine fl_icmp_le (tgt := 30) C0 (rg_wr _) (rgk 9999 rfl) dX7_pass_17 (by decide) (fun c2 => ?_) (fun c2 => ?_)
  · replace hf := (if_pos c2).symm.trans hf
    refine lv_aload_n C0.1 C0.2.1 dX7_pass_30 rfl (lv_at hl 0 rfl) ?_
    refine lv_dup C0.1 C0.2.1 dX7_pass_31 rfl ?_
    refine fl_geti (k := 10) ck_8 C0 hF1 ka0 rfl ⟨rfl, rfl⟩ aw_200 dX7_pass_32 ?_
    refine lv_iload_n C0.1 C0.2.1 dX7_pass_35 rfl (lv_at hl 1 rfl) ?_
    refine fl_iadd C0 dX7_pass_36 ?_
    refine fl_puti (k := 10) ck_8 C0 hF1 ka0 rfl (rg_wr _) ⟨rfl, rfl, rfl⟩ aw_200 dX7_pass_37 (fun H locs hF3 => ?_)
    obtain ⟨I3, eI3, hf⟩ := bnd_f hf
    rw [eI3] at hF3
    refine lv_aload_n C0.1 C0.2.1 dX7_pass_40 rfl (lv_at hl 0 rfl) ?_
    refine fl_geti (k := 10) ck_8 C0 hF3 ka0 rfl ⟨rfl, rfl⟩ aw_200 dX7_pass_41 ?_
    cases hf
    exact fl_iretX C0 hF3 hr (hF3.rI _ _) rfl dX7_pass_44 (Nat.le_of_ble_eq_true rfl) (Nat.le_of_ble_eq_true rfl)
  · replace hf := (if_neg c2).symm.trans hf
    cases hf
    exact fl_throw C0 hF1 hst hx0 hl.1 ex_2 (by decide) (List.mem_of_getElem? (i := 10) rfl) rfl dX7_pass_20 dX7_pass_23 dX7_pass_24 dX7_pass_26 dX7_pass_29 (Nat.le_of_ble_eq_true rfl) (Nat.le_of_ble_eq_true rfl) (Nat.le_of_ble_eq_true rfl) (Nat.le_of_ble_eq_true rfl) (Nat.le_of_ble_eq_true rfl) (Nat.le_of_ble_eq_true rfl)
-- RejudgeHall.rejudge(I)I
abbrev rm_X7_rejudge : Room := { frames := 8, cells := 1, slots := 6, locals := 132 }
def f_X7_rejudge_80 (K : KT) (P : PT) (k11 : IT → Nat → Nat → Int → Int → Option (Nat × Int × IT)) (I : IT) (a0 : Nat) (a2 : Nat) (x3 : Int) (x4 : Int) : Option (Nat × Int × IT) := k11 I a0 a2 x3 ((wr (x4 + 1)))
def f_X7_rejudge_11 (K : KT) (P : PT) : Nat → IT → Nat → Nat → Int → Int → Option (Nat × Int × IT)
  | 0, _, _, _, _, _ => none
  | n + 1, I, a0, a2, x3, x4 => if (I ((P a0 4)) 2) ≤ x4 then (some (0, x3, I)) else (bp (lgetf K P I ((P a0 4)) x4 1) fun r4 => if (I ((P r4 1)) 0) = (I a2 0) then (bp (f_X0_waits K P I r4) fun r6 => if r6 = 0 then (if (I r4 7) = (I a2 6) then (f_X7_rejudge_80 K P ((f_X7_rejudge_11 K P  n)) I a0 a2 x3 x4) else (bp (f_X0_letWait K P I r4) fun I9 => f_X7_rejudge_80 K P ((f_X7_rejudge_11 K P  n)) I9 a0 a2 ((wr (x3 + 1))) x4)) else (f_X7_rejudge_80 K P ((f_X7_rejudge_11 K P  n)) I a0 a2 x3 x4)) else (f_X7_rejudge_80 K P ((f_X7_rejudge_11 K P  n)) I a0 a2 x3 x4))
def f_X7_rejudge (K : KT) (P : PT) (I : IT) (a0 : Nat) (x1 : Int) : Option (Nat × Int × IT) := bx (f_X7_problemAt K P I a0 x1) fun r1 I1 => ck (K r1 = 3) <| f_X7_rejudge_11 K P  FU I1 a0 r1 0 0
abbrev G_X7_rejudge_80 (p : Program) (l : Launch) (e : Env) (s : State) (m : MethodId) (args : Array Value) (below : List Frame) (meth : Method) (c : Code) (D : va_G) (cy : Nat → ClassId) (B : Nat) (L : List Nat) (K : KT) (P : PT) (J : IT) (res : Nat × Int × IT) (f : IT → Nat → Nat → Int → Int → Option (Nat × Int × IT)) : Prop := ∀ (I : IT) (a0 : Nat) (a2 : Nat) (x3 : Int) (x4 : Int) (H : Heap) (locs : List Loc) (ls : Array Slot), K a0 = 8 → K a2 = 3 → rg x3 → rg x4 → FS D cy B L K P J s.heap I H locs → lv_has ls 6 [(0, .ref a0), (2, .ref a2), (3, iv x3), (4, iv x4)] → f I a0 a2 x3 x4 = some res → W p l e rm_X7_rejudge s m args below meth c H locs 1 6 (vx_MQ below (XI D cy B L K P J res) (XX D cy B L K P J res) args s 1 6 (fun q => B ≤ q)) (F0 m 80 ls [])
abbrev G_X7_rejudge_11 (p : Program) (l : Launch) (e : Env) (s : State) (m : MethodId) (args : Array Value) (below : List Frame) (meth : Method) (c : Code) (D : va_G) (cy : Nat → ClassId) (B : Nat) (L : List Nat) (K : KT) (P : PT) (J : IT) (res : Nat × Int × IT) (f : IT → Nat → Nat → Int → Int → Option (Nat × Int × IT)) : Prop := ∀ (I : IT) (a0 : Nat) (a2 : Nat) (x3 : Int) (x4 : Int) (H : Heap) (locs : List Loc) (ls : Array Slot), K a0 = 8 → K a2 = 3 → rg x3 → rg x4 → FS D cy B L K P J s.heap I H locs → lv_has ls 6 [(0, .ref a0), (2, .ref a2), (3, iv x3), (4, iv x4)] → f I a0 a2 x3 x4 = some res → W p l e rm_X7_rejudge s m args below meth c H locs 1 6 (vx_MQ below (XI D cy B L K P J res) (XX D cy B L K P J res) args s 1 6 (fun q => B ≤ q)) (F0 m 11 ls [])
set_option maxRecDepth 100000 in
set_option maxHeartbeats 4000000 in
theorem b_X7_rejudge_80 {p : Program} {l : Launch} {e : Env} {s : State} {m : MethodId} {args : Array Value} {below : List Frame} {meth : Method} {c : Code} {D : va_G} {cy : Nat → ClassId} {B : Nat} {L : List Nat} {K : KT} {P : PT} {J : IT} {res : Nat × Int × IT} (C0 : FC D cy B p s m meth c "RejudgeHall" cX7_rejudge 6) (hr : meth.sig.returnType = (some .int)) (hWT : WT K P) (hst : l.stackTraces = false) (hx0 : ∀ x ∈ c.exceptionTable.toList, False) {k11 : IT → Nat → Nat → Int → Int → Option (Nat × Int × IT)} (hk11 : G_X7_rejudge_11 p l e s m args below meth c D cy B L K P J res k11) : G_X7_rejudge_80 p l e s m args below meth c D cy B L K P J res (f_X7_rejudge_80 K P k11) := by
  intro I a0 a2 x3 x4 H locs ls ka0 ka2 rx3 rx4 hF hl hf
  unfold f_X7_rejudge_80 at hf
  refine fl_iinc (lv' := [(4, iv (wr (x4 + 1))), (0, .ref a0), (2, .ref a2), (3, iv x3)]) C0 dX7_rejudge_80 hl (k := 3) rfl (by decide) rfl (fun ls hl => ?_)
  refine fl_goto (tgt := 11) C0 dX7_rejudge_83 (by decide) ?_
  exact hk11 I a0 a2 x3 ((wr (x4 + 1))) _ _ _ ka0 ka2 rx3 ((rg_wr _)) hF (lv_sub hl [1, 2, 3, 0] rfl) hf
set_option maxRecDepth 100000 in
set_option maxHeartbeats 4000000 in
theorem b_X7_rejudge_11 {p : Program} {l : Launch} {e : Env} {s : State} {m : MethodId} {args : Array Value} {below : List Frame} {meth : Method} {c : Code} {D : va_G} {cy : Nat → ClassId} {B : Nat} {L : List Nat} {K : KT} {P : PT} {J : IT} {res : Nat × Int × IT} (C0 : FC D cy B p s m meth c "RejudgeHall" cX7_rejudge 6) (hr : meth.sig.returnType = (some .int)) (hWT : WT K P) (hst : l.stackTraces = false) (hx0 : ∀ x ∈ c.exceptionTable.toList, False) : ∀ n : Nat, G_X7_rejudge_11 p l e s m args below meth c D cy B L K P J res (f_X7_rejudge_11 K P  n)
  | 0 => by
    intro I a0 a2 x3 x4 H locs ls ka0 ka2 rx3 rx4 hF hl hf
    cases hf
  | n + 1 => by
    have ih : G_X7_rejudge_11 p l e s m args below meth c D cy B L K P J res (f_X7_rejudge_11 K P  n)  := b_X7_rejudge_11 C0 hr hWT hst hx0  n
    intro I a0 a2 x3 x4 H locs ls ka0 ka2 rx3 rx4 hF hl hf
    rw [f_X7_rejudge_11] at hf
    refine lv_iload C0.1 C0.2.1 dX7_rejudge_11 (lv_at hl 3 rfl) ?_
    refine lv_aload_n C0.1 C0.2.1 dX7_rejudge_13 rfl (lv_at hl 0 rfl) ?_
    refine fl_getr (k := 4) (t := 11) ck_8 C0 hF ka0 rfl (wt_at (k := 4) (t := 11) hWT ka0 rfl) rfl ⟨rfl, rfl⟩ aw_194 dX7_rejudge_14 ?_
    refine fl_ri hF (fl_runV (As := []) (rest := [iv x4]) C0 hF hl.1 ck_0 (wt_at (k := 4) (t := 11) hWT ka0 rfl) rfl (c_size l D cy B L K P J I ((P a0 4)) 11 (wt_at (k := 4) (t := 11) hWT ka0 rfl) rfl) aw_344 aw_345 aw_346 aw_51 aw_347 rfl rfl pm_size rfl rfl ⟨Nat.le_of_ble_eq_true rfl, Nat.le_of_ble_eq_true rfl⟩ rfl (Nat.le_of_ble_eq_true rfl) dX7_rejudge_17 ⟨Nat.le_of_ble_eq_true rfl, Nat.le_of_ble_eq_true rfl⟩) (fun H locs hF2 _ => ?_)
    refine fl_icmp_ge (tgt := 86) C0 rx4 (hF2.rI _ _) dX7_rejudge_20 (by decide) (fun c3 => ?_) (fun c3 => ?_)
    · replace hf := (if_pos c3).symm.trans hf
      refine lv_iload_n C0.1 C0.2.1 dX7_rejudge_86 rfl (lv_at hl 2 rfl) ?_
      cases hf
      exact fl_iretX C0 hF2 hr rx3 rfl dX7_rejudge_87 (Nat.le_of_ble_eq_true rfl) (Nat.le_of_ble_eq_true rfl)
    · replace hf := (if_neg c3).symm.trans hf
      refine lv_aload_n C0.1 C0.2.1 dX7_rejudge_23 rfl (lv_at hl 0 rfl) ?_
      refine fl_getr (k := 4) (t := 11) ck_8 C0 hF2 ka0 rfl (wt_at (k := 4) (t := 11) hWT ka0 rfl) rfl ⟨rfl, rfl⟩ aw_194 dX7_rejudge_24 ?_
      refine lv_iload C0.1 C0.2.1 dX7_rejudge_27 (lv_at hl 3 rfl) ?_
      obtain ⟨r4, hq4, hf⟩ := bp_f hf
      have kr4 := lget_k hq4
      refine fl_rr hF2 (fl_runV (As := [iv x4]) (rest := []) C0 hF2 hl.1 ck_0 (wt_at (k := 4) (t := 11) hWT ka0 rfl) rfl (c_get l D cy B L K P J I ((P a0 4)) x4 11 1 (wt_at (k := 4) (t := 11) hWT ka0 rfl) rfl rx4 hq4) aw_348 aw_349 aw_350 aw_51 aw_351 rfl rfl pm_get rfl rfl ⟨Nat.le_of_ble_eq_true rfl, Nat.le_of_ble_eq_true rfl⟩ rfl (Nat.le_of_ble_eq_true rfl) dX7_rejudge_29 ⟨Nat.le_of_ble_eq_true rfl, Nat.le_of_ble_eq_true rfl⟩) (fun H locs hF4 => ?_)
      refine fl_cast ck_1 C0 hF4 kr4 rfl aw_362 dX7_rejudge_32 ?_
      refine lv_astore (lv' := [(5, .ref r4), (0, .ref a0), (2, .ref a2), (3, iv x3), (4, iv x4)]) C0.1 C0.2.1 dX7_rejudge_35 hl (by decide) rfl (fun ls hl => ?_)
      refine lv_aload C0.1 C0.2.1 dX7_rejudge_37 (lv_at hl 0 rfl) ?_
      refine fl_getrN (k := 1) (t := 3) ck_1 C0 hF4 kr4 rfl (wt_at (k := 1) (t := 3) hWT kr4 rfl) rfl ⟨rfl, rfl⟩ aw_752 dX7_rejudge_39 ?_
      refine fl_getiN (k := 0) ck_3 C0 hF4 (wt_at (k := 1) (t := 3) hWT kr4 rfl) rfl ⟨rfl, rfl⟩ aw_585 dX7_rejudge_42 ?_
      refine lv_aload_n C0.1 C0.2.1 dX7_rejudge_45 rfl (lv_at hl 2 rfl) ?_
      refine fl_getiN (k := 0) ck_3 C0 hF4 ka2 rfl ⟨rfl, rfl⟩ aw_585 dX7_rejudge_46 ?_
      refine fl_icmp_ne (tgt := 80) C0 (hF4.rI _ _) (hF4.rI _ _) dX7_rejudge_49 (by decide) (fun c5 => ?_) (fun c5 => ?_)
      · replace hf := (if_neg c5).symm.trans hf
        exact b_X7_rejudge_80 C0 hr hWT hst hx0 ih I a0 a2 x3 x4 _ _ _ ka0 ka2 rx3 rx4 hF4 (lv_sub hl [1, 2, 3, 4] rfl) hf
      · replace hf := (if_pos c5).symm.trans hf
        refine lv_aload C0.1 C0.2.1 dX7_rejudge_52 (lv_at hl 0 rfl) ?_
        obtain ⟨r6, hq6, hf⟩ := bp_f hf
        refine fl_ri hF4 (fl_runN (As := []) (rest := []) C0 hF4 hl.1 ck_1 kr4 rfl (c_X0_waits l D cy B L K P J hWT I r4 kr4 hq6) aw_363 aw_365 aw_3 aw_67 aw_367 rfl pm_X0_waits rfl rfl ⟨Nat.le_of_ble_eq_true rfl, Nat.le_of_ble_eq_true rfl⟩ rfl (Nat.le_of_ble_eq_true rfl) dX7_rejudge_54 ⟨Nat.le_of_ble_eq_true rfl, Nat.le_of_ble_eq_true rfl⟩) (fun H locs hF6 rr6 => ?_)
        refine fl_if_ne (tgt := 80) C0 rr6 dX7_rejudge_57 (by decide) (fun c7 => ?_) (fun c7 => ?_)
        · replace hf := (if_neg c7).symm.trans hf
          exact b_X7_rejudge_80 C0 hr hWT hst hx0 ih I a0 a2 x3 x4 _ _ _ ka0 ka2 rx3 rx4 hF6 (lv_sub hl [1, 2, 3, 4] rfl) hf
        · replace hf := (if_pos c7).symm.trans hf
          refine lv_aload C0.1 C0.2.1 dX7_rejudge_60 (lv_at hl 0 rfl) ?_
          refine fl_getiN (k := 7) ck_1 C0 hF6 kr4 rfl ⟨rfl, rfl⟩ aw_765 dX7_rejudge_62 ?_
          refine lv_aload_n C0.1 C0.2.1 dX7_rejudge_65 rfl (lv_at hl 2 rfl) ?_
          refine fl_getiN (k := 6) ck_3 C0 hF6 ka2 rfl ⟨rfl, rfl⟩ aw_597 dX7_rejudge_66 ?_
          refine fl_icmp_eq (tgt := 80) C0 (hF6.rI _ _) (hF6.rI _ _) dX7_rejudge_69 (by decide) (fun c8 => ?_) (fun c8 => ?_)
          · replace hf := (if_pos c8).symm.trans hf
            exact b_X7_rejudge_80 C0 hr hWT hst hx0 ih I a0 a2 x3 x4 _ _ _ ka0 ka2 rx3 rx4 hF6 (lv_sub hl [1, 2, 3, 4] rfl) hf
          · replace hf := (if_neg c8).symm.trans hf
            refine lv_aload C0.1 C0.2.1 dX7_rejudge_72 (lv_at hl 0 rfl) ?_
            obtain ⟨I9, hq9, hf⟩ := bp_f hf
            refine fl_rv hF6 (fl_runN (As := []) (rest := []) C0 hF6 hl.1 ck_1 kr4 rfl (c_X0_letWait l D cy B L K P J hWT I r4 kr4 hq9) aw_469 aw_471 aw_21 aw_67 aw_472 rfl pm_X0_letWait rfl rfl ⟨Nat.le_of_ble_eq_true rfl, Nat.le_of_ble_eq_true rfl⟩ rfl (Nat.le_of_ble_eq_true rfl) dX7_rejudge_74 ⟨Nat.le_of_ble_eq_true rfl, Nat.le_of_ble_eq_true rfl⟩) (fun H locs hF9 => ?_)
            refine fl_iinc (lv' := [(3, iv (wr (x3 + 1))), (5, .ref r4), (0, .ref a0), (2, .ref a2), (4, iv x4)]) C0 dX7_rejudge_77 hl (k := 3) rfl (by decide) rfl (fun ls hl => ?_)
            exact b_X7_rejudge_80 C0 hr hWT hst hx0 ih I9 a0 a2 ((wr (x3 + 1))) x4 _ _ _ ka0 ka2 ((rg_wr _)) rx4 hF9 (lv_sub hl [2, 3, 0, 4] rfl) hf
theorem pm_X7_rejudge : plainM yX7_rejudge 1 := by decide +kernel
set_option maxRecDepth 100000 in
set_option maxHeartbeats 4000000 in
theorem c_X7_rejudge (l : Launch) (hst : l.stackTraces = false) (D : va_G) (cy : Nat → ClassId) (B : Nat) (L : List Nat) (K : KT) (P : PT) (J : IT) (hWT : WT K P) (I : IT) (a0 : Nat) (x1 : Int) (ka0 : K a0 = 8) (rx1 : rg x1) {co : Nat} {r : Int} {I' : IT} (hf : f_X7_rejudge K P I a0 x1 = some (co, r, I')) : vx_Met l yX7_rejudge [.code yX7_rejudge cX7_rejudge 6 (some .int)] rm_X7_rejudge (va_Pc [.ref a0, iv x1] (FW D cy B L K P J I)) (XI D cy B L K P J (co, r, I')) (XX D cy B L K P J (co, r, I')) 1 6 (fun q => B ≤ q) := by
  refine fl_bodyX (own := "RejudgeHall") [.ref a0, iv x1] (by decide) rfl (Nat.le_of_ble_eq_true rfl) ?_
  intro p e s m args below meth c ls C0 hr hx0 hF hl
  have hl : lv_has ls 6 [(0, .ref a0), (1, iv x1)] := hl
  unfold f_X7_rejudge at hf
  refine lv_aload_n C0.1 C0.2.1 dX7_rejudge_0 rfl (lv_at hl 0 rfl) ?_
  refine lv_iload_n C0.1 C0.2.1 dX7_rejudge_1 rfl (lv_at hl 1 rfl) ?_
  obtain ⟨co1, r1, I1, hq1, hf, hg⟩ := bx_f hf
  refine fl_xr hF (fl_runVX (As := [iv x1]) (rest := []) C0 hF hl.1 ck_8 ka0 rfl (c_X7_problemAt l hst D cy B L K P J hWT I a0 x1 ka0 rx1 hq1) aw_445 aw_447 aw_20 aw_45 aw_448 rfl rfl pm_X7_problemAt rfl rfl ⟨Nat.le_of_ble_eq_true rfl, Nat.le_of_ble_eq_true rfl⟩ rfl (Nat.le_of_ble_eq_true rfl) dX7_rejudge_2 ⟨Nat.le_of_ble_eq_true rfl, Nat.le_of_ble_eq_true rfl⟩) (fun c1 H locs hF1 => ?_) (fun c1 H locs q ce hF1 e1 e2 e3 => fl_prop C0 hF1 hx0 c1 e1 e2 e3 (hg c1) (Nat.le_of_ble_eq_true rfl) (Nat.le_of_ble_eq_true rfl))
  replace hf := hf c1
  obtain ⟨kr1, hf⟩ := ck_f hf
  refine lv_astore_n (lv' := [(2, .ref r1), (0, .ref a0), (1, iv x1)]) C0.1 C0.2.1 dX7_rejudge_5 rfl hl (by decide) rfl (fun ls hl => ?_)
  refine fl_iconst C0 dX7_rejudge_6 ?_
  refine lv_istore_n (lv' := [(3, iv 0), (2, .ref r1), (0, .ref a0), (1, iv x1)]) C0.1 C0.2.1 dX7_rejudge_7 rfl hl (by decide) rfl (fun ls hl => ?_)
  refine fl_iconst C0 dX7_rejudge_8 ?_
  refine lv_istore (lv' := [(4, iv 0), (3, iv 0), (2, .ref r1), (0, .ref a0), (1, iv x1)]) C0.1 C0.2.1 dX7_rejudge_9 hl (by decide) rfl (fun ls hl => ?_)
  exact b_X7_rejudge_11 C0 hr hWT hst hx0  FU I1 a0 r1 0 0 _ _ _ ka0 kr1 ((rgk 0 rfl)) ((rgk 0 rfl)) hF1 (lv_sub hl [3, 2, 1, 0] rfl) hf
-- RejudgeHall.entry(II)I
abbrev rm_X7_entry : Room := { frames := 8, cells := 2, slots := 12, locals := 132 }
def f_X7_entry (K : KT) (P : PT) (I : IT) (a0 : Nat) (x1 : Int) (x2 : Int) : Option (Nat × Int × IT) := bx (f_X7_entryAt K P I a0 x1) fun r1 I1 => ck (K r1 = 1) <| bx (f_X7_needRange K P I1 x2 0 6) fun _ I2 => if x2 = 0 then (some (0, (I2 r1 4), I2)) else if x2 = 1 then (some (0, (I2 r1 5), I2)) else if x2 = 2 then (some (0, (I2 r1 6), I2)) else if x2 = 3 then (some (0, (I2 r1 7), I2)) else if x2 = 4 then (some (0, (I2 r1 0), I2)) else if x2 = 5 then (some (0, (I2 ((P r1 1)) 0), I2)) else (some (0, (I2 r1 2), I2))
theorem pm_X7_entry : plainM yX7_entry 2 := by decide +kernel
set_option maxRecDepth 100000 in
set_option maxHeartbeats 4000000 in
theorem c_X7_entry (l : Launch) (hst : l.stackTraces = false) (D : va_G) (cy : Nat → ClassId) (B : Nat) (L : List Nat) (K : KT) (P : PT) (J : IT) (hWT : WT K P) (I : IT) (a0 : Nat) (x1 : Int) (x2 : Int) (ka0 : K a0 = 8) (rx1 : rg x1) (rx2 : rg x2) {co : Nat} {r : Int} {I' : IT} (hf : f_X7_entry K P I a0 x1 x2 = some (co, r, I')) : vx_Met l yX7_entry [.code yX7_entry cX7_entry 4 (some .int)] rm_X7_entry (va_Pc [.ref a0, iv x1, iv x2] (FW D cy B L K P J I)) (XI D cy B L K P J (co, r, I')) (XX D cy B L K P J (co, r, I')) 2 12 (fun q => B ≤ q) := by
  refine fl_bodyX (own := "RejudgeHall") [.ref a0, iv x1, iv x2] (by decide) rfl (Nat.le_of_ble_eq_true rfl) ?_
  intro p e s m args below meth c ls C0 hr hx0 hF hl
  have hl : lv_has ls 4 [(0, .ref a0), (1, iv x1), (2, iv x2)] := hl
  unfold f_X7_entry at hf
  refine lv_aload_n C0.1 C0.2.1 dX7_entry_0 rfl (lv_at hl 0 rfl) ?_
  refine lv_iload_n C0.1 C0.2.1 dX7_entry_1 rfl (lv_at hl 1 rfl) ?_
  obtain ⟨co1, r1, I1, hq1, hf, hg⟩ := bx_f hf
  refine fl_xr hF (fl_runVX (As := [iv x1]) (rest := []) C0 hF hl.1 ck_8 ka0 rfl (c_X7_entryAt l hst D cy B L K P J hWT I a0 x1 ka0 rx1 hq1) aw_477 aw_479 aw_22 aw_45 aw_480 rfl rfl pm_X7_entryAt rfl rfl ⟨Nat.le_of_ble_eq_true rfl, Nat.le_of_ble_eq_true rfl⟩ rfl (Nat.le_of_ble_eq_true rfl) dX7_entry_2 ⟨Nat.le_of_ble_eq_true rfl, Nat.le_of_ble_eq_true rfl⟩) (fun c1 H locs hF1 => ?_) (fun c1 H locs q ce hF1 e1 e2 e3 => fl_prop C0 hF1 hx0 c1 e1 e2 e3 (hg c1) (Nat.le_of_ble_eq_true rfl) (Nat.le_of_ble_eq_true rfl))
  replace hf := hf c1
  obtain ⟨kr1, hf⟩ := ck_f hf
  refine lv_astore_n (lv' := [(3, .ref r1), (0, .ref a0), (1, iv x1), (2, iv x2)]) C0.1 C0.2.1 dX7_entry_5 rfl hl (by decide) rfl (fun ls hl => ?_)
  refine lv_iload_n C0.1 C0.2.1 dX7_entry_6 rfl (lv_at hl 3 rfl) ?_
  refine fl_iconst C0 dX7_entry_7 ?_
  refine fl_bipush C0 dX7_entry_8 (by decide) ?_
  obtain ⟨co2, r2, I2, hq2, hf, hg⟩ := bx_f hf
  refine fl_xv hF1 (fl_runSX (As := [iv x2, iv 0, iv 6]) (rest := []) C0 hF1 hl.1 (c_X7_needRange l hst D cy B L K P J hWT I1 x2 0 6 rx2 ((rgk 0 rfl)) ((rgk 6 rfl)) hq2) aw_231 aw_232 aw_45 aw_233 rfl pm_X7_needRange rfl rfl ⟨Nat.le_of_ble_eq_true rfl, Nat.le_of_ble_eq_true rfl⟩ rfl (Nat.le_of_ble_eq_true rfl) dX7_entry_10 ⟨Nat.le_of_ble_eq_true rfl, Nat.le_of_ble_eq_true rfl⟩) (fun c2 H locs hF2 => ?_) (fun c2 H locs q ce hF2 e1 e2 e3 => fl_prop C0 hF2 hx0 c2 e1 e2 e3 (hg c2) (Nat.le_of_ble_eq_true rfl) (Nat.le_of_ble_eq_true rfl))
  replace hf := hf c2
  refine lv_iload_n C0.1 C0.2.1 dX7_entry_13 rfl (lv_at hl 3 rfl) ?_
  rcases Classical.em (x2 = 0) with c3 | c3
  · replace hf := (if_pos c3).symm.trans hf
    refine fl_tableIn (v := 0) (tgt := 52) C0 rx2 dX7_entry_14 c3 (by decide) rfl (by decide) ?_
    refine lv_aload_n C0.1 C0.2.1 dX7_entry_52 rfl (lv_at hl 0 rfl) ?_
    refine fl_getiN (k := 4) ck_1 C0 hF2 kr1 rfl ⟨rfl, rfl⟩ aw_759 dX7_entry_53 ?_
    cases hf
    exact fl_iretX C0 hF2 hr (hF2.rI _ _) rfl dX7_entry_56 (Nat.le_of_ble_eq_true rfl) (Nat.le_of_ble_eq_true rfl)
  · replace hf := (if_neg c3).symm.trans hf
    rcases Classical.em (x2 = 1) with c4 | c4
    · replace hf := (if_pos c4).symm.trans hf
      refine fl_tableIn (v := 1) (tgt := 57) C0 rx2 dX7_entry_14 c4 (by decide) rfl (by decide) ?_
      refine lv_aload_n C0.1 C0.2.1 dX7_entry_57 rfl (lv_at hl 0 rfl) ?_
      refine fl_getiN (k := 5) ck_1 C0 hF2 kr1 rfl ⟨rfl, rfl⟩ aw_761 dX7_entry_58 ?_
      cases hf
      exact fl_iretX C0 hF2 hr (hF2.rI _ _) rfl dX7_entry_61 (Nat.le_of_ble_eq_true rfl) (Nat.le_of_ble_eq_true rfl)
    · replace hf := (if_neg c4).symm.trans hf
      rcases Classical.em (x2 = 2) with c5 | c5
      · replace hf := (if_pos c5).symm.trans hf
        refine fl_tableIn (v := 2) (tgt := 62) C0 rx2 dX7_entry_14 c5 (by decide) rfl (by decide) ?_
        refine lv_aload_n C0.1 C0.2.1 dX7_entry_62 rfl (lv_at hl 0 rfl) ?_
        refine fl_getiN (k := 6) ck_1 C0 hF2 kr1 rfl ⟨rfl, rfl⟩ aw_763 dX7_entry_63 ?_
        cases hf
        exact fl_iretX C0 hF2 hr (hF2.rI _ _) rfl dX7_entry_66 (Nat.le_of_ble_eq_true rfl) (Nat.le_of_ble_eq_true rfl)
      · replace hf := (if_neg c5).symm.trans hf
        rcases Classical.em (x2 = 3) with c6 | c6
        · replace hf := (if_pos c6).symm.trans hf
          refine fl_tableIn (v := 3) (tgt := 67) C0 rx2 dX7_entry_14 c6 (by decide) rfl (by decide) ?_
          refine lv_aload_n C0.1 C0.2.1 dX7_entry_67 rfl (lv_at hl 0 rfl) ?_
          refine fl_getiN (k := 7) ck_1 C0 hF2 kr1 rfl ⟨rfl, rfl⟩ aw_765 dX7_entry_68 ?_
          cases hf
          exact fl_iretX C0 hF2 hr (hF2.rI _ _) rfl dX7_entry_71 (Nat.le_of_ble_eq_true rfl) (Nat.le_of_ble_eq_true rfl)
        · replace hf := (if_neg c6).symm.trans hf
          rcases Classical.em (x2 = 4) with c7 | c7
          · replace hf := (if_pos c7).symm.trans hf
            refine fl_tableIn (v := 4) (tgt := 72) C0 rx2 dX7_entry_14 c7 (by decide) rfl (by decide) ?_
            refine lv_aload_n C0.1 C0.2.1 dX7_entry_72 rfl (lv_at hl 0 rfl) ?_
            refine fl_getiN (k := 0) ck_1 C0 hF2 kr1 rfl ⟨rfl, rfl⟩ aw_749 dX7_entry_73 ?_
            cases hf
            exact fl_iretX C0 hF2 hr (hF2.rI _ _) rfl dX7_entry_76 (Nat.le_of_ble_eq_true rfl) (Nat.le_of_ble_eq_true rfl)
          · replace hf := (if_neg c7).symm.trans hf
            rcases Classical.em (x2 = 5) with c8 | c8
            · replace hf := (if_pos c8).symm.trans hf
              refine fl_tableIn (v := 5) (tgt := 77) C0 rx2 dX7_entry_14 c8 (by decide) rfl (by decide) ?_
              refine lv_aload_n C0.1 C0.2.1 dX7_entry_77 rfl (lv_at hl 0 rfl) ?_
              refine fl_getrN (k := 1) (t := 3) ck_1 C0 hF2 kr1 rfl (wt_at (k := 1) (t := 3) hWT kr1 rfl) rfl ⟨rfl, rfl⟩ aw_752 dX7_entry_78 ?_
              refine fl_getiN (k := 0) ck_3 C0 hF2 (wt_at (k := 1) (t := 3) hWT kr1 rfl) rfl ⟨rfl, rfl⟩ aw_585 dX7_entry_81 ?_
              cases hf
              exact fl_iretX C0 hF2 hr (hF2.rI _ _) rfl dX7_entry_84 (Nat.le_of_ble_eq_true rfl) (Nat.le_of_ble_eq_true rfl)
            · replace hf := (if_neg c8).symm.trans hf
              refine fl_tableOut (tgt := 85) C0 rx2 dX7_entry_14 (by omega) (by decide) ?_
              refine lv_aload_n C0.1 C0.2.1 dX7_entry_85 rfl (lv_at hl 0 rfl) ?_
              refine fl_getiN (k := 2) ck_1 C0 hF2 kr1 rfl ⟨rfl, rfl⟩ aw_755 dX7_entry_86 ?_
              cases hf
              exact fl_iretX C0 hF2 hr (hF2.rI _ _) rfl dX7_entry_89 (Nat.le_of_ble_eq_true rfl) (Nat.le_of_ble_eq_true rfl)
-- RejudgeHall.likeness(II)I
abbrev rm_X7_likeness : Room := { frames := 8, cells := 2, slots := 12, locals := 132 }
def f_X7_likeness (K : KT) (P : PT) (I : IT) (a0 : Nat) (x1 : Int) (x2 : Int) : Option (Nat × Int × IT) := bx (f_X7_entryAt K P I a0 x1) fun r1 I1 => ck (K r1 = 1) <| bx (f_X7_entryAt K P I1 a0 x2) fun r2 I2 => ck (K r2 = 1) <| if 0 < (imax ((I2 ((P r1 3)) 2)) ((I2 ((P r2 3)) 2))) then (bi (f_X7_longestCommon K P I2 a0 ((P r1 3)) ((P r2 3))) fun r4 I4 => ck ((imax ((I2 ((P r1 3)) 2)) ((I2 ((P r2 3)) 2))) ≠ 0) <| some (0, (idv (wr (100 * r4)) (imax ((I2 ((P r1 3)) 2)) ((I2 ((P r2 3)) 2)))), I4)) else (some (0, 100, I2))
theorem pm_X7_likeness : plainM yX7_likeness 2 := by decide +kernel
set_option maxRecDepth 100000 in
set_option maxHeartbeats 4000000 in
theorem c_X7_likeness (l : Launch) (hst : l.stackTraces = false) (D : va_G) (cy : Nat → ClassId) (B : Nat) (L : List Nat) (K : KT) (P : PT) (J : IT) (hWT : WT K P) (I : IT) (a0 : Nat) (x1 : Int) (x2 : Int) (ka0 : K a0 = 8) (rx1 : rg x1) (rx2 : rg x2) {co : Nat} {r : Int} {I' : IT} (hf : f_X7_likeness K P I a0 x1 x2 = some (co, r, I')) : vx_Met l yX7_likeness [.code yX7_likeness cX7_likeness 6 (some .int)] rm_X7_likeness (va_Pc [.ref a0, iv x1, iv x2] (FW D cy B L K P J I)) (XI D cy B L K P J (co, r, I')) (XX D cy B L K P J (co, r, I')) 2 12 (fun q => B ≤ q) := by
  refine fl_bodyX (own := "RejudgeHall") [.ref a0, iv x1, iv x2] (by decide) rfl (Nat.le_of_ble_eq_true rfl) ?_
  intro p e s m args below meth c ls C0 hr hx0 hF hl
  have hl : lv_has ls 6 [(0, .ref a0), (1, iv x1), (2, iv x2)] := hl
  unfold f_X7_likeness at hf
  refine lv_aload_n C0.1 C0.2.1 dX7_likeness_0 rfl (lv_at hl 0 rfl) ?_
  refine lv_iload_n C0.1 C0.2.1 dX7_likeness_1 rfl (lv_at hl 1 rfl) ?_
  obtain ⟨co1, r1, I1, hq1, hf, hg⟩ := bx_f hf
  refine fl_xr hF (fl_runVX (As := [iv x1]) (rest := []) C0 hF hl.1 ck_8 ka0 rfl (c_X7_entryAt l hst D cy B L K P J hWT I a0 x1 ka0 rx1 hq1) aw_477 aw_479 aw_22 aw_45 aw_480 rfl rfl pm_X7_entryAt rfl rfl ⟨Nat.le_of_ble_eq_true rfl, Nat.le_of_ble_eq_true rfl⟩ rfl (Nat.le_of_ble_eq_true rfl) dX7_likeness_2 ⟨Nat.le_of_ble_eq_true rfl, Nat.le_of_ble_eq_true rfl⟩) (fun c1 H locs hF1 => ?_) (fun c1 H locs q ce hF1 e1 e2 e3 => fl_prop C0 hF1 hx0 c1 e1 e2 e3 (hg c1) (Nat.le_of_ble_eq_true rfl) (Nat.le_of_ble_eq_true rfl))
  replace hf := hf c1
  obtain ⟨kr1, hf⟩ := ck_f hf
  refine fl_getrN (k := 3) (t := 4) ck_1 C0 hF1 kr1 rfl (wt_at (k := 3) (t := 4) hWT kr1 rfl) rfl ⟨rfl, rfl⟩ aw_757 dX7_likeness_5 ?_
  refine lv_astore_n (lv' := [(3, .ref (P r1 3)), (0, .ref a0), (1, iv x1), (2, iv x2)]) C0.1 C0.2.1 dX7_likeness_8 rfl hl (by decide) rfl (fun ls hl => ?_)
  refine lv_aload_n C0.1 C0.2.1 dX7_likeness_9 rfl (lv_at hl 1 rfl) ?_
  refine lv_iload_n C0.1 C0.2.1 dX7_likeness_10 rfl (lv_at hl 3 rfl) ?_
  obtain ⟨co2, r2, I2, hq2, hf, hg⟩ := bx_f hf
  refine fl_xr hF1 (fl_runVX (As := [iv x2]) (rest := []) C0 hF1 hl.1 ck_8 ka0 rfl (c_X7_entryAt l hst D cy B L K P J hWT I1 a0 x2 ka0 rx2 hq2) aw_477 aw_479 aw_22 aw_45 aw_480 rfl rfl pm_X7_entryAt rfl rfl ⟨Nat.le_of_ble_eq_true rfl, Nat.le_of_ble_eq_true rfl⟩ rfl (Nat.le_of_ble_eq_true rfl) dX7_likeness_11 ⟨Nat.le_of_ble_eq_true rfl, Nat.le_of_ble_eq_true rfl⟩) (fun c2 H locs hF2 => ?_) (fun c2 H locs q ce hF2 e1 e2 e3 => fl_prop C0 hF2 hx0 c2 e1 e2 e3 (hg c2) (Nat.le_of_ble_eq_true rfl) (Nat.le_of_ble_eq_true rfl))
  replace hf := hf c2
  obtain ⟨kr2, hf⟩ := ck_f hf
  refine fl_getrN (k := 3) (t := 4) ck_1 C0 hF2 kr2 rfl (wt_at (k := 3) (t := 4) hWT kr2 rfl) rfl ⟨rfl, rfl⟩ aw_757 dX7_likeness_14 ?_
  refine lv_astore (lv' := [(4, .ref (P r2 3)), (3, .ref (P r1 3)), (0, .ref a0), (1, iv x1), (2, iv x2)]) C0.1 C0.2.1 dX7_likeness_17 hl (by decide) rfl (fun ls hl => ?_)
  refine lv_aload_n C0.1 C0.2.1 dX7_likeness_19 rfl (lv_at hl 1 rfl) ?_
  refine fl_getiN (k := 2) ck_4 C0 hF2 (wt_at (k := 3) (t := 4) hWT kr1 rfl) rfl ⟨rfl, rfl⟩ aw_87 dX7_likeness_20 ?_
  refine lv_aload C0.1 C0.2.1 dX7_likeness_23 (lv_at hl 0 rfl) ?_
  refine fl_getiN (k := 2) ck_4 C0 hF2 (wt_at (k := 3) (t := 4) hWT kr2 rfl) rfl ⟨rfl, rfl⟩ aw_87 dX7_likeness_25 ?_
  refine fl_max C0 hl.1 (hF2.rI _ _) (hF2.rI _ _) aw_485 (Nat.le_of_ble_eq_true rfl) (Nat.le_of_ble_eq_true rfl) (Nat.le_of_ble_eq_true rfl) (Nat.le_of_ble_eq_true rfl) dX7_likeness_28 ?_
  refine lv_istore (lv' := [(5, iv (imax ((I2 ((P r1 3)) 2)) ((I2 ((P r2 3)) 2)))), (4, .ref (P r2 3)), (3, .ref (P r1 3)), (0, .ref a0), (1, iv x1), (2, iv x2)]) C0.1 C0.2.1 dX7_likeness_31 hl (by decide) rfl (fun ls hl => ?_)
  refine lv_iload C0.1 C0.2.1 dX7_likeness_33 (lv_at hl 0 rfl) ?_
  refine fl_if_gt (tgt := 41) C0 (rg_imax (hF2.rI _ _) (hF2.rI _ _)) dX7_likeness_35 (by decide) (fun c3 => ?_) (fun c3 => ?_)
  · replace hf := (if_pos c3).symm.trans hf
    refine fl_bipush C0 dX7_likeness_41 (by decide) ?_
    refine lv_aload_n C0.1 C0.2.1 dX7_likeness_43 rfl (lv_at hl 3 rfl) ?_
    refine lv_aload_n C0.1 C0.2.1 dX7_likeness_44 rfl (lv_at hl 2 rfl) ?_
    refine lv_aload C0.1 C0.2.1 dX7_likeness_45 (lv_at hl 1 rfl) ?_
    obtain ⟨r4, I4, hq4, hf⟩ := bi_f hf
    refine fl_ri hF2 (fl_runV (As := [.ref (P r1 3), .ref (P r2 3)]) (rest := [iv 100]) C0 hF2 hl.1 ck_8 ka0 rfl (c_X7_longestCommon l D cy B L K P J hWT I2 a0 ((P r1 3)) ((P r2 3)) ka0 ((wt_at (k := 3) (t := 4) hWT kr1 rfl)) ((wt_at (k := 3) (t := 4) hWT kr2 rfl)) hq4) aw_488 aw_490 aw_23 aw_45 aw_491 rfl rfl pm_X7_longestCommon rfl rfl ⟨Nat.le_of_ble_eq_true rfl, Nat.le_of_ble_eq_true rfl⟩ rfl (Nat.le_of_ble_eq_true rfl) dX7_likeness_47 ⟨Nat.le_of_ble_eq_true rfl, Nat.le_of_ble_eq_true rfl⟩) (fun H locs hF4 rr4 => ?_)
    refine fl_imul C0 dX7_likeness_50 ?_
    refine lv_iload C0.1 C0.2.1 dX7_likeness_51 (lv_at hl 0 rfl) ?_
    obtain ⟨hc, hf⟩ := ck_f hf
    refine fl_idiv C0 (rg_imax (hF2.rI _ _) (hF2.rI _ _)) hc dX7_likeness_53 ?_
    cases hf
    exact fl_iretX C0 hF4 hr (rg_idv _ _) rfl dX7_likeness_54 (Nat.le_of_ble_eq_true rfl) (Nat.le_of_ble_eq_true rfl)
  · replace hf := (if_neg c3).symm.trans hf
    refine fl_bipush C0 dX7_likeness_38 (by decide) ?_
    cases hf
    exact fl_iretX C0 hF2 hr (rgk 100 rfl) rfl dX7_likeness_40 (Nat.le_of_ble_eq_true rfl) (Nat.le_of_ble_eq_true rfl)
-- RejudgeHall.freeze(I)V
abbrev rm_X7_freeze : Room := { frames := 7, cells := 1, slots := 6, locals := 112 }
def f_X7_freeze_15 (K : KT) (P : PT) : Nat → IT → Nat → Int → Option (Nat × Unit × IT)
  | 0, _, _, _ => none
  | n + 1, I, a0, x2 => if 48 ≤ x2 then (some (0, (), I)) else (ck (0 ≤ x2 ∧ x2 < 48) <| bnd (up I ((P a0 8)) (x2 : Int).toNat 0) fun I4 => (f_X7_freeze_15 K P  n) I4 a0 ((wr (x2 + 1))))
def f_X7_freeze (K : KT) (P : PT) (I : IT) (a0 : Nat) (x1 : Int) : Option (Nat × Unit × IT) := bx (f_X7_needRange K P I x1 ((-1)) 9999) fun _ I1 => bnd (up I1 a0 11 x1) fun I2 => f_X7_freeze_15 K P  FU I2 a0 0
abbrev G_X7_freeze_15 (p : Program) (l : Launch) (e : Env) (s : State) (m : MethodId) (args : Array Value) (below : List Frame) (meth : Method) (c : Code) (D : va_G) (cy : Nat → ClassId) (B : Nat) (L : List Nat) (K : KT) (P : PT) (J : IT) (res : Nat × Unit × IT) (f : IT → Nat → Int → Option (Nat × Unit × IT)) : Prop := ∀ (I : IT) (a0 : Nat) (x2 : Int) (H : Heap) (locs : List Loc) (ls : Array Slot), K a0 = 8 → rg x2 → FS D cy B L K P J s.heap I H locs → lv_has ls 3 [(0, .ref a0), (2, iv x2)] → f I a0 x2 = some res → W p l e rm_X7_freeze s m args below meth c H locs 1 6 (vx_MQ below (XV D cy B L K P J res) (XX D cy B L K P J res) args s 1 6 (fun q => B ≤ q)) (F0 m 15 ls [])
set_option maxRecDepth 100000 in
set_option maxHeartbeats 4000000 in
theorem b_X7_freeze_15 {p : Program} {l : Launch} {e : Env} {s : State} {m : MethodId} {args : Array Value} {below : List Frame} {meth : Method} {c : Code} {D : va_G} {cy : Nat → ClassId} {B : Nat} {L : List Nat} {K : KT} {P : PT} {J : IT} {res : Nat × Unit × IT} (C0 : FC D cy B p s m meth c "RejudgeHall" cX7_freeze 3) (hr : meth.sig.returnType = none) (hWT : WT K P) (hst : l.stackTraces = false) (hx0 : ∀ x ∈ c.exceptionTable.toList, False) : ∀ n : Nat, G_X7_freeze_15 p l e s m args below meth c D cy B L K P J res (f_X7_freeze_15 K P  n)
  | 0 => by
    intro I a0 x2 H locs ls ka0 rx2 hF hl hf
    cases hf
  | n + 1 => by
    have ih : G_X7_freeze_15 p l e s m args below meth c D cy B L K P J res (f_X7_freeze_15 K P  n)  := b_X7_freeze_15 C0 hr hWT hst hx0  n
    intro I a0 x2 H locs ls ka0 rx2 hF hl hf
    rw [f_X7_freeze_15] at hf
    refine lv_iload_n C0.1 C0.2.1 dX7_freeze_15 rfl (lv_at hl 1 rfl) ?_
    refine lv_aload_n C0.1 C0.2.1 dX7_freeze_16 rfl (lv_at hl 0 rfl) ?_
    refine fl_getr (k := 8) (t := 293) ck_8 C0 hF ka0 rfl (wt_at (k := 8) (t := 293) hWT ka0 rfl) rfl ⟨rfl, rfl⟩ aw_198 dX7_freeze_17 ?_
    refine fl_alen (n := 48) (kd := 1) C0 hF (wt_at (k := 8) (t := 293) hWT ka0 rfl) (by decide) dX7_freeze_20 ?_
    refine fl_icmp_ge (tgt := 37) C0 rx2 (rgk 48 rfl) dX7_freeze_21 (by decide) (fun c3 => ?_) (fun c3 => ?_)
    · replace hf := (if_pos c3).symm.trans hf
      cases hf
      exact fl_vretX C0 hF hr rfl dX7_freeze_37 (Nat.le_of_ble_eq_true rfl) (Nat.le_of_ble_eq_true rfl)
    · replace hf := (if_neg c3).symm.trans hf
      refine lv_aload_n C0.1 C0.2.1 dX7_freeze_24 rfl (lv_at hl 0 rfl) ?_
      refine fl_getr (k := 8) (t := 293) ck_8 C0 hF ka0 rfl (wt_at (k := 8) (t := 293) hWT ka0 rfl) rfl ⟨rfl, rfl⟩ aw_198 dX7_freeze_25 ?_
      refine lv_iload_n C0.1 C0.2.1 dX7_freeze_28 rfl (lv_at hl 1 rfl) ?_
      refine fl_iconst C0 dX7_freeze_29 ?_
      obtain ⟨hc, hf⟩ := ck_f hf
      refine fl_zast (n := 48) C0 hF (wt_at (k := 8) (t := 293) hWT ka0 rfl) rx2 (Or.inl rfl) hc dX7_freeze_30 (fun H locs hF4 => ?_)
      obtain ⟨I4, eI4, hf⟩ := bnd_f hf
      rw [eI4] at hF4
      refine fl_iinc (lv' := [(2, iv (wr (x2 + 1))), (0, .ref a0)]) C0 dX7_freeze_31 hl (k := 1) rfl (by decide) rfl (fun ls hl => ?_)
      refine fl_goto (tgt := 15) C0 dX7_freeze_34 (by decide) ?_
      exact ih I4 a0 ((wr (x2 + 1))) _ _ _ ka0 ((rg_wr _)) hF4 (lv_sub hl [1, 0] rfl) hf
theorem pm_X7_freeze : plainM yX7_freeze 1 := by decide +kernel
set_option maxRecDepth 100000 in
set_option maxHeartbeats 4000000 in
theorem c_X7_freeze (l : Launch) (hst : l.stackTraces = false) (D : va_G) (cy : Nat → ClassId) (B : Nat) (L : List Nat) (K : KT) (P : PT) (J : IT) (hWT : WT K P) (I : IT) (a0 : Nat) (x1 : Int) (ka0 : K a0 = 8) (rx1 : rg x1) {co : Nat} {r : Unit} {I' : IT} (hf : f_X7_freeze K P I a0 x1 = some (co, r, I')) : vx_Met l yX7_freeze [.code yX7_freeze cX7_freeze 3 none] rm_X7_freeze (va_Pc [.ref a0, iv x1] (FW D cy B L K P J I)) (XV D cy B L K P J (co, r, I')) (XX D cy B L K P J (co, r, I')) 1 6 (fun q => B ≤ q) := by
  refine fl_bodyX (own := "RejudgeHall") [.ref a0, iv x1] (by decide) rfl (Nat.le_of_ble_eq_true rfl) ?_
  intro p e s m args below meth c ls C0 hr hx0 hF hl
  have hl : lv_has ls 3 [(0, .ref a0), (1, iv x1)] := hl
  unfold f_X7_freeze at hf
  refine lv_iload_n C0.1 C0.2.1 dX7_freeze_0 rfl (lv_at hl 1 rfl) ?_
  refine fl_iconst C0 dX7_freeze_1 ?_
  refine fl_sipush C0 dX7_freeze_2 (by decide) ?_
  obtain ⟨co1, r1, I1, hq1, hf, hg⟩ := bx_f hf
  refine fl_xv hF (fl_runSX (As := [iv x1, iv (-1), iv 9999]) (rest := []) C0 hF hl.1 (c_X7_needRange l hst D cy B L K P J hWT I x1 ((-1)) 9999 rx1 ((rgk (-1) rfl)) ((rgk 9999 rfl)) hq1) aw_231 aw_232 aw_45 aw_233 rfl pm_X7_needRange rfl rfl ⟨Nat.le_of_ble_eq_true rfl, Nat.le_of_ble_eq_true rfl⟩ rfl (Nat.le_of_ble_eq_true rfl) dX7_freeze_5 ⟨Nat.le_of_ble_eq_true rfl, Nat.le_of_ble_eq_true rfl⟩) (fun c1 H locs hF1 => ?_) (fun c1 H locs q ce hF1 e1 e2 e3 => fl_prop C0 hF1 hx0 c1 e1 e2 e3 (hg c1) (Nat.le_of_ble_eq_true rfl) (Nat.le_of_ble_eq_true rfl))
  replace hf := hf c1
  refine lv_aload_n C0.1 C0.2.1 dX7_freeze_8 rfl (lv_at hl 0 rfl) ?_
  refine lv_iload_n C0.1 C0.2.1 dX7_freeze_9 rfl (lv_at hl 1 rfl) ?_
  refine fl_puti (k := 11) ck_8 C0 hF1 ka0 rfl rx1 ⟨rfl, rfl, rfl⟩ aw_201 dX7_freeze_10 (fun H locs hF2 => ?_)
  obtain ⟨I2, eI2, hf⟩ := bnd_f hf
  rw [eI2] at hF2
  refine fl_iconst C0 dX7_freeze_13 ?_
  refine lv_istore_n (lv' := [(2, iv 0), (0, .ref a0), (1, iv x1)]) C0.1 C0.2.1 dX7_freeze_14 rfl hl (by decide) rfl (fun ls hl => ?_)
  exact b_X7_freeze_15 C0 hr hWT hst hx0  FU I2 a0 0 _ _ _ ka0 ((rgk 0 rfl)) hF2 (lv_sub hl [1, 0] rfl) hf
-- RejudgeHall.board(IZI)I
abbrev rm_X7_board : Room := { frames := 7, cells := 2, slots := 12, locals := 112 }
def f_X7_board (K : KT) (P : PT) (I : IT) (a0 : Nat) (x1 : Int) (x2 : Int) (x3 : Int) : Option (Nat × Int × IT) := bx (f_X7_needIndex K P I x1 8) fun _ I1 => bx (f_X7_needRange K P I1 x3 0 4) fun _ I2 => if x3 = 4 then (ck (0 ≤ x1 ∧ x1 < 8) <| some (0, (I2 ((P a0 7)) (x1 : Int).toNat), I2)) else (bp (f_X7_countVerdicts K P I2 a0 x2) fun I4 => if x3 = 0 then (bp (f_X5_placeOf K P I4 ((P a0 5)) x1) fun r6 => some (0, r6, I4)) else if x3 = 1 then (ck (0 ≤ x1 ∧ x1 < 8) <| some (0, (I4 ((P ((P a0 5)) 0)) (x1 : Int).toNat), I4)) else if x3 = 2 then (ck (0 ≤ x1 ∧ x1 < 8) <| some (0, (I4 ((P ((P a0 5)) 1)) (x1 : Int).toNat), I4)) else (ck (0 ≤ x1 ∧ x1 < 8) <| some (0, (I4 ((P ((P a0 5)) 2)) (x1 : Int).toNat), I4)))
theorem pm_X7_board : plainM yX7_board 3 := by decide +kernel
set_option maxRecDepth 100000 in
set_option maxHeartbeats 4000000 in
theorem c_X7_board (l : Launch) (hst : l.stackTraces = false) (D : va_G) (cy : Nat → ClassId) (B : Nat) (L : List Nat) (K : KT) (P : PT) (J : IT) (hWT : WT K P) (I : IT) (a0 : Nat) (x1 : Int) (x2 : Int) (x3 : Int) (ka0 : K a0 = 8) (rx1 : rg x1) (rx2 : rg x2) (rx3 : rg x3) {co : Nat} {r : Int} {I' : IT} (hf : f_X7_board K P I a0 x1 x2 x3 = some (co, r, I')) : vx_Met l yX7_board [.code yX7_board cX7_board 4 (some .int)] rm_X7_board (va_Pc [.ref a0, iv x1, iv x2, iv x3] (FW D cy B L K P J I)) (XI D cy B L K P J (co, r, I')) (XX D cy B L K P J (co, r, I')) 2 12 (fun q => B ≤ q) := by
  refine fl_bodyX (own := "RejudgeHall") [.ref a0, iv x1, iv x2, iv x3] (by decide) rfl (Nat.le_of_ble_eq_true rfl) ?_
  intro p e s m args below meth c ls C0 hr hx0 hF hl
  have hl : lv_has ls 4 [(0, .ref a0), (1, iv x1), (2, iv x2), (3, iv x3)] := hl
  unfold f_X7_board at hf
  refine lv_iload_n C0.1 C0.2.1 dX7_board_0 rfl (lv_at hl 1 rfl) ?_
  refine fl_bipush C0 dX7_board_1 (by decide) ?_
  obtain ⟨co1, r1, I1, hq1, hf, hg⟩ := bx_f hf
  refine fl_xv hF (fl_runSX (As := [iv x1, iv 8]) (rest := []) C0 hF hl.1 (c_X7_needIndex l hst D cy B L K P J hWT I x1 8 rx1 ((rgk 8 rfl)) hq1) aw_449 aw_450 aw_45 aw_451 rfl pm_X7_needIndex rfl rfl ⟨Nat.le_of_ble_eq_true rfl, Nat.le_of_ble_eq_true rfl⟩ rfl (Nat.le_of_ble_eq_true rfl) dX7_board_3 ⟨Nat.le_of_ble_eq_true rfl, Nat.le_of_ble_eq_true rfl⟩) (fun c1 H locs hF1 => ?_) (fun c1 H locs q ce hF1 e1 e2 e3 => fl_prop C0 hF1 hx0 c1 e1 e2 e3 (hg c1) (Nat.le_of_ble_eq_true rfl) (Nat.le_of_ble_eq_true rfl))
  replace hf := hf c1
  refine lv_iload_n C0.1 C0.2.1 dX7_board_6 rfl (lv_at hl 3 rfl) ?_
  refine fl_iconst C0 dX7_board_7 ?_
  refine fl_iconst C0 dX7_board_8 ?_
  obtain ⟨co2, r2, I2, hq2, hf, hg⟩ := bx_f hf
  refine fl_xv hF1 (fl_runSX (As := [iv x3, iv 0, iv 4]) (rest := []) C0 hF1 hl.1 (c_X7_needRange l hst D cy B L K P J hWT I1 x3 0 4 rx3 ((rgk 0 rfl)) ((rgk 4 rfl)) hq2) aw_231 aw_232 aw_45 aw_233 rfl pm_X7_needRange rfl rfl ⟨Nat.le_of_ble_eq_true rfl, Nat.le_of_ble_eq_true rfl⟩ rfl (Nat.le_of_ble_eq_true rfl) dX7_board_9 ⟨Nat.le_of_ble_eq_true rfl, Nat.le_of_ble_eq_true rfl⟩) (fun c2 H locs hF2 => ?_) (fun c2 H locs q ce hF2 e1 e2 e3 => fl_prop C0 hF2 hx0 c2 e1 e2 e3 (hg c2) (Nat.le_of_ble_eq_true rfl) (Nat.le_of_ble_eq_true rfl))
  replace hf := hf c2
  refine lv_iload_n C0.1 C0.2.1 dX7_board_12 rfl (lv_at hl 3 rfl) ?_
  refine fl_iconst C0 dX7_board_13 ?_
  refine fl_icmp_ne (tgt := 24) C0 rx3 (rgk 4 rfl) dX7_board_14 (by decide) (fun c3 => ?_) (fun c3 => ?_)
  · replace hf := (if_neg c3).symm.trans hf
    refine lv_aload_n C0.1 C0.2.1 dX7_board_24 rfl (lv_at hl 0 rfl) ?_
    refine lv_iload_n C0.1 C0.2.1 dX7_board_25 rfl (lv_at hl 2 rfl) ?_
    obtain ⟨I4, hq4, hf⟩ := bp_f hf
    refine fl_rv hF2 (fl_runV (As := [iv x2]) (rest := []) C0 hF2 hl.1 ck_8 ka0 rfl (c_X7_countVerdicts l D cy B L K P J hWT I2 a0 x2 ka0 rx2 hq4) aw_507 aw_509 aw_25 aw_45 aw_510 rfl rfl pm_X7_countVerdicts rfl rfl ⟨Nat.le_of_ble_eq_true rfl, Nat.le_of_ble_eq_true rfl⟩ rfl (Nat.le_of_ble_eq_true rfl) dX7_board_26 ⟨Nat.le_of_ble_eq_true rfl, Nat.le_of_ble_eq_true rfl⟩) (fun H locs hF4 => ?_)
    refine lv_iload_n C0.1 C0.2.1 dX7_board_29 rfl (lv_at hl 3 rfl) ?_
    rcases Classical.em (x3 = 0) with c5 | c5
    · replace hf := (if_pos c5).symm.trans hf
      refine fl_tableIn (v := 0) (tgt := 56) C0 rx3 dX7_board_30 c5 (by decide) rfl (by decide) ?_
      refine lv_aload_n C0.1 C0.2.1 dX7_board_56 rfl (lv_at hl 0 rfl) ?_
      refine fl_getr (k := 5) (t := 6) ck_8 C0 hF4 ka0 rfl (wt_at (k := 5) (t := 6) hWT ka0 rfl) rfl ⟨rfl, rfl⟩ aw_195 dX7_board_57 ?_
      refine lv_iload_n C0.1 C0.2.1 dX7_board_60 rfl (lv_at hl 1 rfl) ?_
      obtain ⟨r6, hq6, hf⟩ := bp_f hf
      refine fl_ri hF4 (fl_runN (As := [iv x1]) (rest := []) C0 hF4 hl.1 ck_6 (wt_at (k := 5) (t := 6) hWT ka0 rfl) rfl (c_X5_placeOf l D cy B L K P J hWT I4 ((P a0 5)) x1 ((wt_at (k := 5) (t := 6) hWT ka0 rfl)) rx1 hq6) aw_545 aw_547 aw_32 aw_52 aw_548 rfl pm_X5_placeOf rfl rfl ⟨Nat.le_of_ble_eq_true rfl, Nat.le_of_ble_eq_true rfl⟩ rfl (Nat.le_of_ble_eq_true rfl) dX7_board_61 ⟨Nat.le_of_ble_eq_true rfl, Nat.le_of_ble_eq_true rfl⟩) (fun H locs hF6 rr6 => ?_)
      cases hf
      exact fl_iretX C0 hF6 hr rr6 rfl dX7_board_64 (Nat.le_of_ble_eq_true rfl) (Nat.le_of_ble_eq_true rfl)
    · replace hf := (if_neg c5).symm.trans hf
      rcases Classical.em (x3 = 1) with c7 | c7
      · replace hf := (if_pos c7).symm.trans hf
        refine fl_tableIn (v := 1) (tgt := 65) C0 rx3 dX7_board_30 c7 (by decide) rfl (by decide) ?_
        refine lv_aload_n C0.1 C0.2.1 dX7_board_65 rfl (lv_at hl 0 rfl) ?_
        refine fl_getr (k := 5) (t := 6) ck_8 C0 hF4 ka0 rfl (wt_at (k := 5) (t := 6) hWT ka0 rfl) rfl ⟨rfl, rfl⟩ aw_195 dX7_board_66 ?_
        refine fl_getrN (k := 0) (t := 132) ck_6 C0 hF4 (wt_at (k := 5) (t := 6) hWT ka0 rfl) rfl (wt_at (k := 0) (t := 132) hWT (wt_at (k := 5) (t := 6) hWT ka0 rfl) rfl) rfl ⟨rfl, rfl⟩ aw_171 dX7_board_69 ?_
        refine lv_iload_n C0.1 C0.2.1 dX7_board_72 rfl (lv_at hl 1 rfl) ?_
        obtain ⟨hc, hf⟩ := ck_f hf
        refine fl_iald (n := 8) C0 hF4 (wt_at (k := 0) (t := 132) hWT (wt_at (k := 5) (t := 6) hWT ka0 rfl) rfl) rx1 hc dX7_board_73 ?_
        cases hf
        exact fl_iretX C0 hF4 hr (hF4.rI _ _) rfl dX7_board_74 (Nat.le_of_ble_eq_true rfl) (Nat.le_of_ble_eq_true rfl)
      · replace hf := (if_neg c7).symm.trans hf
        rcases Classical.em (x3 = 2) with c8 | c8
        · replace hf := (if_pos c8).symm.trans hf
          refine fl_tableIn (v := 2) (tgt := 75) C0 rx3 dX7_board_30 c8 (by decide) rfl (by decide) ?_
          refine lv_aload_n C0.1 C0.2.1 dX7_board_75 rfl (lv_at hl 0 rfl) ?_
          refine fl_getr (k := 5) (t := 6) ck_8 C0 hF4 ka0 rfl (wt_at (k := 5) (t := 6) hWT ka0 rfl) rfl ⟨rfl, rfl⟩ aw_195 dX7_board_76 ?_
          refine fl_getrN (k := 1) (t := 132) ck_6 C0 hF4 (wt_at (k := 5) (t := 6) hWT ka0 rfl) rfl (wt_at (k := 1) (t := 132) hWT (wt_at (k := 5) (t := 6) hWT ka0 rfl) rfl) rfl ⟨rfl, rfl⟩ aw_173 dX7_board_79 ?_
          refine lv_iload_n C0.1 C0.2.1 dX7_board_82 rfl (lv_at hl 1 rfl) ?_
          obtain ⟨hc, hf⟩ := ck_f hf
          refine fl_iald (n := 8) C0 hF4 (wt_at (k := 1) (t := 132) hWT (wt_at (k := 5) (t := 6) hWT ka0 rfl) rfl) rx1 hc dX7_board_83 ?_
          cases hf
          exact fl_iretX C0 hF4 hr (hF4.rI _ _) rfl dX7_board_84 (Nat.le_of_ble_eq_true rfl) (Nat.le_of_ble_eq_true rfl)
        · replace hf := (if_neg c8).symm.trans hf
          refine fl_tableOut (tgt := 85) C0 rx3 dX7_board_30 (by omega) (by decide) ?_
          refine lv_aload_n C0.1 C0.2.1 dX7_board_85 rfl (lv_at hl 0 rfl) ?_
          refine fl_getr (k := 5) (t := 6) ck_8 C0 hF4 ka0 rfl (wt_at (k := 5) (t := 6) hWT ka0 rfl) rfl ⟨rfl, rfl⟩ aw_195 dX7_board_86 ?_
          refine fl_getrN (k := 2) (t := 132) ck_6 C0 hF4 (wt_at (k := 5) (t := 6) hWT ka0 rfl) rfl (wt_at (k := 2) (t := 132) hWT (wt_at (k := 5) (t := 6) hWT ka0 rfl) rfl) rfl ⟨rfl, rfl⟩ aw_175 dX7_board_89 ?_
          refine lv_iload_n C0.1 C0.2.1 dX7_board_92 rfl (lv_at hl 1 rfl) ?_
          obtain ⟨hc, hf⟩ := ck_f hf
          refine fl_iald (n := 8) C0 hF4 (wt_at (k := 2) (t := 132) hWT (wt_at (k := 5) (t := 6) hWT ka0 rfl) rfl) rx1 hc dX7_board_93 ?_
          cases hf
          exact fl_iretX C0 hF4 hr (hF4.rI _ _) rfl dX7_board_94 (Nat.le_of_ble_eq_true rfl) (Nat.le_of_ble_eq_true rfl)
  · replace hf := (if_pos c3).symm.trans hf
    refine lv_aload_n C0.1 C0.2.1 dX7_board_17 rfl (lv_at hl 0 rfl) ?_
    refine fl_getr (k := 7) (t := 132) ck_8 C0 hF2 ka0 rfl (wt_at (k := 7) (t := 132) hWT ka0 rfl) rfl ⟨rfl, rfl⟩ aw_197 dX7_board_18 ?_
    refine lv_iload_n C0.1 C0.2.1 dX7_board_21 rfl (lv_at hl 1 rfl) ?_
    obtain ⟨hc, hf⟩ := ck_f hf
    refine fl_iald (n := 8) C0 hF2 (wt_at (k := 7) (t := 132) hWT ka0 rfl) rx1 hc dX7_board_22 ?_
    cases hf
    exact fl_iretX C0 hF2 hr (hF2.rI _ _) rfl dX7_board_23 (Nat.le_of_ble_eq_true rfl) (Nat.le_of_ble_eq_true rfl)
-- RejudgeHall.placeAnew(I)I
abbrev rm_X7_placeAnew : Room := { frames := 7, cells := 1, slots := 6, locals := 143 }
def f_X7_placeAnew_57 (K : KT) (P : PT) (I : IT) (a0 : Nat) (x1 : Int) : Option (Nat × Int × IT) := bp (f_X5_placeOf K P I ((P a0 5)) x1) fun r8 => some (0, r8, I)
def f_X7_placeAnew_15 (K : KT) (P : PT) : Nat → IT → Nat → Int → Int → Option (Nat × Int × IT)
  | 0, _, _, _, _ => none
  | n + 1, I, a0, x1, x2 => if (I ((P a0 4)) 2) ≤ x2 then (f_X7_placeAnew_57 K P  I a0 x1) else (bp (lgetf K P I ((P a0 4)) x2 1) fun r5 => bi (f_X7_passesAll K P I a0 r5) fun r6 I6 => bp (f_X5_count K P I6 ((P a0 5)) r5 r6) fun I7 => (f_X7_placeAnew_15 K P  n) I7 a0 x1 ((wr (x2 + 1))))
def f_X7_placeAnew (K : KT) (P : PT) (I : IT) (a0 : Nat) (x1 : Int) : Option (Nat × Int × IT) := bx (f_X7_needIndex K P I x1 8) fun _ I1 => bp (f_X5_wipe K P I1 ((P a0 5))) fun I2 => f_X7_placeAnew_15 K P  FU I2 a0 x1 0
abbrev G_X7_placeAnew_57 (p : Program) (l : Launch) (e : Env) (s : State) (m : MethodId) (args : Array Value) (below : List Frame) (meth : Method) (c : Code) (D : va_G) (cy : Nat → ClassId) (B : Nat) (L : List Nat) (K : KT) (P : PT) (J : IT) (res : Nat × Int × IT) (f : IT → Nat → Int → Option (Nat × Int × IT)) : Prop := ∀ (I : IT) (a0 : Nat) (x1 : Int) (H : Heap) (locs : List Loc) (ls : Array Slot), K a0 = 8 → rg x1 → FS D cy B L K P J s.heap I H locs → lv_has ls 4 [(0, .ref a0), (1, iv x1)] → f I a0 x1 = some res → W p l e rm_X7_placeAnew s m args below meth c H locs 1 6 (vx_MQ below (XI D cy B L K P J res) (XX D cy B L K P J res) args s 1 6 (fun q => B ≤ q)) (F0 m 57 ls [])
abbrev G_X7_placeAnew_15 (p : Program) (l : Launch) (e : Env) (s : State) (m : MethodId) (args : Array Value) (below : List Frame) (meth : Method) (c : Code) (D : va_G) (cy : Nat → ClassId) (B : Nat) (L : List Nat) (K : KT) (P : PT) (J : IT) (res : Nat × Int × IT) (f : IT → Nat → Int → Int → Option (Nat × Int × IT)) : Prop := ∀ (I : IT) (a0 : Nat) (x1 : Int) (x2 : Int) (H : Heap) (locs : List Loc) (ls : Array Slot), K a0 = 8 → rg x1 → rg x2 → FS D cy B L K P J s.heap I H locs → lv_has ls 4 [(0, .ref a0), (1, iv x1), (2, iv x2)] → f I a0 x1 x2 = some res → W p l e rm_X7_placeAnew s m args below meth c H locs 1 6 (vx_MQ below (XI D cy B L K P J res) (XX D cy B L K P J res) args s 1 6 (fun q => B ≤ q)) (F0 m 15 ls [])
set_option maxRecDepth 100000 in
set_option maxHeartbeats 4000000 in
theorem b_X7_placeAnew_57 {p : Program} {l : Launch} {e : Env} {s : State} {m : MethodId} {args : Array Value} {below : List Frame} {meth : Method} {c : Code} {D : va_G} {cy : Nat → ClassId} {B : Nat} {L : List Nat} {K : KT} {P : PT} {J : IT} {res : Nat × Int × IT} (C0 : FC D cy B p s m meth c "RejudgeHall" cX7_placeAnew 4) (hr : meth.sig.returnType = (some .int)) (hWT : WT K P) (hst : l.stackTraces = false) (hx0 : ∀ x ∈ c.exceptionTable.toList, False) : G_X7_placeAnew_57 p l e s m args below meth c D cy B L K P J res (f_X7_placeAnew_57 K P ) := by
  intro I a0 x1 H locs ls ka0 rx1 hF hl hf
  unfold f_X7_placeAnew_57 at hf
  refine lv_aload_n C0.1 C0.2.1 dX7_placeAnew_57 rfl (lv_at hl 0 rfl) ?_
  refine fl_getr (k := 5) (t := 6) ck_8 C0 hF ka0 rfl (wt_at (k := 5) (t := 6) hWT ka0 rfl) rfl ⟨rfl, rfl⟩ aw_195 dX7_placeAnew_58 ?_
  refine lv_iload_n C0.1 C0.2.1 dX7_placeAnew_61 rfl (lv_at hl 1 rfl) ?_
  obtain ⟨r8, hq8, hf⟩ := bp_f hf
  refine fl_ri hF (fl_runN (As := [iv x1]) (rest := []) C0 hF hl.1 ck_6 (wt_at (k := 5) (t := 6) hWT ka0 rfl) rfl (c_X5_placeOf l D cy B L K P J hWT I ((P a0 5)) x1 ((wt_at (k := 5) (t := 6) hWT ka0 rfl)) rx1 hq8) aw_545 aw_547 aw_32 aw_52 aw_548 rfl pm_X5_placeOf rfl rfl ⟨Nat.le_of_ble_eq_true rfl, Nat.le_of_ble_eq_true rfl⟩ rfl (Nat.le_of_ble_eq_true rfl) dX7_placeAnew_62 ⟨Nat.le_of_ble_eq_true rfl, Nat.le_of_ble_eq_true rfl⟩) (fun H locs hF8 rr8 => ?_)
  cases hf
  exact fl_iretX C0 hF8 hr rr8 rfl dX7_placeAnew_65 (Nat.le_of_ble_eq_true rfl) (Nat.le_of_ble_eq_true rfl)
set_option maxRecDepth 100000 in
set_option maxHeartbeats 4000000 in
theorem b_X7_placeAnew_15 {p : Program} {l : Launch} {e : Env} {s : State} {m : MethodId} {args : Array Value} {below : List Frame} {meth : Method} {c : Code} {D : va_G} {cy : Nat → ClassId} {B : Nat} {L : List Nat} {K : KT} {P : PT} {J : IT} {res : Nat × Int × IT} (C0 : FC D cy B p s m meth c "RejudgeHall" cX7_placeAnew 4) (hr : meth.sig.returnType = (some .int)) (hWT : WT K P) (hst : l.stackTraces = false) (hx0 : ∀ x ∈ c.exceptionTable.toList, False) : ∀ n : Nat, G_X7_placeAnew_15 p l e s m args below meth c D cy B L K P J res (f_X7_placeAnew_15 K P  n)
  | 0 => by
    intro I a0 x1 x2 H locs ls ka0 rx1 rx2 hF hl hf
    cases hf
  | n + 1 => by
    have ih : G_X7_placeAnew_15 p l e s m args below meth c D cy B L K P J res (f_X7_placeAnew_15 K P  n)  := b_X7_placeAnew_15 C0 hr hWT hst hx0  n
    intro I a0 x1 x2 H locs ls ka0 rx1 rx2 hF hl hf
    rw [f_X7_placeAnew_15] at hf
    refine lv_iload_n C0.1 C0.2.1 dX7_placeAnew_15 rfl (lv_at hl 2 rfl) ?_
    refine lv_aload_n C0.1 C0.2.1 dX7_placeAnew_16 rfl (lv_at hl 0 rfl) ?_
    refine fl_getr (k := 4) (t := 11) ck_8 C0 hF ka0 rfl (wt_at (k := 4) (t := 11) hWT ka0 rfl) rfl ⟨rfl, rfl⟩ aw_194 dX7_placeAnew_17 ?_
    refine fl_ri hF (fl_runV (As := []) (rest := [iv x2]) C0 hF hl.1 ck_0 (wt_at (k := 4) (t := 11) hWT ka0 rfl) rfl (c_size l D cy B L K P J I ((P a0 4)) 11 (wt_at (k := 4) (t := 11) hWT ka0 rfl) rfl) aw_344 aw_345 aw_346 aw_51 aw_347 rfl rfl pm_size rfl rfl ⟨Nat.le_of_ble_eq_true rfl, Nat.le_of_ble_eq_true rfl⟩ rfl (Nat.le_of_ble_eq_true rfl) dX7_placeAnew_20 ⟨Nat.le_of_ble_eq_true rfl, Nat.le_of_ble_eq_true rfl⟩) (fun H locs hF3 _ => ?_)
    refine fl_icmp_ge (tgt := 57) C0 rx2 (hF3.rI _ _) dX7_placeAnew_23 (by decide) (fun c4 => ?_) (fun c4 => ?_)
    · replace hf := (if_pos c4).symm.trans hf
      exact b_X7_placeAnew_57 C0 hr hWT hst hx0  I a0 x1 _ _ _ ka0 rx1 hF3 (lv_sub hl [0, 1] rfl) hf
    · replace hf := (if_neg c4).symm.trans hf
      refine lv_aload_n C0.1 C0.2.1 dX7_placeAnew_26 rfl (lv_at hl 0 rfl) ?_
      refine fl_getr (k := 4) (t := 11) ck_8 C0 hF3 ka0 rfl (wt_at (k := 4) (t := 11) hWT ka0 rfl) rfl ⟨rfl, rfl⟩ aw_194 dX7_placeAnew_27 ?_
      refine lv_iload_n C0.1 C0.2.1 dX7_placeAnew_30 rfl (lv_at hl 2 rfl) ?_
      obtain ⟨r5, hq5, hf⟩ := bp_f hf
      have kr5 := lget_k hq5
      refine fl_rr hF3 (fl_runV (As := [iv x2]) (rest := []) C0 hF3 hl.1 ck_0 (wt_at (k := 4) (t := 11) hWT ka0 rfl) rfl (c_get l D cy B L K P J I ((P a0 4)) x2 11 1 (wt_at (k := 4) (t := 11) hWT ka0 rfl) rfl rx2 hq5) aw_348 aw_349 aw_350 aw_51 aw_351 rfl rfl pm_get rfl rfl ⟨Nat.le_of_ble_eq_true rfl, Nat.le_of_ble_eq_true rfl⟩ rfl (Nat.le_of_ble_eq_true rfl) dX7_placeAnew_31 ⟨Nat.le_of_ble_eq_true rfl, Nat.le_of_ble_eq_true rfl⟩) (fun H locs hF5 => ?_)
      refine fl_cast ck_1 C0 hF5 kr5 rfl aw_362 dX7_placeAnew_34 ?_
      refine lv_astore_n (lv' := [(3, .ref r5), (0, .ref a0), (1, iv x1), (2, iv x2)]) C0.1 C0.2.1 dX7_placeAnew_37 rfl hl (by decide) rfl (fun ls hl => ?_)
      refine lv_aload_n C0.1 C0.2.1 dX7_placeAnew_38 rfl (lv_at hl 1 rfl) ?_
      refine fl_getr (k := 5) (t := 6) ck_8 C0 hF5 ka0 rfl (wt_at (k := 5) (t := 6) hWT ka0 rfl) rfl ⟨rfl, rfl⟩ aw_195 dX7_placeAnew_39 ?_
      refine lv_aload_n C0.1 C0.2.1 dX7_placeAnew_42 rfl (lv_at hl 0 rfl) ?_
      refine lv_aload_n C0.1 C0.2.1 dX7_placeAnew_43 rfl (lv_at hl 1 rfl) ?_
      refine lv_aload_n C0.1 C0.2.1 dX7_placeAnew_44 rfl (lv_at hl 0 rfl) ?_
      obtain ⟨r6, I6, hq6, hf⟩ := bi_f hf
      refine fl_ri hF5 (fl_runV (As := [.ref r5]) (rest := [.ref r5, .ref (P a0 5)]) C0 hF5 hl.1 ck_8 ka0 rfl (c_X7_passesAll l D cy B L K P J hWT I a0 r5 ka0 kr5 hq6) aw_554 aw_556 aw_33 aw_45 aw_557 rfl rfl pm_X7_passesAll rfl rfl ⟨Nat.le_of_ble_eq_true rfl, Nat.le_of_ble_eq_true rfl⟩ rfl (Nat.le_of_ble_eq_true rfl) dX7_placeAnew_45 ⟨Nat.le_of_ble_eq_true rfl, Nat.le_of_ble_eq_true rfl⟩) (fun H locs hF6 rr6 => ?_)
      obtain ⟨I7, hq7, hf⟩ := bp_f hf
      refine fl_rv hF6 (fl_runN (As := [.ref r5, iv r6]) (rest := []) C0 hF6 hl.1 ck_6 (wt_at (k := 5) (t := 6) hWT ka0 rfl) rfl (c_X5_count l D cy B L K P J hWT I6 ((P a0 5)) r5 r6 ((wt_at (k := 5) (t := 6) hWT ka0 rfl)) kr5 rr6 hq7) aw_527 aw_529 aw_29 aw_52 aw_530 rfl pm_X5_count rfl rfl ⟨Nat.le_of_ble_eq_true rfl, Nat.le_of_ble_eq_true rfl⟩ rfl (Nat.le_of_ble_eq_true rfl) dX7_placeAnew_48 ⟨Nat.le_of_ble_eq_true rfl, Nat.le_of_ble_eq_true rfl⟩) (fun H locs hF7 => ?_)
      refine fl_iinc (lv' := [(2, iv (wr (x2 + 1))), (3, .ref r5), (0, .ref a0), (1, iv x1)]) C0 dX7_placeAnew_51 hl (k := 3) rfl (by decide) rfl (fun ls hl => ?_)
      refine fl_goto (tgt := 15) C0 dX7_placeAnew_54 (by decide) ?_
      exact ih I7 a0 x1 ((wr (x2 + 1))) _ _ _ ka0 rx1 ((rg_wr _)) hF7 (lv_sub hl [2, 3, 0] rfl) hf
theorem pm_X7_placeAnew : plainM yX7_placeAnew 1 := by decide +kernel
set_option maxRecDepth 100000 in
set_option maxHeartbeats 4000000 in
theorem c_X7_placeAnew (l : Launch) (hst : l.stackTraces = false) (D : va_G) (cy : Nat → ClassId) (B : Nat) (L : List Nat) (K : KT) (P : PT) (J : IT) (hWT : WT K P) (I : IT) (a0 : Nat) (x1 : Int) (ka0 : K a0 = 8) (rx1 : rg x1) {co : Nat} {r : Int} {I' : IT} (hf : f_X7_placeAnew K P I a0 x1 = some (co, r, I')) : vx_Met l yX7_placeAnew [.code yX7_placeAnew cX7_placeAnew 4 (some .int)] rm_X7_placeAnew (va_Pc [.ref a0, iv x1] (FW D cy B L K P J I)) (XI D cy B L K P J (co, r, I')) (XX D cy B L K P J (co, r, I')) 1 6 (fun q => B ≤ q) := by
  refine fl_bodyX (own := "RejudgeHall") [.ref a0, iv x1] (by decide) rfl (Nat.le_of_ble_eq_true rfl) ?_
  intro p e s m args below meth c ls C0 hr hx0 hF hl
  have hl : lv_has ls 4 [(0, .ref a0), (1, iv x1)] := hl
  unfold f_X7_placeAnew at hf
  refine lv_iload_n C0.1 C0.2.1 dX7_placeAnew_0 rfl (lv_at hl 1 rfl) ?_
  refine fl_bipush C0 dX7_placeAnew_1 (by decide) ?_
  obtain ⟨co1, r1, I1, hq1, hf, hg⟩ := bx_f hf
  refine fl_xv hF (fl_runSX (As := [iv x1, iv 8]) (rest := []) C0 hF hl.1 (c_X7_needIndex l hst D cy B L K P J hWT I x1 8 rx1 ((rgk 8 rfl)) hq1) aw_449 aw_450 aw_45 aw_451 rfl pm_X7_needIndex rfl rfl ⟨Nat.le_of_ble_eq_true rfl, Nat.le_of_ble_eq_true rfl⟩ rfl (Nat.le_of_ble_eq_true rfl) dX7_placeAnew_3 ⟨Nat.le_of_ble_eq_true rfl, Nat.le_of_ble_eq_true rfl⟩) (fun c1 H locs hF1 => ?_) (fun c1 H locs q ce hF1 e1 e2 e3 => fl_prop C0 hF1 hx0 c1 e1 e2 e3 (hg c1) (Nat.le_of_ble_eq_true rfl) (Nat.le_of_ble_eq_true rfl))
  replace hf := hf c1
  refine lv_aload_n C0.1 C0.2.1 dX7_placeAnew_6 rfl (lv_at hl 0 rfl) ?_
  refine fl_getr (k := 5) (t := 6) ck_8 C0 hF1 ka0 rfl (wt_at (k := 5) (t := 6) hWT ka0 rfl) rfl ⟨rfl, rfl⟩ aw_195 dX7_placeAnew_7 ?_
  obtain ⟨I2, hq2, hf⟩ := bp_f hf
  refine fl_rv hF1 (fl_runN (As := []) (rest := []) C0 hF1 hl.1 ck_6 (wt_at (k := 5) (t := 6) hWT ka0 rfl) rfl (c_X5_wipe l D cy B L K P J hWT I1 ((P a0 5)) ((wt_at (k := 5) (t := 6) hWT ka0 rfl)) hq2) aw_511 aw_513 aw_26 aw_52 aw_514 rfl pm_X5_wipe rfl rfl ⟨Nat.le_of_ble_eq_true rfl, Nat.le_of_ble_eq_true rfl⟩ rfl (Nat.le_of_ble_eq_true rfl) dX7_placeAnew_10 ⟨Nat.le_of_ble_eq_true rfl, Nat.le_of_ble_eq_true rfl⟩) (fun H locs hF2 => ?_)
  refine fl_iconst C0 dX7_placeAnew_13 ?_
  refine lv_istore_n (lv' := [(2, iv 0), (0, .ref a0), (1, iv x1)]) C0.1 C0.2.1 dX7_placeAnew_14 rfl hl (by decide) rfl (fun ls hl => ?_)
  exact b_X7_placeAnew_15 C0 hr hWT hst hx0  FU I2 a0 x1 0 _ _ _ ka0 rx1 ((rgk 0 rfl)) hF2 (lv_sub hl [1, 2, 0] rfl) hf
