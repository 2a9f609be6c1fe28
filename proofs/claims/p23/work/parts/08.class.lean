-- java/util/Arrays.fill([II)V
abbrev rm_J7_fill_132 : Room := { frames := 0, cells := 0, slots := 0, locals := 0 }
def f_J7_fill_132_5 (K : KT) (P : PT) : Nat → IT → Nat → Int → Int → Int → Option (IT)
  | 0, _, _, _, _, _ => none
  | n + 1, I, a0, x1, x2, x3 => if x3 ≤ x2 then (some I) else (ck (0 ≤ x2 ∧ x2 < 8) <| bnd (up I a0 (x2 : Int).toNat x1) fun I2 => (f_J7_fill_132_5 K P  n) I2 a0 x1 ((wr (x2 + 1))) x3)
def f_J7_fill_132 (K : KT) (P : PT) (I : IT) (a0 : Nat) (x1 : Int) : Option (IT) := f_J7_fill_132_5 K P  FU I a0 x1 0 8
abbrev G_J7_fill_132_5 (p : Program) (l : Launch) (e : Env) (s : State) (m : MethodId) (args : Array Value) (below : List Frame) (meth : Method) (c : Code) (D : va_G) (cy : Nat → ClassId) (B : Nat) (L : List Nat) (K : KT) (P : PT) (J : IT) (res : IT) (f : IT → Nat → Int → Int → Int → Option (IT)) : Prop := ∀ (I : IT) (a0 : Nat) (x1 : Int) (x2 : Int) (x3 : Int) (H : Heap) (locs : List Loc) (ls : Array Slot), K a0 = 132 → rg x1 → rg x2 → rg x3 → FS D cy B L K P J s.heap I H locs → lv_has ls 4 [(0, .ref a0), (1, iv x1), (2, iv x2), (3, iv x3)] → f I a0 x1 x2 x3 = some res → W p l e rm_J7_fill_132 s m args below meth c H locs 0 0 (MQ below (QV D cy B L K P J res) args s 0 0 (fun q => B ≤ q)) (F0 m 5 ls [])
set_option maxRecDepth 100000 in
set_option maxHeartbeats 4000000 in
theorem b_J7_fill_132_5 {p : Program} {l : Launch} {e : Env} {s : State} {m : MethodId} {args : Array Value} {below : List Frame} {meth : Method} {c : Code} {D : va_G} {cy : Nat → ClassId} {B : Nat} {L : List Nat} {K : KT} {P : PT} {J : IT} {res : IT} (C0 : FC D cy B p s m meth c "java/util/Arrays" cJ7_fill_53178 4) (hr : meth.sig.returnType = none) (hWT : WT K P) : ∀ n : Nat, G_J7_fill_132_5 p l e s m args below meth c D cy B L K P J res (f_J7_fill_132_5 K P  n)
  | 0 => by
    intro I a0 x1 x2 x3 H locs ls ka0 rx1 rx2 rx3 hF hl hf
    cases hf
  | n + 1 => by
    have ih : G_J7_fill_132_5 p l e s m args below meth c D cy B L K P J res (f_J7_fill_132_5 K P  n)  := b_J7_fill_132_5 C0 hr hWT  n
    intro I a0 x1 x2 x3 H locs ls ka0 rx1 rx2 rx3 hF hl hf
    rw [f_J7_fill_132_5] at hf
    refine lv_iload_n C0.1 C0.2.1 dJ7_fill_53178_5 rfl (lv_at hl 2 rfl) ?_
    refine lv_iload_n C0.1 C0.2.1 dJ7_fill_53178_6 rfl (lv_at hl 3 rfl) ?_
    refine fl_icmp_ge (tgt := 20) C0 rx2 rx3 dJ7_fill_53178_7 (by decide) (fun c1 => ?_) (fun c1 => ?_)
    · replace hf := (if_pos c1).symm.trans hf
      cases hf
      exact fl_vret C0 hF hr rfl dJ7_fill_53178_20
    · replace hf := (if_neg c1).symm.trans hf
      refine lv_aload_n C0.1 C0.2.1 dJ7_fill_53178_10 rfl (lv_at hl 0 rfl) ?_
      refine lv_iload_n C0.1 C0.2.1 dJ7_fill_53178_11 rfl (lv_at hl 2 rfl) ?_
      refine lv_iload_n C0.1 C0.2.1 dJ7_fill_53178_12 rfl (lv_at hl 1 rfl) ?_
      obtain ⟨hc, hf⟩ := ck_f hf
      refine fl_iast (n := 8) C0 hF ka0 rx2 rx1 hc dJ7_fill_53178_13 (fun H locs hF2 => ?_)
      obtain ⟨I2, eI2, hf⟩ := bnd_f hf
      rw [eI2] at hF2
      refine fl_iinc (lv' := [(2, iv (wr (x2 + 1))), (0, .ref a0), (1, iv x1), (3, iv x3)]) C0 dJ7_fill_53178_14 hl (k := 2) rfl (by decide) rfl (fun ls hl => ?_)
      refine fl_goto (tgt := 5) C0 dJ7_fill_53178_17 (by decide) ?_
      exact ih I2 a0 x1 ((wr (x2 + 1))) x3 _ _ _ ka0 rx1 ((rg_wr _)) rx3 hF2 (lv_sub hl [1, 2, 0, 3] rfl) hf
theorem pm_J7_fill_132 : plainM yJ7_fill_53178 2 := by decide +kernel
set_option maxRecDepth 100000 in
set_option maxHeartbeats 4000000 in
theorem c_J7_fill_132 (l : Launch) (D : va_G) (cy : Nat → ClassId) (B : Nat) (L : List Nat) (K : KT) (P : PT) (J : IT) (hWT : WT K P) (I : IT) (a0 : Nat) (x1 : Int) (ka0 : K a0 = 132) (rx1 : rg x1) {I' : IT} (hf : f_J7_fill_132 K P I a0 x1 = some I') : Met l yJ7_fill_53178 [.code yJ7_fill_53178 cJ7_fill_53178 4 none] rm_J7_fill_132 (va_Pc [.ref a0, iv x1] (FW D cy B L K P J I)) (QV D cy B L K P J I') 0 0 (fun q => B ≤ q) := by
  refine fl_body (own := "java/util/Arrays") [.ref a0, iv x1] (by decide) rfl (Nat.le_of_ble_eq_true rfl) ?_
  intro p e s m args below meth c ls C0 hr hF hl
  have hl : lv_has ls 4 [(0, .ref a0), (1, iv x1)] := hl
  unfold f_J7_fill_132 at hf
  refine fl_iconst C0 dJ7_fill_53178_0 ?_
  refine lv_istore_n (lv' := [(2, iv 0), (0, .ref a0), (1, iv x1)]) C0.1 C0.2.1 dJ7_fill_53178_1 rfl hl (by decide) rfl (fun ls hl => ?_)
  refine lv_aload_n C0.1 C0.2.1 dJ7_fill_53178_2 rfl (lv_at hl 1 rfl) ?_
  refine fl_alen (n := 8) (kd := 0) C0 hF ka0 (by decide) dJ7_fill_53178_3 ?_
  refine lv_istore_n (lv' := [(3, iv 8), (2, iv 0), (0, .ref a0), (1, iv x1)]) C0.1 C0.2.1 dJ7_fill_53178_4 rfl hl (by decide) rfl (fun ls hl => ?_)
  exact b_J7_fill_132_5 C0 hr hWT  FU I a0 x1 0 8 _ _ _ ka0 rx1 ((rgk 0 rfl)) ((rgk 8 rfl)) hF (lv_sub hl [2, 3, 1, 0] rfl) hf
-- java/util/Arrays.fill([II)V
abbrev rm_J7_fill_292 : Room := { frames := 0, cells := 0, slots := 0, locals := 0 }
def f_J7_fill_292_5 (K : KT) (P : PT) : Nat → IT → Nat → Int → Int → Int → Option (IT)
  | 0, _, _, _, _, _ => none
  | n + 1, I, a0, x1, x2, x3 => if x3 ≤ x2 then (some I) else (ck (0 ≤ x2 ∧ x2 < 48) <| bnd (up I a0 (x2 : Int).toNat x1) fun I2 => (f_J7_fill_292_5 K P  n) I2 a0 x1 ((wr (x2 + 1))) x3)
def f_J7_fill_292 (K : KT) (P : PT) (I : IT) (a0 : Nat) (x1 : Int) : Option (IT) := f_J7_fill_292_5 K P  FU I a0 x1 0 48
abbrev G_J7_fill_292_5 (p : Program) (l : Launch) (e : Env) (s : State) (m : MethodId) (args : Array Value) (below : List Frame) (meth : Method) (c : Code) (D : va_G) (cy : Nat → ClassId) (B : Nat) (L : List Nat) (K : KT) (P : PT) (J : IT) (res : IT) (f : IT → Nat → Int → Int → Int → Option (IT)) : Prop := ∀ (I : IT) (a0 : Nat) (x1 : Int) (x2 : Int) (x3 : Int) (H : Heap) (locs : List Loc) (ls : Array Slot), K a0 = 292 → rg x1 → rg x2 → rg x3 → FS D cy B L K P J s.heap I H locs → lv_has ls 4 [(0, .ref a0), (1, iv x1), (2, iv x2), (3, iv x3)] → f I a0 x1 x2 x3 = some res → W p l e rm_J7_fill_292 s m args below meth c H locs 0 0 (MQ below (QV D cy B L K P J res) args s 0 0 (fun q => B ≤ q)) (F0 m 5 ls [])
set_option maxRecDepth 100000 in
set_option maxHeartbeats 4000000 in
theorem b_J7_fill_292_5 {p : Program} {l : Launch} {e : Env} {s : State} {m : MethodId} {args : Array Value} {below : List Frame} {meth : Method} {c : Code} {D : va_G} {cy : Nat → ClassId} {B : Nat} {L : List Nat} {K : KT} {P : PT} {J : IT} {res : IT} (C0 : FC D cy B p s m meth c "java/util/Arrays" cJ7_fill_53178 4) (hr : meth.sig.returnType = none) (hWT : WT K P) : ∀ n : Nat, G_J7_fill_292_5 p l e s m args below meth c D cy B L K P J res (f_J7_fill_292_5 K P  n)
  | 0 => by
    intro I a0 x1 x2 x3 H locs ls ka0 rx1 rx2 rx3 hF hl hf
    cases hf
  | n + 1 => by
    have ih : G_J7_fill_292_5 p l e s m args below meth c D cy B L K P J res (f_J7_fill_292_5 K P  n)  := b_J7_fill_292_5 C0 hr hWT  n
    intro I a0 x1 x2 x3 H locs ls ka0 rx1 rx2 rx3 hF hl hf
    rw [f_J7_fill_292_5] at hf
    refine lv_iload_n C0.1 C0.2.1 dJ7_fill_53178_5 rfl (lv_at hl 2 rfl) ?_
    refine lv_iload_n C0.1 C0.2.1 dJ7_fill_53178_6 rfl (lv_at hl 3 rfl) ?_
    refine fl_icmp_ge (tgt := 20) C0 rx2 rx3 dJ7_fill_53178_7 (by decide) (fun c1 => ?_) (fun c1 => ?_)
    · replace hf := (if_pos c1).symm.trans hf
      cases hf
      exact fl_vret C0 hF hr rfl dJ7_fill_53178_20
    · replace hf := (if_neg c1).symm.trans hf
      refine lv_aload_n C0.1 C0.2.1 dJ7_fill_53178_10 rfl (lv_at hl 0 rfl) ?_
      refine lv_iload_n C0.1 C0.2.1 dJ7_fill_53178_11 rfl (lv_at hl 2 rfl) ?_
      refine lv_iload_n C0.1 C0.2.1 dJ7_fill_53178_12 rfl (lv_at hl 1 rfl) ?_
      obtain ⟨hc, hf⟩ := ck_f hf
      refine fl_iast (n := 48) C0 hF ka0 rx2 rx1 hc dJ7_fill_53178_13 (fun H locs hF2 => ?_)
      obtain ⟨I2, eI2, hf⟩ := bnd_f hf
      rw [eI2] at hF2
      refine fl_iinc (lv' := [(2, iv (wr (x2 + 1))), (0, .ref a0), (1, iv x1), (3, iv x3)]) C0 dJ7_fill_53178_14 hl (k := 2) rfl (by decide) rfl (fun ls hl => ?_)
      refine fl_goto (tgt := 5) C0 dJ7_fill_53178_17 (by decide) ?_
      exact ih I2 a0 x1 ((wr (x2 + 1))) x3 _ _ _ ka0 rx1 ((rg_wr _)) rx3 hF2 (lv_sub hl [1, 2, 0, 3] rfl) hf
theorem pm_J7_fill_292 : plainM yJ7_fill_53178 2 := by decide +kernel
set_option maxRecDepth 100000 in
set_option maxHeartbeats 4000000 in
theorem c_J7_fill_292 (l : Launch) (D : va_G) (cy : Nat → ClassId) (B : Nat) (L : List Nat) (K : KT) (P : PT) (J : IT) (hWT : WT K P) (I : IT) (a0 : Nat) (x1 : Int) (ka0 : K a0 = 292) (rx1 : rg x1) {I' : IT} (hf : f_J7_fill_292 K P I a0 x1 = some I') : Met l yJ7_fill_53178 [.code yJ7_fill_53178 cJ7_fill_53178 4 none] rm_J7_fill_292 (va_Pc [.ref a0, iv x1] (FW D cy B L K P J I)) (QV D cy B L K P J I') 0 0 (fun q => B ≤ q) := by
  refine fl_body (own := "java/util/Arrays") [.ref a0, iv x1] (by decide) rfl (Nat.le_of_ble_eq_true rfl) ?_
  intro p e s m args below meth c ls C0 hr hF hl
  have hl : lv_has ls 4 [(0, .ref a0), (1, iv x1)] := hl
  unfold f_J7_fill_292 at hf
  refine fl_iconst C0 dJ7_fill_53178_0 ?_
  refine lv_istore_n (lv' := [(2, iv 0), (0, .ref a0), (1, iv x1)]) C0.1 C0.2.1 dJ7_fill_53178_1 rfl hl (by decide) rfl (fun ls hl => ?_)
  refine lv_aload_n C0.1 C0.2.1 dJ7_fill_53178_2 rfl (lv_at hl 1 rfl) ?_
  refine fl_alen (n := 48) (kd := 0) C0 hF ka0 (by decide) dJ7_fill_53178_3 ?_
  refine lv_istore_n (lv' := [(3, iv 48), (2, iv 0), (0, .ref a0), (1, iv x1)]) C0.1 C0.2.1 dJ7_fill_53178_4 rfl hl (by decide) rfl (fun ls hl => ?_)
  exact b_J7_fill_292_5 C0 hr hWT  FU I a0 x1 0 48 _ _ _ ka0 rx1 ((rgk 0 rfl)) ((rgk 48 rfl)) hF (lv_sub hl [2, 3, 1, 0] rfl) hf
-- java/util/Arrays.fill([II)V
abbrev rm_J7_fill_168 : Room := { frames := 0, cells := 0, slots := 0, locals := 0 }
def f_J7_fill_168_5 (K : KT) (P : PT) : Nat → IT → Nat → Int → Int → Int → Option (IT)
  | 0, _, _, _, _, _ => none
  | n + 1, I, a0, x1, x2, x3 => if x3 ≤ x2 then (some I) else (ck (0 ≤ x2 ∧ x2 < 17) <| bnd (up I a0 (x2 : Int).toNat x1) fun I2 => (f_J7_fill_168_5 K P  n) I2 a0 x1 ((wr (x2 + 1))) x3)
def f_J7_fill_168 (K : KT) (P : PT) (I : IT) (a0 : Nat) (x1 : Int) : Option (IT) := f_J7_fill_168_5 K P  FU I a0 x1 0 17
abbrev G_J7_fill_168_5 (p : Program) (l : Launch) (e : Env) (s : State) (m : MethodId) (args : Array Value) (below : List Frame) (meth : Method) (c : Code) (D : va_G) (cy : Nat → ClassId) (B : Nat) (L : List Nat) (K : KT) (P : PT) (J : IT) (res : IT) (f : IT → Nat → Int → Int → Int → Option (IT)) : Prop := ∀ (I : IT) (a0 : Nat) (x1 : Int) (x2 : Int) (x3 : Int) (H : Heap) (locs : List Loc) (ls : Array Slot), K a0 = 168 → rg x1 → rg x2 → rg x3 → FS D cy B L K P J s.heap I H locs → lv_has ls 4 [(0, .ref a0), (1, iv x1), (2, iv x2), (3, iv x3)] → f I a0 x1 x2 x3 = some res → W p l e rm_J7_fill_168 s m args below meth c H locs 0 0 (MQ below (QV D cy B L K P J res) args s 0 0 (fun q => B ≤ q)) (F0 m 5 ls [])
set_option maxRecDepth 100000 in
set_option maxHeartbeats 4000000 in
theorem b_J7_fill_168_5 {p : Program} {l : Launch} {e : Env} {s : State} {m : MethodId} {args : Array Value} {below : List Frame} {meth : Method} {c : Code} {D : va_G} {cy : Nat → ClassId} {B : Nat} {L : List Nat} {K : KT} {P : PT} {J : IT} {res : IT} (C0 : FC D cy B p s m meth c "java/util/Arrays" cJ7_fill_53178 4) (hr : meth.sig.returnType = none) (hWT : WT K P) : ∀ n : Nat, G_J7_fill_168_5 p l e s m args below meth c D cy B L K P J res (f_J7_fill_168_5 K P  n)
  | 0 => by
    intro I a0 x1 x2 x3 H locs ls ka0 rx1 rx2 rx3 hF hl hf
    cases hf
  | n + 1 => by
    have ih : G_J7_fill_168_5 p l e s m args below meth c D cy B L K P J res (f_J7_fill_168_5 K P  n)  := b_J7_fill_168_5 C0 hr hWT  n
    intro I a0 x1 x2 x3 H locs ls ka0 rx1 rx2 rx3 hF hl hf
    rw [f_J7_fill_168_5] at hf
    refine lv_iload_n C0.1 C0.2.1 dJ7_fill_53178_5 rfl (lv_at hl 2 rfl) ?_
    refine lv_iload_n C0.1 C0.2.1 dJ7_fill_53178_6 rfl (lv_at hl 3 rfl) ?_
    refine fl_icmp_ge (tgt := 20) C0 rx2 rx3 dJ7_fill_53178_7 (by decide) (fun c1 => ?_) (fun c1 => ?_)
    · replace hf := (if_pos c1).symm.trans hf
      cases hf
      exact fl_vret C0 hF hr rfl dJ7_fill_53178_20
    · replace hf := (if_neg c1).symm.trans hf
      refine lv_aload_n C0.1 C0.2.1 dJ7_fill_53178_10 rfl (lv_at hl 0 rfl) ?_
      refine lv_iload_n C0.1 C0.2.1 dJ7_fill_53178_11 rfl (lv_at hl 2 rfl) ?_
      refine lv_iload_n C0.1 C0.2.1 dJ7_fill_53178_12 rfl (lv_at hl 1 rfl) ?_
      obtain ⟨hc, hf⟩ := ck_f hf
      refine fl_iast (n := 17) C0 hF ka0 rx2 rx1 hc dJ7_fill_53178_13 (fun H locs hF2 => ?_)
      obtain ⟨I2, eI2, hf⟩ := bnd_f hf
      rw [eI2] at hF2
      refine fl_iinc (lv' := [(2, iv (wr (x2 + 1))), (0, .ref a0), (1, iv x1), (3, iv x3)]) C0 dJ7_fill_53178_14 hl (k := 2) rfl (by decide) rfl (fun ls hl => ?_)
      refine fl_goto (tgt := 5) C0 dJ7_fill_53178_17 (by decide) ?_
      exact ih I2 a0 x1 ((wr (x2 + 1))) x3 _ _ _ ka0 rx1 ((rg_wr _)) rx3 hF2 (lv_sub hl [1, 2, 0, 3] rfl) hf
theorem pm_J7_fill_168 : plainM yJ7_fill_53178 2 := by decide +kernel
set_option maxRecDepth 100000 in
set_option maxHeartbeats 4000000 in
theorem c_J7_fill_168 (l : Launch) (D : va_G) (cy : Nat → ClassId) (B : Nat) (L : List Nat) (K : KT) (P : PT) (J : IT) (hWT : WT K P) (I : IT) (a0 : Nat) (x1 : Int) (ka0 : K a0 = 168) (rx1 : rg x1) {I' : IT} (hf : f_J7_fill_168 K P I a0 x1 = some I') : Met l yJ7_fill_53178 [.code yJ7_fill_53178 cJ7_fill_53178 4 none] rm_J7_fill_168 (va_Pc [.ref a0, iv x1] (FW D cy B L K P J I)) (QV D cy B L K P J I') 0 0 (fun q => B ≤ q) := by
  refine fl_body (own := "java/util/Arrays") [.ref a0, iv x1] (by decide) rfl (Nat.le_of_ble_eq_true rfl) ?_
  intro p e s m args below meth c ls C0 hr hF hl
  have hl : lv_has ls 4 [(0, .ref a0), (1, iv x1)] := hl
  unfold f_J7_fill_168 at hf
  refine fl_iconst C0 dJ7_fill_53178_0 ?_
  refine lv_istore_n (lv' := [(2, iv 0), (0, .ref a0), (1, iv x1)]) C0.1 C0.2.1 dJ7_fill_53178_1 rfl hl (by decide) rfl (fun ls hl => ?_)
  refine lv_aload_n C0.1 C0.2.1 dJ7_fill_53178_2 rfl (lv_at hl 1 rfl) ?_
  refine fl_alen (n := 17) (kd := 0) C0 hF ka0 (by decide) dJ7_fill_53178_3 ?_
  refine lv_istore_n (lv' := [(3, iv 17), (2, iv 0), (0, .ref a0), (1, iv x1)]) C0.1 C0.2.1 dJ7_fill_53178_4 rfl hl (by decide) rfl (fun ls hl => ?_)
  exact b_J7_fill_168_5 C0 hr hWT  FU I a0 x1 0 17 _ _ _ ka0 rx1 ((rgk 0 rfl)) ((rgk 17 rfl)) hF (lv_sub hl [2, 3, 1, 0] rfl) hf
-- java/util/Arrays.fill([II)V
abbrev rm_J7_fill_116 : Room := { frames := 0, cells := 0, slots := 0, locals := 0 }
def f_J7_fill_116_5 (K : KT) (P : PT) : Nat → IT → Nat → Int → Int → Int → Option (IT)
  | 0, _, _, _, _, _ => none
  | n + 1, I, a0, x1, x2, x3 => if x3 ≤ x2 then (some I) else (ck (0 ≤ x2 ∧ x2 < 4) <| bnd (up I a0 (x2 : Int).toNat x1) fun I2 => (f_J7_fill_116_5 K P  n) I2 a0 x1 ((wr (x2 + 1))) x3)
def f_J7_fill_116 (K : KT) (P : PT) (I : IT) (a0 : Nat) (x1 : Int) : Option (IT) := f_J7_fill_116_5 K P  FU I a0 x1 0 4
abbrev G_J7_fill_116_5 (p : Program) (l : Launch) (e : Env) (s : State) (m : MethodId) (args : Array Value) (below : List Frame) (meth : Method) (c : Code) (D : va_G) (cy : Nat → ClassId) (B : Nat) (L : List Nat) (K : KT) (P : PT) (J : IT) (res : IT) (f : IT → Nat → Int → Int → Int → Option (IT)) : Prop := ∀ (I : IT) (a0 : Nat) (x1 : Int) (x2 : Int) (x3 : Int) (H : Heap) (locs : List Loc) (ls : Array Slot), K a0 = 116 → rg x1 → rg x2 → rg x3 → FS D cy B L K P J s.heap I H locs → lv_has ls 4 [(0, .ref a0), (1, iv x1), (2, iv x2), (3, iv x3)] → f I a0 x1 x2 x3 = some res → W p l e rm_J7_fill_116 s m args below meth c H locs 0 0 (MQ below (QV D cy B L K P J res) args s 0 0 (fun q => B ≤ q)) (F0 m 5 ls [])
set_option maxRecDepth 100000 in
set_option maxHeartbeats 4000000 in
theorem b_J7_fill_116_5 {p : Program} {l : Launch} {e : Env} {s : State} {m : MethodId} {args : Array Value} {below : List Frame} {meth : Method} {c : Code} {D : va_G} {cy : Nat → ClassId} {B : Nat} {L : List Nat} {K : KT} {P : PT} {J : IT} {res : IT} (C0 : FC D cy B p s m meth c "java/util/Arrays" cJ7_fill_53178 4) (hr : meth.sig.returnType = none) (hWT : WT K P) : ∀ n : Nat, G_J7_fill_116_5 p l e s m args below meth c D cy B L K P J res (f_J7_fill_116_5 K P  n)
  | 0 => by
    intro I a0 x1 x2 x3 H locs ls ka0 rx1 rx2 rx3 hF hl hf
    cases hf
  | n + 1 => by
    have ih : G_J7_fill_116_5 p l e s m args below meth c D cy B L K P J res (f_J7_fill_116_5 K P  n)  := b_J7_fill_116_5 C0 hr hWT  n
    intro I a0 x1 x2 x3 H locs ls ka0 rx1 rx2 rx3 hF hl hf
    rw [f_J7_fill_116_5] at hf
    refine lv_iload_n C0.1 C0.2.1 dJ7_fill_53178_5 rfl (lv_at hl 2 rfl) ?_
    refine lv_iload_n C0.1 C0.2.1 dJ7_fill_53178_6 rfl (lv_at hl 3 rfl) ?_
    refine fl_icmp_ge (tgt := 20) C0 rx2 rx3 dJ7_fill_53178_7 (by decide) (fun c1 => ?_) (fun c1 => ?_)
    · replace hf := (if_pos c1).symm.trans hf
      cases hf
      exact fl_vret C0 hF hr rfl dJ7_fill_53178_20
    · replace hf := (if_neg c1).symm.trans hf
      refine lv_aload_n C0.1 C0.2.1 dJ7_fill_53178_10 rfl (lv_at hl 0 rfl) ?_
      refine lv_iload_n C0.1 C0.2.1 dJ7_fill_53178_11 rfl (lv_at hl 2 rfl) ?_
      refine lv_iload_n C0.1 C0.2.1 dJ7_fill_53178_12 rfl (lv_at hl 1 rfl) ?_
      obtain ⟨hc, hf⟩ := ck_f hf
      refine fl_iast (n := 4) C0 hF ka0 rx2 rx1 hc dJ7_fill_53178_13 (fun H locs hF2 => ?_)
      obtain ⟨I2, eI2, hf⟩ := bnd_f hf
      rw [eI2] at hF2
      refine fl_iinc (lv' := [(2, iv (wr (x2 + 1))), (0, .ref a0), (1, iv x1), (3, iv x3)]) C0 dJ7_fill_53178_14 hl (k := 2) rfl (by decide) rfl (fun ls hl => ?_)
      refine fl_goto (tgt := 5) C0 dJ7_fill_53178_17 (by decide) ?_
      exact ih I2 a0 x1 ((wr (x2 + 1))) x3 _ _ _ ka0 rx1 ((rg_wr _)) rx3 hF2 (lv_sub hl [1, 2, 0, 3] rfl) hf
theorem pm_J7_fill_116 : plainM yJ7_fill_53178 2 := by decide +kernel
set_option maxRecDepth 100000 in
set_option maxHeartbeats 4000000 in
theorem c_J7_fill_116 (l : Launch) (D : va_G) (cy : Nat → ClassId) (B : Nat) (L : List Nat) (K : KT) (P : PT) (J : IT) (hWT : WT K P) (I : IT) (a0 : Nat) (x1 : Int) (ka0 : K a0 = 116) (rx1 : rg x1) {I' : IT} (hf : f_J7_fill_116 K P I a0 x1 = some I') : Met l yJ7_fill_53178 [.code yJ7_fill_53178 cJ7_fill_53178 4 none] rm_J7_fill_116 (va_Pc [.ref a0, iv x1] (FW D cy B L K P J I)) (QV D cy B L K P J I') 0 0 (fun q => B ≤ q) := by
  refine fl_body (own := "java/util/Arrays") [.ref a0, iv x1] (by decide) rfl (Nat.le_of_ble_eq_true rfl) ?_
  intro p e s m args below meth c ls C0 hr hF hl
  have hl : lv_has ls 4 [(0, .ref a0), (1, iv x1)] := hl
  unfold f_J7_fill_116 at hf
  refine fl_iconst C0 dJ7_fill_53178_0 ?_
  refine lv_istore_n (lv' := [(2, iv 0), (0, .ref a0), (1, iv x1)]) C0.1 C0.2.1 dJ7_fill_53178_1 rfl hl (by decide) rfl (fun ls hl => ?_)
  refine lv_aload_n C0.1 C0.2.1 dJ7_fill_53178_2 rfl (lv_at hl 1 rfl) ?_
  refine fl_alen (n := 4) (kd := 0) C0 hF ka0 (by decide) dJ7_fill_53178_3 ?_
  refine lv_istore_n (lv' := [(3, iv 4), (2, iv 0), (0, .ref a0), (1, iv x1)]) C0.1 C0.2.1 dJ7_fill_53178_4 rfl hl (by decide) rfl (fun ls hl => ?_)
  exact b_J7_fill_116_5 C0 hr hWT  FU I a0 x1 0 4 _ _ _ ka0 rx1 ((rgk 0 rfl)) ((rgk 4 rfl)) hF (lv_sub hl [2, 3, 1, 0] rfl) hf
-- RejudgeHall$Entry.waits()Z
abbrev rm_X0_waits : Room := { frames := 0, cells := 0, slots := 0, locals := 0 }
def f_X0_waits (K : KT) (P : PT) (I : IT) (a0 : Nat) : Option (Int) := if (I a0 4) = (-1) then (some 1) else (some 0)
theorem pm_X0_waits : plainM yX0_waits 0 := by decide +kernel
set_option maxRecDepth 100000 in
set_option maxHeartbeats 4000000 in
theorem c_X0_waits (l : Launch) (D : va_G) (cy : Nat → ClassId) (B : Nat) (L : List Nat) (K : KT) (P : PT) (J : IT) (hWT : WT K P) (I : IT) (a0 : Nat) (ka0 : K a0 = 1) {r : Int} (hf : f_X0_waits K P I a0 = some r) : Met l yX0_waits [.code yX0_waits cX0_waits 1 (some .boolean)] rm_X0_waits (va_Pc [.ref a0] (FW D cy B L K P J I)) (QI D cy B L K P J (r, I)) 0 0 (fun q => B ≤ q) := by
  refine fl_body (own := "RejudgeHall$Entry") [.ref a0] (by decide) rfl (Nat.le_of_ble_eq_true rfl) ?_
  intro p e s m args below meth c ls C0 hr hF hl
  have hl : lv_has ls 1 [(0, .ref a0)] := hl
  unfold f_X0_waits at hf
  refine lv_aload_n C0.1 C0.2.1 dX0_waits_0 rfl (lv_at hl 0 rfl) ?_
  refine fl_geti (k := 4) ck_1 C0 hF ka0 rfl ⟨rfl, rfl⟩ aw_758 dX0_waits_1 ?_
  refine fl_iconst C0 dX0_waits_4 ?_
  refine fl_icmp_ne (tgt := 12) C0 (hF.rI _ _) (rgk (-1) rfl) dX0_waits_5 (by decide) (fun c1 => ?_) (fun c1 => ?_)
  · replace hf := (if_neg c1).symm.trans hf
    refine fl_iconst C0 dX0_waits_12 ?_
    cases hf
    exact fl_zret C0 hF hr (rgk 0 rfl) (Or.inl rfl) rfl dX0_waits_13
  · replace hf := (if_pos c1).symm.trans hf
    refine fl_iconst C0 dX0_waits_8 ?_
    refine fl_goto (tgt := 13) C0 dX0_waits_9 (by decide) ?_
    cases hf
    exact fl_zret C0 hF hr (rgk 1 rfl) (Or.inr rfl) rfl dX0_waits_13
-- RejudgeHall$Entry.letWait()V
abbrev rm_X0_letWait : Room := { frames := 0, cells := 0, slots := 0, locals := 0 }
def f_X0_letWait (K : KT) (P : PT) (I : IT) (a0 : Nat) : Option (IT) := bnd (up I a0 4 (-1)) fun I1 => bnd (up I1 a0 5 (-1)) fun I2 => bnd (up I2 a0 6 0) fun I3 => bnd (up I3 a0 7 (-1)) fun I4 => some I4
theorem pm_X0_letWait : plainM yX0_letWait 0 := by decide +kernel
set_option maxRecDepth 100000 in
set_option maxHeartbeats 4000000 in
theorem c_X0_letWait (l : Launch) (D : va_G) (cy : Nat → ClassId) (B : Nat) (L : List Nat) (K : KT) (P : PT) (J : IT) (hWT : WT K P) (I : IT) (a0 : Nat) (ka0 : K a0 = 1) {I' : IT} (hf : f_X0_letWait K P I a0 = some I') : Met l yX0_letWait [.code yX0_letWait cX0_letWait 1 none] rm_X0_letWait (va_Pc [.ref a0] (FW D cy B L K P J I)) (QV D cy B L K P J I') 0 0 (fun q => B ≤ q) := by
  refine fl_body (own := "RejudgeHall$Entry") [.ref a0] (by decide) rfl (Nat.le_of_ble_eq_true rfl) ?_
  intro p e s m args below meth c ls C0 hr hF hl
  have hl : lv_has ls 1 [(0, .ref a0)] := hl
  unfold f_X0_letWait at hf
  refine lv_aload_n C0.1 C0.2.1 dX0_letWait_0 rfl (lv_at hl 0 rfl) ?_
  refine fl_iconst C0 dX0_letWait_1 ?_
  refine fl_puti (k := 4) ck_1 C0 hF ka0 rfl (rgk (-1) rfl) ⟨rfl, rfl, rfl⟩ aw_758 dX0_letWait_2 (fun H locs hF1 => ?_)
  obtain ⟨I1, eI1, hf⟩ := bnd_f hf
  rw [eI1] at hF1
  refine lv_aload_n C0.1 C0.2.1 dX0_letWait_5 rfl (lv_at hl 0 rfl) ?_
  refine fl_iconst C0 dX0_letWait_6 ?_
  refine fl_puti (k := 5) ck_1 C0 hF1 ka0 rfl (rgk (-1) rfl) ⟨rfl, rfl, rfl⟩ aw_760 dX0_letWait_7 (fun H locs hF2 => ?_)
  obtain ⟨I2, eI2, hf⟩ := bnd_f hf
  rw [eI2] at hF2
  refine lv_aload_n C0.1 C0.2.1 dX0_letWait_10 rfl (lv_at hl 0 rfl) ?_
  refine fl_iconst C0 dX0_letWait_11 ?_
  refine fl_puti (k := 6) ck_1 C0 hF2 ka0 rfl (rgk 0 rfl) ⟨rfl, rfl, rfl⟩ aw_762 dX0_letWait_12 (fun H locs hF3 => ?_)
  obtain ⟨I3, eI3, hf⟩ := bnd_f hf
  rw [eI3] at hF3
  refine lv_aload_n C0.1 C0.2.1 dX0_letWait_15 rfl (lv_at hl 0 rfl) ?_
  refine fl_iconst C0 dX0_letWait_16 ?_
  refine fl_puti (k := 7) ck_1 C0 hF3 ka0 rfl (rgk (-1) rfl) ⟨rfl, rfl, rfl⟩ aw_764 dX0_letWait_17 (fun H locs hF4 => ?_)
  obtain ⟨I4, eI4, hf⟩ := bnd_f hf
  rw [eI4] at hF4
  cases hf
  exact fl_vret C0 hF4 hr rfl dX0_letWait_20
-- RejudgeHall$Problem.pointsOf(I)I
abbrev rm_X2_pointsOf : Room := { frames := 0, cells := 0, slots := 0, locals := 0 }
def f_X2_pointsOf_26 (K : KT) (P : PT) (k4 : Nat → Int → Int → Int → Option (Int)) (I : IT) (a0 : Nat) (x1 : Int) (x2 : Int) (x3 : Int) : Option (Int) := k4 a0 x1 x2 ((wr (x3 + 1)))
def f_X2_pointsOf_4 (K : KT) (P : PT) (I : IT) : Nat → Nat → Int → Int → Int → Option (Int)
  | 0, _, _, _, _ => none
  | n + 1, a0, x1, x2, x3 => if 4 ≤ x3 then (some x2) else (if (ban (bsr x1 x3) 1) = 0 then (f_X2_pointsOf_26 K P ((f_X2_pointsOf_4 K P  I n)) I a0 x1 x2 x3) else (ck (0 ≤ x3 ∧ x3 < 4) <| f_X2_pointsOf_26 K P ((f_X2_pointsOf_4 K P  I n)) I a0 x1 ((wr (x2 + (I ((P a0 4)) (x3 : Int).toNat)))) x3))
def f_X2_pointsOf (K : KT) (P : PT) (I : IT) (a0 : Nat) (x1 : Int) : Option (Int) := f_X2_pointsOf_4 K P  I FU a0 x1 0 0
abbrev G_X2_pointsOf_26 (p : Program) (l : Launch) (e : Env) (s : State) (m : MethodId) (args : Array Value) (below : List Frame) (meth : Method) (c : Code) (D : va_G) (cy : Nat → ClassId) (B : Nat) (L : List Nat) (K : KT) (P : PT) (J : IT) (res : Int) (I : IT) (f : Nat → Int → Int → Int → Option (Int)) : Prop := ∀ (a0 : Nat) (x1 : Int) (x2 : Int) (x3 : Int) (H : Heap) (locs : List Loc) (ls : Array Slot), K a0 = 3 → rg x1 → rg x2 → rg x3 → FS D cy B L K P J s.heap I H locs → lv_has ls 4 [(0, .ref a0), (1, iv x1), (2, iv x2), (3, iv x3)] → f a0 x1 x2 x3 = some res → W p l e rm_X2_pointsOf s m args below meth c H locs 0 0 (MQ below (QI D cy B L K P J (res, I)) args s 0 0 (fun q => B ≤ q)) (F0 m 26 ls [])
abbrev G_X2_pointsOf_4 (p : Program) (l : Launch) (e : Env) (s : State) (m : MethodId) (args : Array Value) (below : List Frame) (meth : Method) (c : Code) (D : va_G) (cy : Nat → ClassId) (B : Nat) (L : List Nat) (K : KT) (P : PT) (J : IT) (res : Int) (I : IT) (f : Nat → Int → Int → Int → Option (Int)) : Prop := ∀ (a0 : Nat) (x1 : Int) (x2 : Int) (x3 : Int) (H : Heap) (locs : List Loc) (ls : Array Slot), K a0 = 3 → rg x1 → rg x2 → rg x3 → FS D cy B L K P J s.heap I H locs → lv_has ls 4 [(0, .ref a0), (1, iv x1), (2, iv x2), (3, iv x3)] → f a0 x1 x2 x3 = some res → W p l e rm_X2_pointsOf s m args below meth c H locs 0 0 (MQ below (QI D cy B L K P J (res, I)) args s 0 0 (fun q => B ≤ q)) (F0 m 4 ls [])
set_option maxRecDepth 100000 in
set_option maxHeartbeats 4000000 in
theorem b_X2_pointsOf_26 {p : Program} {l : Launch} {e : Env} {s : State} {m : MethodId} {args : Array Value} {below : List Frame} {meth : Method} {c : Code} {D : va_G} {cy : Nat → ClassId} {B : Nat} {L : List Nat} {K : KT} {P : PT} {J : IT} {res : Int} {I : IT} (C0 : FC D cy B p s m meth c "RejudgeHall$Problem" cX2_pointsOf 4) (hr : meth.sig.returnType = (some .int)) (hWT : WT K P) {k4 : Nat → Int → Int → Int → Option (Int)} (hk4 : G_X2_pointsOf_4 p l e s m args below meth c D cy B L K P J res I k4) : G_X2_pointsOf_26 p l e s m args below meth c D cy B L K P J res I (f_X2_pointsOf_26 K P k4 I) := by
  intro a0 x1 x2 x3 H locs ls ka0 rx1 rx2 rx3 hF hl hf
  unfold f_X2_pointsOf_26 at hf
  refine fl_iinc (lv' := [(3, iv (wr (x3 + 1))), (0, .ref a0), (1, iv x1), (2, iv x2)]) C0 dX2_pointsOf_26 hl (k := 3) rfl (by decide) rfl (fun ls hl => ?_)
  refine fl_goto (tgt := 4) C0 dX2_pointsOf_29 (by decide) ?_
  exact hk4  a0 x1 x2 ((wr (x3 + 1))) _ _ _ ka0 rx1 rx2 ((rg_wr _)) hF (lv_sub hl [1, 2, 3, 0] rfl) hf
set_option maxRecDepth 100000 in
set_option maxHeartbeats 4000000 in
theorem b_X2_pointsOf_4 {p : Program} {l : Launch} {e : Env} {s : State} {m : MethodId} {args : Array Value} {below : List Frame} {meth : Method} {c : Code} {D : va_G} {cy : Nat → ClassId} {B : Nat} {L : List Nat} {K : KT} {P : PT} {J : IT} {res : Int} {I : IT} (C0 : FC D cy B p s m meth c "RejudgeHall$Problem" cX2_pointsOf 4) (hr : meth.sig.returnType = (some .int)) (hWT : WT K P) : ∀ n : Nat, G_X2_pointsOf_4 p l e s m args below meth c D cy B L K P J res I (f_X2_pointsOf_4 K P  I n)
  | 0 => by
    intro a0 x1 x2 x3 H locs ls ka0 rx1 rx2 rx3 hF hl hf
    cases hf
  | n + 1 => by
    have ih : G_X2_pointsOf_4 p l e s m args below meth c D cy B L K P J res I (f_X2_pointsOf_4 K P  I n)  := b_X2_pointsOf_4 C0 hr hWT  n
    intro a0 x1 x2 x3 H locs ls ka0 rx1 rx2 rx3 hF hl hf
    rw [f_X2_pointsOf_4] at hf
    refine lv_iload_n C0.1 C0.2.1 dX2_pointsOf_4 rfl (lv_at hl 3 rfl) ?_
    refine fl_iconst C0 dX2_pointsOf_5 ?_
    refine fl_icmp_ge (tgt := 32) C0 rx3 (rgk 4 rfl) dX2_pointsOf_6 (by decide) (fun c1 => ?_) (fun c1 => ?_)
    · replace hf := (if_pos c1).symm.trans hf
      refine lv_iload_n C0.1 C0.2.1 dX2_pointsOf_32 rfl (lv_at hl 2 rfl) ?_
      cases hf
      exact fl_iret C0 hF hr rx2 rfl dX2_pointsOf_33
    · replace hf := (if_neg c1).symm.trans hf
      refine lv_iload_n C0.1 C0.2.1 dX2_pointsOf_9 rfl (lv_at hl 1 rfl) ?_
      refine lv_iload_n C0.1 C0.2.1 dX2_pointsOf_10 rfl (lv_at hl 3 rfl) ?_
      refine fl_ishr C0 dX2_pointsOf_11 ?_
      refine fl_iconst C0 dX2_pointsOf_12 ?_
      refine fl_iand C0 dX2_pointsOf_13 ?_
      refine fl_if_eq (tgt := 26) C0 (rg_ban _ _) dX2_pointsOf_14 (by decide) (fun c2 => ?_) (fun c2 => ?_)
      · replace hf := (if_pos c2).symm.trans hf
        exact b_X2_pointsOf_26 C0 hr hWT ih  a0 x1 x2 x3 _ _ _ ka0 rx1 rx2 rx3 hF (lv_sub hl [0, 1, 2, 3] rfl) hf
      · replace hf := (if_neg c2).symm.trans hf
        refine lv_iload_n C0.1 C0.2.1 dX2_pointsOf_17 rfl (lv_at hl 2 rfl) ?_
        refine lv_aload_n C0.1 C0.2.1 dX2_pointsOf_18 rfl (lv_at hl 0 rfl) ?_
        refine fl_getr (k := 4) (t := 116) ck_3 C0 hF ka0 rfl (wt_at (k := 4) (t := 116) hWT ka0 rfl) rfl ⟨rfl, rfl⟩ aw_592 dX2_pointsOf_19 ?_
        refine lv_iload_n C0.1 C0.2.1 dX2_pointsOf_22 rfl (lv_at hl 3 rfl) ?_
        obtain ⟨hc, hf⟩ := ck_f hf
        refine fl_iald (n := 4) C0 hF (wt_at (k := 4) (t := 116) hWT ka0 rfl) rx3 hc dX2_pointsOf_23 ?_
        refine fl_iadd C0 dX2_pointsOf_24 ?_
        refine lv_istore_n (lv' := [(2, iv (wr (x2 + (I ((P a0 4)) (x3 : Int).toNat)))), (0, .ref a0), (1, iv x1), (3, iv x3)]) C0.1 C0.2.1 dX2_pointsOf_25 rfl hl (by decide) rfl (fun ls hl => ?_)
        exact b_X2_pointsOf_26 C0 hr hWT ih  a0 x1 ((wr (x2 + (I ((P a0 4)) (x3 : Int).toNat)))) x3 _ _ _ ka0 rx1 ((rg_wr _)) rx3 hF (lv_sub hl [1, 2, 0, 3] rfl) hf
theorem pm_X2_pointsOf : plainM yX2_pointsOf 1 := by decide +kernel
set_option maxRecDepth 100000 in
set_option maxHeartbeats 4000000 in
theorem c_X2_pointsOf (l : Launch) (D : va_G) (cy : Nat → ClassId) (B : Nat) (L : List Nat) (K : KT) (P : PT) (J : IT) (hWT : WT K P) (I : IT) (a0 : Nat) (x1 : Int) (ka0 : K a0 = 3) (rx1 : rg x1) {r : Int} (hf : f_X2_pointsOf K P I a0 x1 = some r) : Met l yX2_pointsOf [.code yX2_pointsOf cX2_pointsOf 4 (some .int)] rm_X2_pointsOf (va_Pc [.ref a0, iv x1] (FW D cy B L K P J I)) (QI D cy B L K P J (r, I)) 0 0 (fun q => B ≤ q) := by
  refine fl_body (own := "RejudgeHall$Problem") [.ref a0, iv x1] (by decide) rfl (Nat.le_of_ble_eq_true rfl) ?_
  intro p e s m args below meth c ls C0 hr hF hl
  have hl : lv_has ls 4 [(0, .ref a0), (1, iv x1)] := hl
  unfold f_X2_pointsOf at hf
  refine fl_iconst C0 dX2_pointsOf_0 ?_
  refine lv_istore_n (lv' := [(2, iv 0), (0, .ref a0), (1, iv x1)]) C0.1 C0.2.1 dX2_pointsOf_1 rfl hl (by decide) rfl (fun ls hl => ?_)
  refine fl_iconst C0 dX2_pointsOf_2 ?_
  refine lv_istore_n (lv' := [(3, iv 0), (2, iv 0), (0, .ref a0), (1, iv x1)]) C0.1 C0.2.1 dX2_pointsOf_3 rfl hl (by decide) rfl (fun ls hl => ?_)
  exact b_X2_pointsOf_4 C0 hr hWT  FU  a0 x1 0 0 _ _ _ ka0 rx1 ((rgk 0 rfl)) ((rgk 0 rfl)) hF (lv_sub hl [2, 3, 1, 0] rfl) hf
-- RejudgeHall$Program.takeFrom(LRejudgeHall$Program;)V
abbrev rm_X3_takeFrom : Room := { frames := 1, cells := 0, slots := 0, locals := 26 }
def f_X3_takeFrom (K : KT) (P : PT) (I : IT) (a0 : Nat) (a1 : Nat) : Option (IT) := bnd (cpy I ((P a1 0)) ((P a0 0)) (0 : Int).toNat (0 : Int).toNat (16 : Int).toNat) fun I1 => bnd (cpy I1 ((P a1 1)) ((P a0 1)) (0 : Int).toNat (0 : Int).toNat (16 : Int).toNat) fun I2 => bnd (up I2 a0 2 (I2 a1 2)) fun I3 => bnd (up I3 a1 2 0) fun I4 => some I4
theorem pm_X3_takeFrom : plainM yX3_takeFrom 1 := by decide +kernel
set_option maxRecDepth 100000 in
set_option maxHeartbeats 4000000 in
theorem c_X3_takeFrom (l : Launch) (D : va_G) (cy : Nat → ClassId) (B : Nat) (L : List Nat) (K : KT) (P : PT) (J : IT) (hWT : WT K P) (I : IT) (a0 : Nat) (a1 : Nat) (ka0 : K a0 = 4) (ka1 : K a1 = 4) {I' : IT} (hf : f_X3_takeFrom K P I a0 a1 = some I') : Met l yX3_takeFrom [.code yX3_takeFrom cX3_takeFrom 2 none] rm_X3_takeFrom (va_Pc [.ref a0, .ref a1] (FW D cy B L K P J I)) (QV D cy B L K P J I') 0 0 (fun q => B ≤ q) := by
  refine fl_body (own := "RejudgeHall$Program") [.ref a0, .ref a1] (by decide) rfl (Nat.le_of_ble_eq_true rfl) ?_
  intro p e s m args below meth c ls C0 hr hF hl
  have hl : lv_has ls 2 [(0, .ref a0), (1, .ref a1)] := hl
  unfold f_X3_takeFrom at hf
  refine lv_aload_n C0.1 C0.2.1 dX3_takeFrom_0 rfl (lv_at hl 1 rfl) ?_
  refine fl_getr (k := 0) (t := 164) ck_4 C0 hF ka1 rfl (wt_at (k := 0) (t := 164) hWT ka1 rfl) rfl ⟨rfl, rfl⟩ aw_82 dX3_takeFrom_1 ?_
  refine fl_iconst C0 dX3_takeFrom_4 ?_
  refine lv_aload_n C0.1 C0.2.1 dX3_takeFrom_5 rfl (lv_at hl 0 rfl) ?_
  refine fl_getr (k := 0) (t := 164) ck_4 C0 hF ka0 rfl (wt_at (k := 0) (t := 164) hWT ka0 rfl) rfl ⟨rfl, rfl⟩ aw_82 dX3_takeFrom_6 ?_
  refine fl_iconst C0 dX3_takeFrom_9 ?_
  refine fl_bipush C0 dX3_takeFrom_10 (by decide) ?_
  refine fl_acopy (n0 := 16) (n1 := 16) C0 hF hl.1 (wt_at (k := 0) (t := 164) hWT ka1 rfl) (wt_at (k := 0) (t := 164) hWT ka0 rfl) (rgk 0 rfl) (rgk 0 rfl) (rgk 16 rfl) ⟨by decide, by decide, by decide, by decide, by decide⟩ aw_617 aw_619 aw_618 aw_60 (Nat.le_of_ble_eq_true rfl) (Nat.le_of_ble_eq_true rfl) dX3_takeFrom_12 (fun H locs hF1 => ?_)
  obtain ⟨I1, eI1, hf⟩ := bnd_f hf
  rw [eI1] at hF1
  refine lv_aload_n C0.1 C0.2.1 dX3_takeFrom_15 rfl (lv_at hl 1 rfl) ?_
  refine fl_getr (k := 1) (t := 164) ck_4 C0 hF1 ka1 rfl (wt_at (k := 1) (t := 164) hWT ka1 rfl) rfl ⟨rfl, rfl⟩ aw_84 dX3_takeFrom_16 ?_
  refine fl_iconst C0 dX3_takeFrom_19 ?_
  refine lv_aload_n C0.1 C0.2.1 dX3_takeFrom_20 rfl (lv_at hl 0 rfl) ?_
  refine fl_getr (k := 1) (t := 164) ck_4 C0 hF1 ka0 rfl (wt_at (k := 1) (t := 164) hWT ka0 rfl) rfl ⟨rfl, rfl⟩ aw_84 dX3_takeFrom_21 ?_
  refine fl_iconst C0 dX3_takeFrom_24 ?_
  refine fl_bipush C0 dX3_takeFrom_25 (by decide) ?_
  refine fl_acopy (n0 := 16) (n1 := 16) C0 hF1 hl.1 (wt_at (k := 1) (t := 164) hWT ka1 rfl) (wt_at (k := 1) (t := 164) hWT ka0 rfl) (rgk 0 rfl) (rgk 0 rfl) (rgk 16 rfl) ⟨by decide, by decide, by decide, by decide, by decide⟩ aw_617 aw_619 aw_618 aw_60 (Nat.le_of_ble_eq_true rfl) (Nat.le_of_ble_eq_true rfl) dX3_takeFrom_27 (fun H locs hF2 => ?_)
  obtain ⟨I2, eI2, hf⟩ := bnd_f hf
  rw [eI2] at hF2
  refine lv_aload_n C0.1 C0.2.1 dX3_takeFrom_30 rfl (lv_at hl 0 rfl) ?_
  refine lv_aload_n C0.1 C0.2.1 dX3_takeFrom_31 rfl (lv_at hl 1 rfl) ?_
  refine fl_geti (k := 2) ck_4 C0 hF2 ka1 rfl ⟨rfl, rfl⟩ aw_86 dX3_takeFrom_32 ?_
  refine fl_puti (k := 2) ck_4 C0 hF2 ka0 rfl (hF2.rI _ _) ⟨rfl, rfl, rfl⟩ aw_86 dX3_takeFrom_35 (fun H locs hF3 => ?_)
  obtain ⟨I3, eI3, hf⟩ := bnd_f hf
  rw [eI3] at hF3
  refine lv_aload_n C0.1 C0.2.1 dX3_takeFrom_38 rfl (lv_at hl 1 rfl) ?_
  refine fl_iconst C0 dX3_takeFrom_39 ?_
  refine fl_puti (k := 2) ck_4 C0 hF3 ka1 rfl (rgk 0 rfl) ⟨rfl, rfl, rfl⟩ aw_86 dX3_takeFrom_40 (fun H locs hF4 => ?_)
  obtain ⟨I4, eI4, hf⟩ := bnd_f hf
  rw [eI4] at hF4
  cases hf
  exact fl_vret C0 hF4 hr rfl dX3_takeFrom_43
-- RejudgeHall$Row.copyFrom(LRejudgeHall$Row;)V
abbrev rm_X4_copyFrom : Room := { frames := 1, cells := 0, slots := 0, locals := 26 }
def f_X4_copyFrom (K : KT) (P : PT) (I : IT) (a0 : Nat) (a1 : Nat) : Option (IT) := bnd (cpy I ((P a1 0)) ((P a0 0)) (0 : Int).toNat (0 : Int).toNat (8 : Int).toNat) fun I1 => bnd (up I1 a0 1 (I1 a1 1)) fun I2 => some I2
theorem pm_X4_copyFrom : plainM yX4_copyFrom 1 := by decide +kernel
set_option maxRecDepth 100000 in
set_option maxHeartbeats 4000000 in
theorem c_X4_copyFrom (l : Launch) (D : va_G) (cy : Nat → ClassId) (B : Nat) (L : List Nat) (K : KT) (P : PT) (J : IT) (hWT : WT K P) (I : IT) (a0 : Nat) (a1 : Nat) (ka0 : K a0 = 5) (ka1 : K a1 = 5) {I' : IT} (hf : f_X4_copyFrom K P I a0 a1 = some I') : Met l yX4_copyFrom [.code yX4_copyFrom cX4_copyFrom 2 none] rm_X4_copyFrom (va_Pc [.ref a0, .ref a1] (FW D cy B L K P J I)) (QV D cy B L K P J I') 0 0 (fun q => B ≤ q) := by
  refine fl_body (own := "RejudgeHall$Row") [.ref a0, .ref a1] (by decide) rfl (Nat.le_of_ble_eq_true rfl) ?_
  intro p e s m args below meth c ls C0 hr hF hl
  have hl : lv_has ls 2 [(0, .ref a0), (1, .ref a1)] := hl
  unfold f_X4_copyFrom at hf
  refine lv_aload_n C0.1 C0.2.1 dX4_copyFrom_0 rfl (lv_at hl 1 rfl) ?_
  refine fl_getr (k := 0) (t := 132) ck_5 C0 hF ka1 rfl (wt_at (k := 0) (t := 132) hWT ka1 rfl) rfl ⟨rfl, rfl⟩ aw_103 dX4_copyFrom_1 ?_
  refine fl_iconst C0 dX4_copyFrom_4 ?_
  refine lv_aload_n C0.1 C0.2.1 dX4_copyFrom_5 rfl (lv_at hl 0 rfl) ?_
  refine fl_getr (k := 0) (t := 132) ck_5 C0 hF ka0 rfl (wt_at (k := 0) (t := 132) hWT ka0 rfl) rfl ⟨rfl, rfl⟩ aw_103 dX4_copyFrom_6 ?_
  refine fl_iconst C0 dX4_copyFrom_9 ?_
  refine fl_bipush C0 dX4_copyFrom_10 (by decide) ?_
  refine fl_acopy (n0 := 8) (n1 := 8) C0 hF hl.1 (wt_at (k := 0) (t := 132) hWT ka1 rfl) (wt_at (k := 0) (t := 132) hWT ka0 rfl) (rgk 0 rfl) (rgk 0 rfl) (rgk 8 rfl) ⟨by decide, by decide, by decide, by decide, by decide⟩ aw_694 aw_619 aw_618 aw_60 (Nat.le_of_ble_eq_true rfl) (Nat.le_of_ble_eq_true rfl) dX4_copyFrom_12 (fun H locs hF1 => ?_)
  obtain ⟨I1, eI1, hf⟩ := bnd_f hf
  rw [eI1] at hF1
  refine lv_aload_n C0.1 C0.2.1 dX4_copyFrom_15 rfl (lv_at hl 0 rfl) ?_
  refine lv_aload_n C0.1 C0.2.1 dX4_copyFrom_16 rfl (lv_at hl 1 rfl) ?_
  refine fl_geti (k := 1) ck_5 C0 hF1 ka1 rfl ⟨rfl, rfl⟩ aw_104 dX4_copyFrom_17 ?_
  refine fl_puti (k := 1) ck_5 C0 hF1 ka0 rfl (hF1.rI _ _) ⟨rfl, rfl, rfl⟩ aw_104 dX4_copyFrom_20 (fun H locs hF2 => ?_)
  obtain ⟨I2, eI2, hf⟩ := bnd_f hf
  rw [eI2] at hF2
  cases hf
  exact fl_vret C0 hF2 hr rfl dX4_copyFrom_23
-- RejudgeHall$Row.isWithin(ILRejudgeHall$Row;)Z
abbrev rm_X4_isWithin : Room := { frames := 1, cells := 0, slots := 0, locals := 21 }
def f_X4_isWithin_15 (K : KT) (P : PT) (I : IT) : Nat → Nat → Int → Nat → Int → Option (Int)
  | 0, _, _, _, _ => none
  | n + 1, a0, x1, a2, x3 => if (I a0 1) ≤ x3 then (some 1) else (bp (f_X4_at K P I a0 x3) fun r3 => bp (f_X4_at K P I a2 x3) fun r4 => if (iabs ((wr (r3 - r4)))) ≤ x1 then ((f_X4_isWithin_15 K P  I n) a0 x1 a2 ((wr (x3 + 1)))) else (some 0))
def f_X4_isWithin (K : KT) (P : PT) (I : IT) (a0 : Nat) (x1 : Int) (a2 : Nat) : Option (Int) := if (I a0 1) = (I a2 1) then (f_X4_isWithin_15 K P  I FU a0 x1 a2 0) else (some 0)
abbrev G_X4_isWithin_15 (p : Program) (l : Launch) (e : Env) (s : State) (m : MethodId) (args : Array Value) (below : List Frame) (meth : Method) (c : Code) (D : va_G) (cy : Nat → ClassId) (B : Nat) (L : List Nat) (K : KT) (P : PT) (J : IT) (res : Int) (I : IT) (f : Nat → Int → Nat → Int → Option (Int)) : Prop := ∀ (a0 : Nat) (x1 : Int) (a2 : Nat) (x3 : Int) (H : Heap) (locs : List Loc) (ls : Array Slot), K a0 = 5 → rg x1 → K a2 = 5 → rg x3 → FS D cy B L K P J s.heap I H locs → lv_has ls 4 [(0, .ref a0), (1, iv x1), (2, .ref a2), (3, iv x3)] → f a0 x1 a2 x3 = some res → W p l e rm_X4_isWithin s m args below meth c H locs 0 0 (MQ below (QI D cy B L K P J (res, I)) args s 0 0 (fun q => B ≤ q)) (F0 m 15 ls [])
set_option maxRecDepth 100000 in
set_option maxHeartbeats 4000000 in
theorem b_X4_isWithin_15 {p : Program} {l : Launch} {e : Env} {s : State} {m : MethodId} {args : Array Value} {below : List Frame} {meth : Method} {c : Code} {D : va_G} {cy : Nat → ClassId} {B : Nat} {L : List Nat} {K : KT} {P : PT} {J : IT} {res : Int} {I : IT} (C0 : FC D cy B p s m meth c "RejudgeHall$Row" cX4_isWithin 4) (hr : meth.sig.returnType = (some .boolean)) (hWT : WT K P) : ∀ n : Nat, G_X4_isWithin_15 p l e s m args below meth c D cy B L K P J res I (f_X4_isWithin_15 K P  I n)
  | 0 => by
    intro a0 x1 a2 x3 H locs ls ka0 rx1 ka2 rx3 hF hl hf
    cases hf
  | n + 1 => by
    have ih : G_X4_isWithin_15 p l e s m args below meth c D cy B L K P J res I (f_X4_isWithin_15 K P  I n)  := b_X4_isWithin_15 C0 hr hWT  n
    intro a0 x1 a2 x3 H locs ls ka0 rx1 ka2 rx3 hF hl hf
    rw [f_X4_isWithin_15] at hf
    refine lv_iload_n C0.1 C0.2.1 dX4_isWithin_15 rfl (lv_at hl 3 rfl) ?_
    refine lv_aload_n C0.1 C0.2.1 dX4_isWithin_16 rfl (lv_at hl 0 rfl) ?_
    refine fl_geti (k := 1) ck_5 C0 hF ka0 rfl ⟨rfl, rfl⟩ aw_104 dX4_isWithin_17 ?_
    refine fl_icmp_ge (tgt := 49) C0 rx3 (hF.rI _ _) dX4_isWithin_20 (by decide) (fun c2 => ?_) (fun c2 => ?_)
    · replace hf := (if_pos c2).symm.trans hf
      refine fl_iconst C0 dX4_isWithin_49 ?_
      cases hf
      exact fl_zret C0 hF hr (rgk 1 rfl) (Or.inr rfl) rfl dX4_isWithin_50
    · replace hf := (if_neg c2).symm.trans hf
      refine lv_aload_n C0.1 C0.2.1 dX4_isWithin_23 rfl (lv_at hl 0 rfl) ?_
      refine lv_iload_n C0.1 C0.2.1 dX4_isWithin_24 rfl (lv_at hl 3 rfl) ?_
      obtain ⟨r3, hq3, hf⟩ := bp_f hf
      refine fl_ri hF (fl_runV (As := [iv x3]) (rest := []) C0 hF hl.1 ck_5 ka0 rfl (c_X4_at l D cy B L K P J hWT I a0 x3 ka0 rx3 hq3) aw_432 aw_391 aw_9 aw_47 aw_392 rfl rfl pm_X4_at rfl rfl ⟨Nat.le_of_ble_eq_true rfl, Nat.le_of_ble_eq_true rfl⟩ rfl (Nat.le_of_ble_eq_true rfl) dX4_isWithin_25 ⟨Nat.le_of_ble_eq_true rfl, Nat.le_of_ble_eq_true rfl⟩) (fun H locs hF3 rr3 => ?_)
      refine lv_aload_n C0.1 C0.2.1 dX4_isWithin_28 rfl (lv_at hl 2 rfl) ?_
      refine lv_iload_n C0.1 C0.2.1 dX4_isWithin_29 rfl (lv_at hl 3 rfl) ?_
      obtain ⟨r4, hq4, hf⟩ := bp_f hf
      refine fl_ri hF3 (fl_runV (As := [iv x3]) (rest := [iv r3]) C0 hF3 hl.1 ck_5 ka2 rfl (c_X4_at l D cy B L K P J hWT I a2 x3 ka2 rx3 hq4) aw_432 aw_391 aw_9 aw_47 aw_392 rfl rfl pm_X4_at rfl rfl ⟨Nat.le_of_ble_eq_true rfl, Nat.le_of_ble_eq_true rfl⟩ rfl (Nat.le_of_ble_eq_true rfl) dX4_isWithin_30 ⟨Nat.le_of_ble_eq_true rfl, Nat.le_of_ble_eq_true rfl⟩) (fun H locs hF4 rr4 => ?_)
      refine fl_isub C0 dX4_isWithin_33 ?_
      refine fl_abs C0 hl.1 (rg_wr _) aw_433 (Nat.le_of_ble_eq_true rfl) (Nat.le_of_ble_eq_true rfl) (Nat.le_of_ble_eq_true rfl) (Nat.le_of_ble_eq_true rfl) dX4_isWithin_34 ?_
      refine lv_iload_n C0.1 C0.2.1 dX4_isWithin_37 rfl (lv_at hl 1 rfl) ?_
      refine fl_icmp_le (tgt := 43) C0 (rg_iabs (rg_wr _)) rx1 dX4_isWithin_38 (by decide) (fun c5 => ?_) (fun c5 => ?_)
      · replace hf := (if_pos c5).symm.trans hf
        refine fl_iinc (lv' := [(3, iv (wr (x3 + 1))), (0, .ref a0), (1, iv x1), (2, .ref a2)]) C0 dX4_isWithin_43 hl (k := 3) rfl (by decide) rfl (fun ls hl => ?_)
        refine fl_goto (tgt := 15) C0 dX4_isWithin_46 (by decide) ?_
        exact ih  a0 x1 a2 ((wr (x3 + 1))) _ _ _ ka0 rx1 ka2 ((rg_wr _)) hF4 (lv_sub hl [1, 2, 3, 0] rfl) hf
      · replace hf := (if_neg c5).symm.trans hf
        refine fl_iconst C0 dX4_isWithin_41 ?_
        cases hf
        exact fl_zret C0 hF4 hr (rgk 0 rfl) (Or.inl rfl) rfl dX4_isWithin_42
theorem pm_X4_isWithin : plainM yX4_isWithin 2 := by decide +kernel
set_option maxRecDepth 100000 in
set_option maxHeartbeats 4000000 in
theorem c_X4_isWithin (l : Launch) (D : va_G) (cy : Nat → ClassId) (B : Nat) (L : List Nat) (K : KT) (P : PT) (J : IT) (hWT : WT K P) (I : IT) (a0 : Nat) (x1 : Int) (a2 : Nat) (ka0 : K a0 = 5) (rx1 : rg x1) (ka2 : K a2 = 5) {r : Int} (hf : f_X4_isWithin K P I a0 x1 a2 = some r) : Met l yX4_isWithin [.code yX4_isWithin cX4_isWithin 4 (some .boolean)] rm_X4_isWithin (va_Pc [.ref a0, iv x1, .ref a2] (FW D cy B L K P J I)) (QI D cy B L K P J (r, I)) 0 0 (fun q => B ≤ q) := by
  refine fl_body (own := "RejudgeHall$Row") [.ref a0, iv x1, .ref a2] (by decide) rfl (Nat.le_of_ble_eq_true rfl) ?_
  intro p e s m args below meth c ls C0 hr hF hl
  have hl : lv_has ls 4 [(0, .ref a0), (1, iv x1), (2, .ref a2)] := hl
  unfold f_X4_isWithin at hf
  refine lv_aload_n C0.1 C0.2.1 dX4_isWithin_0 rfl (lv_at hl 0 rfl) ?_
  refine fl_geti (k := 1) ck_5 C0 hF ka0 rfl ⟨rfl, rfl⟩ aw_104 dX4_isWithin_1 ?_
  refine lv_aload_n C0.1 C0.2.1 dX4_isWithin_4 rfl (lv_at hl 2 rfl) ?_
  refine fl_geti (k := 1) ck_5 C0 hF ka2 rfl ⟨rfl, rfl⟩ aw_104 dX4_isWithin_5 ?_
  refine fl_icmp_eq (tgt := 13) C0 (hF.rI _ _) (hF.rI _ _) dX4_isWithin_8 (by decide) (fun c1 => ?_) (fun c1 => ?_)
  · replace hf := (if_pos c1).symm.trans hf
    refine fl_iconst C0 dX4_isWithin_13 ?_
    refine lv_istore_n (lv' := [(3, iv 0), (0, .ref a0), (1, iv x1), (2, .ref a2)]) C0.1 C0.2.1 dX4_isWithin_14 rfl hl (by decide) rfl (fun ls hl => ?_)
    exact b_X4_isWithin_15 C0 hr hWT  FU  a0 x1 a2 0 _ _ _ ka0 rx1 ka2 ((rgk 0 rfl)) hF (lv_sub hl [1, 2, 3, 0] rfl) hf
  · replace hf := (if_neg c1).symm.trans hf
    refine fl_iconst C0 dX4_isWithin_11 ?_
    cases hf
    exact fl_zret C0 hF hr (rgk 0 rfl) (Or.inl rfl) rfl dX4_isWithin_12
-- RejudgeHall.pairOf(II)I
abbrev rm_X7_pairOf : Room := { frames := 0, cells := 0, slots := 0, locals := 0 }
def f_X7_pairOf (K : KT) (P : PT) (I : IT) (x0 : Int) (x1 : Int) : Option (Int) := some ((wr ((wr (x0 * 6)) + x1)))
theorem pm_X7_pairOf : plainM yX7_pairOf 2 := by decide +kernel
set_option maxRecDepth 100000 in
set_option maxHeartbeats 4000000 in
theorem c_X7_pairOf (l : Launch) (D : va_G) (cy : Nat → ClassId) (B : Nat) (L : List Nat) (K : KT) (P : PT) (J : IT) (hWT : WT K P) (I : IT) (x0 : Int) (x1 : Int) (rx0 : rg x0) (rx1 : rg x1) {r : Int} (hf : f_X7_pairOf K P I x0 x1 = some r) : Met l yX7_pairOf [.code yX7_pairOf cX7_pairOf 2 (some .int)] rm_X7_pairOf (va_Pc [iv x0, iv x1] (FW D cy B L K P J I)) (QI D cy B L K P J (r, I)) 0 0 (fun q => B ≤ q) := by
  refine fl_body (own := "RejudgeHall") [iv x0, iv x1] (by decide) rfl (Nat.le_of_ble_eq_true rfl) ?_
  intro p e s m args below meth c ls C0 hr hF hl
  have hl : lv_has ls 2 [(0, iv x0), (1, iv x1)] := hl
  unfold f_X7_pairOf at hf
  refine lv_iload_n C0.1 C0.2.1 dX7_pairOf_0 rfl (lv_at hl 0 rfl) ?_
  refine fl_bipush C0 dX7_pairOf_1 (by decide) ?_
  refine fl_imul C0 dX7_pairOf_3 ?_
  refine lv_iload_n C0.1 C0.2.1 dX7_pairOf_4 rfl (lv_at hl 1 rfl) ?_
  refine fl_iadd C0 dX7_pairOf_5 ?_
  cases hf
  exact fl_iret C0 hF hr (rg_wr _) rfl dX7_pairOf_6
-- RejudgeHall$Standings.wipe()V
abbrev rm_X5_wipe : Room := { frames := 1, cells := 0, slots := 0, locals := 23 }
def f_X5_wipe_34 (K : KT) (P : PT) : Nat → IT → Nat → Int → Option (IT)
  | 0, _, _, _ => none
  | n + 1, I, a0, x1 => if 48 ≤ x1 then (some I) else (ck (0 ≤ x1 ∧ x1 < 48) <| bnd (up I ((P a0 4)) (x1 : Int).toNat 0) fun I6 => (f_X5_wipe_34 K P  n) I6 a0 ((wr (x1 + 1))))
def f_X5_wipe (K : KT) (P : PT) (I : IT) (a0 : Nat) : Option (IT) := bp (f_J7_fill_132 K P I ((P a0 0)) 0) fun I1 => bp (f_J7_fill_132 K P I1 ((P a0 1)) 0) fun I2 => bp (f_J7_fill_132 K P I2 ((P a0 2)) 0) fun I3 => bp (f_J7_fill_292 K P I3 ((P a0 3)) 0) fun I4 => f_X5_wipe_34 K P  FU I4 a0 0
abbrev G_X5_wipe_34 (p : Program) (l : Launch) (e : Env) (s : State) (m : MethodId) (args : Array Value) (below : List Frame) (meth : Method) (c : Code) (D : va_G) (cy : Nat → ClassId) (B : Nat) (L : List Nat) (K : KT) (P : PT) (J : IT) (res : IT) (f : IT → Nat → Int → Option (IT)) : Prop := ∀ (I : IT) (a0 : Nat) (x1 : Int) (H : Heap) (locs : List Loc) (ls : Array Slot), K a0 = 6 → rg x1 → FS D cy B L K P J s.heap I H locs → lv_has ls 2 [(0, .ref a0), (1, iv x1)] → f I a0 x1 = some res → W p l e rm_X5_wipe s m args below meth c H locs 0 0 (MQ below (QV D cy B L K P J res) args s 0 0 (fun q => B ≤ q)) (F0 m 34 ls [])
set_option maxRecDepth 100000 in
set_option maxHeartbeats 4000000 in
theorem b_X5_wipe_34 {p : Program} {l : Launch} {e : Env} {s : State} {m : MethodId} {args : Array Value} {below : List Frame} {meth : Method} {c : Code} {D : va_G} {cy : Nat → ClassId} {B : Nat} {L : List Nat} {K : KT} {P : PT} {J : IT} {res : IT} (C0 : FC D cy B p s m meth c "RejudgeHall$Standings" cX5_wipe 2) (hr : meth.sig.returnType = none) (hWT : WT K P) : ∀ n : Nat, G_X5_wipe_34 p l e s m args below meth c D cy B L K P J res (f_X5_wipe_34 K P  n)
  | 0 => by
    intro I a0 x1 H locs ls ka0 rx1 hF hl hf
    cases hf
  | n + 1 => by
    have ih : G_X5_wipe_34 p l e s m args below meth c D cy B L K P J res (f_X5_wipe_34 K P  n)  := b_X5_wipe_34 C0 hr hWT  n
    intro I a0 x1 H locs ls ka0 rx1 hF hl hf
    rw [f_X5_wipe_34] at hf
    refine lv_iload_n C0.1 C0.2.1 dX5_wipe_34 rfl (lv_at hl 1 rfl) ?_
    refine lv_aload_n C0.1 C0.2.1 dX5_wipe_35 rfl (lv_at hl 0 rfl) ?_
    refine fl_getr (k := 4) (t := 293) ck_6 C0 hF ka0 rfl (wt_at (k := 4) (t := 293) hWT ka0 rfl) rfl ⟨rfl, rfl⟩ aw_177 dX5_wipe_36 ?_
    refine fl_alen (n := 48) (kd := 1) C0 hF (wt_at (k := 4) (t := 293) hWT ka0 rfl) (by decide) dX5_wipe_39 ?_
    refine fl_icmp_ge (tgt := 56) C0 rx1 (rgk 48 rfl) dX5_wipe_40 (by decide) (fun c5 => ?_) (fun c5 => ?_)
    · replace hf := (if_pos c5).symm.trans hf
      cases hf
      exact fl_vret C0 hF hr rfl dX5_wipe_56
    · replace hf := (if_neg c5).symm.trans hf
      refine lv_aload_n C0.1 C0.2.1 dX5_wipe_43 rfl (lv_at hl 0 rfl) ?_
      refine fl_getr (k := 4) (t := 293) ck_6 C0 hF ka0 rfl (wt_at (k := 4) (t := 293) hWT ka0 rfl) rfl ⟨rfl, rfl⟩ aw_177 dX5_wipe_44 ?_
      refine lv_iload_n C0.1 C0.2.1 dX5_wipe_47 rfl (lv_at hl 1 rfl) ?_
      refine fl_iconst C0 dX5_wipe_48 ?_
      obtain ⟨hc, hf⟩ := ck_f hf
      refine fl_zast (n := 48) C0 hF (wt_at (k := 4) (t := 293) hWT ka0 rfl) rx1 (Or.inl rfl) hc dX5_wipe_49 (fun H locs hF6 => ?_)
      obtain ⟨I6, eI6, hf⟩ := bnd_f hf
      rw [eI6] at hF6
      refine fl_iinc (lv' := [(1, iv (wr (x1 + 1))), (0, .ref a0)]) C0 dX5_wipe_50 hl (k := 1) rfl (by decide) rfl (fun ls hl => ?_)
      refine fl_goto (tgt := 34) C0 dX5_wipe_53 (by decide) ?_
      exact ih I6 a0 ((wr (x1 + 1))) _ _ _ ka0 ((rg_wr _)) hF6 (lv_sub hl [1, 0] rfl) hf
theorem pm_X5_wipe : plainM yX5_wipe 0 := by decide +kernel
set_option maxRecDepth 100000 in
set_option maxHeartbeats 4000000 in
theorem c_X5_wipe (l : Launch) (D : va_G) (cy : Nat → ClassId) (B : Nat) (L : List Nat) (K : KT) (P : PT) (J : IT) (hWT : WT K P) (I : IT) (a0 : Nat) (ka0 : K a0 = 6) {I' : IT} (hf : f_X5_wipe K P I a0 = some I') : Met l yX5_wipe [.code yX5_wipe cX5_wipe 2 none] rm_X5_wipe (va_Pc [.ref a0] (FW D cy B L K P J I)) (QV D cy B L K P J I') 0 0 (fun q => B ≤ q) := by
  refine fl_body (own := "RejudgeHall$Standings") [.ref a0] (by decide) rfl (Nat.le_of_ble_eq_true rfl) ?_
  intro p e s m args below meth c ls C0 hr hF hl
  have hl : lv_has ls 2 [(0, .ref a0)] := hl
  unfold f_X5_wipe at hf
  refine lv_aload_n C0.1 C0.2.1 dX5_wipe_0 rfl (lv_at hl 0 rfl) ?_
  refine fl_getr (k := 0) (t := 132) ck_6 C0 hF ka0 rfl (wt_at (k := 0) (t := 132) hWT ka0 rfl) rfl ⟨rfl, rfl⟩ aw_170 dX5_wipe_1 ?_
  refine fl_iconst C0 dX5_wipe_4 ?_
  obtain ⟨I1, hq1, hf⟩ := bp_f hf
  refine fl_rv hF (fl_runSG (As := [.ref (P a0 0), iv 0]) (rest := []) C0 hF hl.1 (c_J7_fill_132 l D cy B L K P J hWT I ((P a0 0)) 0 ((wt_at (k := 0) (t := 132) hWT ka0 rfl)) ((rgk 0 rfl)) hq1) aw_515 aw_493 aw_59 aw_494 rfl pm_J7_fill_132 rfl rfl ⟨Nat.le_of_ble_eq_true rfl, Nat.le_of_ble_eq_true rfl⟩ rfl (Nat.le_of_ble_eq_true rfl) dX5_wipe_5 ⟨Nat.le_of_ble_eq_true rfl, Nat.le_of_ble_eq_true rfl⟩) (fun H locs hF1 => ?_)
  refine lv_aload_n C0.1 C0.2.1 dX5_wipe_8 rfl (lv_at hl 0 rfl) ?_
  refine fl_getr (k := 1) (t := 132) ck_6 C0 hF1 ka0 rfl (wt_at (k := 1) (t := 132) hWT ka0 rfl) rfl ⟨rfl, rfl⟩ aw_172 dX5_wipe_9 ?_
  refine fl_iconst C0 dX5_wipe_12 ?_
  obtain ⟨I2, hq2, hf⟩ := bp_f hf
  refine fl_rv hF1 (fl_runSG (As := [.ref (P a0 1), iv 0]) (rest := []) C0 hF1 hl.1 (c_J7_fill_132 l D cy B L K P J hWT I1 ((P a0 1)) 0 ((wt_at (k := 1) (t := 132) hWT ka0 rfl)) ((rgk 0 rfl)) hq2) aw_515 aw_493 aw_59 aw_494 rfl pm_J7_fill_132 rfl rfl ⟨Nat.le_of_ble_eq_true rfl, Nat.le_of_ble_eq_true rfl⟩ rfl (Nat.le_of_ble_eq_true rfl) dX5_wipe_13 ⟨Nat.le_of_ble_eq_true rfl, Nat.le_of_ble_eq_true rfl⟩) (fun H locs hF2 => ?_)
  refine lv_aload_n C0.1 C0.2.1 dX5_wipe_16 rfl (lv_at hl 0 rfl) ?_
  refine fl_getr (k := 2) (t := 132) ck_6 C0 hF2 ka0 rfl (wt_at (k := 2) (t := 132) hWT ka0 rfl) rfl ⟨rfl, rfl⟩ aw_174 dX5_wipe_17 ?_
  refine fl_iconst C0 dX5_wipe_20 ?_
  obtain ⟨I3, hq3, hf⟩ := bp_f hf
  refine fl_rv hF2 (fl_runSG (As := [.ref (P a0 2), iv 0]) (rest := []) C0 hF2 hl.1 (c_J7_fill_132 l D cy B L K P J hWT I2 ((P a0 2)) 0 ((wt_at (k := 2) (t := 132) hWT ka0 rfl)) ((rgk 0 rfl)) hq3) aw_515 aw_493 aw_59 aw_494 rfl pm_J7_fill_132 rfl rfl ⟨Nat.le_of_ble_eq_true rfl, Nat.le_of_ble_eq_true rfl⟩ rfl (Nat.le_of_ble_eq_true rfl) dX5_wipe_21 ⟨Nat.le_of_ble_eq_true rfl, Nat.le_of_ble_eq_true rfl⟩) (fun H locs hF3 => ?_)
  refine lv_aload_n C0.1 C0.2.1 dX5_wipe_24 rfl (lv_at hl 0 rfl) ?_
  refine fl_getr (k := 3) (t := 292) ck_6 C0 hF3 ka0 rfl (wt_at (k := 3) (t := 292) hWT ka0 rfl) rfl ⟨rfl, rfl⟩ aw_176 dX5_wipe_25 ?_
  refine fl_iconst C0 dX5_wipe_28 ?_
  obtain ⟨I4, hq4, hf⟩ := bp_f hf
  refine fl_rv hF3 (fl_runSG (As := [.ref (P a0 3), iv 0]) (rest := []) C0 hF3 hl.1 (c_J7_fill_292 l D cy B L K P J hWT I3 ((P a0 3)) 0 ((wt_at (k := 3) (t := 292) hWT ka0 rfl)) ((rgk 0 rfl)) hq4) aw_515 aw_493 aw_59 aw_494 rfl pm_J7_fill_292 rfl rfl ⟨Nat.le_of_ble_eq_true rfl, Nat.le_of_ble_eq_true rfl⟩ rfl (Nat.le_of_ble_eq_true rfl) dX5_wipe_29 ⟨Nat.le_of_ble_eq_true rfl, Nat.le_of_ble_eq_true rfl⟩) (fun H locs hF4 => ?_)
  refine fl_iconst C0 dX5_wipe_32 ?_
  refine lv_istore_n (lv' := [(1, iv 0), (0, .ref a0)]) C0.1 C0.2.1 dX5_wipe_33 rfl hl (by decide) rfl (fun ls hl => ?_)
  exact b_X5_wipe_34 C0 hr hWT  FU I4 a0 0 _ _ _ ka0 ((rgk 0 rfl)) hF4 (lv_sub hl [1, 0] rfl) hf
-- RejudgeHall$Standings.count(LRejudgeHall$Entry;Z)V
abbrev rm_X5_count : Room := { frames := 1, cells := 0, slots := 0, locals := 21 }
def f_X5_count (K : KT) (P : PT) (I : IT) (a0 : Nat) (a1 : Nat) (x2 : Int) : Option (IT) := bp (f_X7_pairOf K P I ((I a1 0)) ((I ((P a1 1)) 0))) fun r1 => ck (0 ≤ r1 ∧ r1 < 48) <| if (I ((P a0 4)) (r1 : Int).toNat) = 0 then (if x2 = 0 then (ck (0 ≤ r1 ∧ r1 < 48) <| ck (0 ≤ r1 ∧ r1 < 48) <| bnd (up I ((P a0 3)) (r1 : Int).toNat (wr ((I ((P a0 3)) (r1 : Int).toNat) + 1))) fun I8 => some I8) else (ck (0 ≤ r1 ∧ r1 < 48) <| bnd (up I ((P a0 4)) (r1 : Int).toNat 1) fun I4 => ck (0 ≤ (I4 a1 0) ∧ (I4 a1 0) < 8) <| ck (0 ≤ (I4 a1 0) ∧ (I4 a1 0) < 8) <| bnd (up I4 ((P a0 0)) ((I4 a1 0) : Int).toNat (wr ((I4 ((P a0 0)) ((I4 a1 0) : Int).toNat) + 1))) fun I5 => ck (0 ≤ (I5 a1 0) ∧ (I5 a1 0) < 8) <| ck (0 ≤ r1 ∧ r1 < 48) <| ck (0 ≤ (I5 a1 0) ∧ (I5 a1 0) < 8) <| bnd (up I5 ((P a0 1)) ((I5 a1 0) : Int).toNat (wr ((I5 ((P a0 1)) ((I5 a1 0) : Int).toNat) + (wr ((I5 a1 2) + (wr (20 * (I5 ((P a0 3)) (r1 : Int).toNat)))))))) fun I6 => ck (0 ≤ (I6 a1 0) ∧ (I6 a1 0) < 8) <| ck (0 ≤ (I6 a1 0) ∧ (I6 a1 0) < 8) <| bnd (up I6 ((P a0 2)) ((I6 a1 0) : Int).toNat (imax ((I6 ((P a0 2)) ((I6 a1 0) : Int).toNat)) ((I6 a1 2)))) fun I7 => some I7)) else (some I)
theorem pm_X5_count : plainM yX5_count 2 := by decide +kernel
set_option maxRecDepth 100000 in
set_option maxHeartbeats 4000000 in
theorem c_X5_count (l : Launch) (D : va_G) (cy : Nat → ClassId) (B : Nat) (L : List Nat) (K : KT) (P : PT) (J : IT) (hWT : WT K P) (I : IT) (a0 : Nat) (a1 : Nat) (x2 : Int) (ka0 : K a0 = 6) (ka1 : K a1 = 1) (rx2 : rg x2) {I' : IT} (hf : f_X5_count K P I a0 a1 x2 = some I') : Met l yX5_count [.code yX5_count cX5_count 4 none] rm_X5_count (va_Pc [.ref a0, .ref a1, iv x2] (FW D cy B L K P J I)) (QV D cy B L K P J I') 0 0 (fun q => B ≤ q) := by
  refine fl_body (own := "RejudgeHall$Standings") [.ref a0, .ref a1, iv x2] (by decide) rfl (Nat.le_of_ble_eq_true rfl) ?_
  intro p e s m args below meth c ls C0 hr hF hl
  have hl : lv_has ls 4 [(0, .ref a0), (1, .ref a1), (2, iv x2)] := hl
  unfold f_X5_count at hf
  refine lv_aload_n C0.1 C0.2.1 dX5_count_0 rfl (lv_at hl 1 rfl) ?_
  refine fl_getiN (k := 0) ck_1 C0 hF ka1 rfl ⟨rfl, rfl⟩ aw_748 dX5_count_1 ?_
  refine lv_aload_n C0.1 C0.2.1 dX5_count_4 rfl (lv_at hl 1 rfl) ?_
  refine fl_getrN (k := 1) (t := 3) ck_1 C0 hF ka1 rfl (wt_at (k := 1) (t := 3) hWT ka1 rfl) rfl ⟨rfl, rfl⟩ aw_751 dX5_count_5 ?_
  refine fl_getiN (k := 0) ck_3 C0 hF (wt_at (k := 1) (t := 3) hWT ka1 rfl) rfl ⟨rfl, rfl⟩ aw_584 dX5_count_8 ?_
  obtain ⟨r1, hq1, hf⟩ := bp_f hf
  refine fl_ri hF (fl_runSN (As := [iv (I a1 0), iv (I ((P a1 1)) 0)]) (rest := []) C0 hF hl.1 (c_X7_pairOf l D cy B L K P J hWT I ((I a1 0)) ((I ((P a1 1)) 0)) ((hF.rI _ _)) ((hF.rI _ _)) hq1) aw_531 aw_525 aw_45 aw_526 rfl pm_X7_pairOf rfl rfl ⟨Nat.le_of_ble_eq_true rfl, Nat.le_of_ble_eq_true rfl⟩ rfl (Nat.le_of_ble_eq_true rfl) dX5_count_11 ⟨Nat.le_of_ble_eq_true rfl, Nat.le_of_ble_eq_true rfl⟩) (fun H locs hF1 rr1 => ?_)
  refine lv_istore_n (lv' := [(3, iv r1), (0, .ref a0), (1, .ref a1), (2, iv x2)]) C0.1 C0.2.1 dX5_count_14 rfl hl (by decide) rfl (fun ls hl => ?_)
  refine lv_aload_n C0.1 C0.2.1 dX5_count_15 rfl (lv_at hl 1 rfl) ?_
  refine fl_getr (k := 4) (t := 293) ck_6 C0 hF1 ka0 rfl (wt_at (k := 4) (t := 293) hWT ka0 rfl) rfl ⟨rfl, rfl⟩ aw_177 dX5_count_16 ?_
  refine lv_iload_n C0.1 C0.2.1 dX5_count_19 rfl (lv_at hl 0 rfl) ?_
  obtain ⟨hc, hf⟩ := ck_f hf
  refine fl_zald (n := 48) C0 hF1 (wt_at (k := 4) (t := 293) hWT ka0 rfl) rr1 hc dX5_count_20 ?_
  refine fl_if_eq (tgt := 25) C0 (hF1.rI _ _) dX5_count_21 (by decide) (fun c2 => ?_) (fun c2 => ?_)
  · replace hf := (if_pos c2).symm.trans hf
    refine lv_iload_n C0.1 C0.2.1 dX5_count_25 rfl (lv_at hl 3 rfl) ?_
    refine fl_if_ne (tgt := 40) C0 rx2 dX5_count_26 (by decide) (fun c3 => ?_) (fun c3 => ?_)
    · replace hf := (if_neg c3).symm.trans hf
      refine lv_aload_n C0.1 C0.2.1 dX5_count_40 rfl (lv_at hl 1 rfl) ?_
      refine fl_getr (k := 4) (t := 293) ck_6 C0 hF1 ka0 rfl (wt_at (k := 4) (t := 293) hWT ka0 rfl) rfl ⟨rfl, rfl⟩ aw_177 dX5_count_41 ?_
      refine lv_iload_n C0.1 C0.2.1 dX5_count_44 rfl (lv_at hl 0 rfl) ?_
      refine fl_iconst C0 dX5_count_45 ?_
      obtain ⟨hc, hf⟩ := ck_f hf
      refine fl_zast (n := 48) C0 hF1 (wt_at (k := 4) (t := 293) hWT ka0 rfl) rr1 (Or.inr rfl) hc dX5_count_46 (fun H locs hF4 => ?_)
      obtain ⟨I4, eI4, hf⟩ := bnd_f hf
      rw [eI4] at hF4
      refine lv_aload_n C0.1 C0.2.1 dX5_count_47 rfl (lv_at hl 1 rfl) ?_
      refine fl_getr (k := 0) (t := 132) ck_6 C0 hF4 ka0 rfl (wt_at (k := 0) (t := 132) hWT ka0 rfl) rfl ⟨rfl, rfl⟩ aw_170 dX5_count_48 ?_
      refine lv_aload_n C0.1 C0.2.1 dX5_count_51 rfl (lv_at hl 2 rfl) ?_
      refine fl_getiN (k := 0) ck_1 C0 hF4 ka1 rfl ⟨rfl, rfl⟩ aw_748 dX5_count_52 ?_
      refine lv_dup2_11 C0.1 C0.2.1 dX5_count_55 rfl rfl ?_
      obtain ⟨hc, hf⟩ := ck_f hf
      refine fl_iald (n := 8) C0 hF4 (wt_at (k := 0) (t := 132) hWT ka0 rfl) (hF4.rI _ _) hc dX5_count_56 ?_
      refine fl_iconst C0 dX5_count_57 ?_
      refine fl_iadd C0 dX5_count_58 ?_
      obtain ⟨hc, hf⟩ := ck_f hf
      refine fl_iast (n := 8) C0 hF4 (wt_at (k := 0) (t := 132) hWT ka0 rfl) (hF4.rI _ _) (rg_wr _) hc dX5_count_59 (fun H locs hF5 => ?_)
      obtain ⟨I5, eI5, hf⟩ := bnd_f hf
      rw [eI5] at hF5
      refine lv_aload_n C0.1 C0.2.1 dX5_count_60 rfl (lv_at hl 1 rfl) ?_
      refine fl_getr (k := 1) (t := 132) ck_6 C0 hF5 ka0 rfl (wt_at (k := 1) (t := 132) hWT ka0 rfl) rfl ⟨rfl, rfl⟩ aw_172 dX5_count_61 ?_
      refine lv_aload_n C0.1 C0.2.1 dX5_count_64 rfl (lv_at hl 2 rfl) ?_
      refine fl_getiN (k := 0) ck_1 C0 hF5 ka1 rfl ⟨rfl, rfl⟩ aw_748 dX5_count_65 ?_
      refine lv_dup2_11 C0.1 C0.2.1 dX5_count_68 rfl rfl ?_
      obtain ⟨hc, hf⟩ := ck_f hf
      refine fl_iald (n := 8) C0 hF5 (wt_at (k := 1) (t := 132) hWT ka0 rfl) (hF5.rI _ _) hc dX5_count_69 ?_
      refine lv_aload_n C0.1 C0.2.1 dX5_count_70 rfl (lv_at hl 2 rfl) ?_
      refine fl_getiN (k := 2) ck_1 C0 hF5 ka1 rfl ⟨rfl, rfl⟩ aw_754 dX5_count_71 ?_
      refine fl_bipush C0 dX5_count_74 (by decide) ?_
      refine lv_aload_n C0.1 C0.2.1 dX5_count_76 rfl (lv_at hl 1 rfl) ?_
      refine fl_getr (k := 3) (t := 292) ck_6 C0 hF5 ka0 rfl (wt_at (k := 3) (t := 292) hWT ka0 rfl) rfl ⟨rfl, rfl⟩ aw_176 dX5_count_77 ?_
      refine lv_iload_n C0.1 C0.2.1 dX5_count_80 rfl (lv_at hl 0 rfl) ?_
      obtain ⟨hc, hf⟩ := ck_f hf
      refine fl_iald (n := 48) C0 hF5 (wt_at (k := 3) (t := 292) hWT ka0 rfl) rr1 hc dX5_count_81 ?_
      refine fl_imul C0 dX5_count_82 ?_
      refine fl_iadd C0 dX5_count_83 ?_
      refine fl_iadd C0 dX5_count_84 ?_
      obtain ⟨hc, hf⟩ := ck_f hf
      refine fl_iast (n := 8) C0 hF5 (wt_at (k := 1) (t := 132) hWT ka0 rfl) (hF5.rI _ _) (rg_wr _) hc dX5_count_85 (fun H locs hF6 => ?_)
      obtain ⟨I6, eI6, hf⟩ := bnd_f hf
      rw [eI6] at hF6
      refine lv_aload_n C0.1 C0.2.1 dX5_count_86 rfl (lv_at hl 1 rfl) ?_
      refine fl_getr (k := 2) (t := 132) ck_6 C0 hF6 ka0 rfl (wt_at (k := 2) (t := 132) hWT ka0 rfl) rfl ⟨rfl, rfl⟩ aw_174 dX5_count_87 ?_
      refine lv_aload_n C0.1 C0.2.1 dX5_count_90 rfl (lv_at hl 2 rfl) ?_
      refine fl_getiN (k := 0) ck_1 C0 hF6 ka1 rfl ⟨rfl, rfl⟩ aw_748 dX5_count_91 ?_
      refine lv_aload_n C0.1 C0.2.1 dX5_count_94 rfl (lv_at hl 1 rfl) ?_
      refine fl_getr (k := 2) (t := 132) ck_6 C0 hF6 ka0 rfl (wt_at (k := 2) (t := 132) hWT ka0 rfl) rfl ⟨rfl, rfl⟩ aw_174 dX5_count_95 ?_
      refine lv_aload_n C0.1 C0.2.1 dX5_count_98 rfl (lv_at hl 2 rfl) ?_
      refine fl_getiN (k := 0) ck_1 C0 hF6 ka1 rfl ⟨rfl, rfl⟩ aw_748 dX5_count_99 ?_
      obtain ⟨hc, hf⟩ := ck_f hf
      refine fl_iald (n := 8) C0 hF6 (wt_at (k := 2) (t := 132) hWT ka0 rfl) (hF6.rI _ _) hc dX5_count_102 ?_
      refine lv_aload_n C0.1 C0.2.1 dX5_count_103 rfl (lv_at hl 2 rfl) ?_
      refine fl_getiN (k := 2) ck_1 C0 hF6 ka1 rfl ⟨rfl, rfl⟩ aw_754 dX5_count_104 ?_
      refine fl_max C0 hl.1 (hF6.rI _ _) (hF6.rI _ _) aw_532 (Nat.le_of_ble_eq_true rfl) (Nat.le_of_ble_eq_true rfl) (Nat.le_of_ble_eq_true rfl) (Nat.le_of_ble_eq_true rfl) dX5_count_107 ?_
      obtain ⟨hc, hf⟩ := ck_f hf
      refine fl_iast (n := 8) C0 hF6 (wt_at (k := 2) (t := 132) hWT ka0 rfl) (hF6.rI _ _) (rg_imax (hF6.rI _ _) (hF6.rI _ _)) hc dX5_count_110 (fun H locs hF7 => ?_)
      obtain ⟨I7, eI7, hf⟩ := bnd_f hf
      rw [eI7] at hF7
      cases hf
      exact fl_vret C0 hF7 hr rfl dX5_count_111
    · replace hf := (if_pos c3).symm.trans hf
      refine lv_aload_n C0.1 C0.2.1 dX5_count_29 rfl (lv_at hl 1 rfl) ?_
      refine fl_getr (k := 3) (t := 292) ck_6 C0 hF1 ka0 rfl (wt_at (k := 3) (t := 292) hWT ka0 rfl) rfl ⟨rfl, rfl⟩ aw_176 dX5_count_30 ?_
      refine lv_iload_n C0.1 C0.2.1 dX5_count_33 rfl (lv_at hl 0 rfl) ?_
      refine lv_dup2_11 C0.1 C0.2.1 dX5_count_34 rfl rfl ?_
      obtain ⟨hc, hf⟩ := ck_f hf
      refine fl_iald (n := 48) C0 hF1 (wt_at (k := 3) (t := 292) hWT ka0 rfl) rr1 hc dX5_count_35 ?_
      refine fl_iconst C0 dX5_count_36 ?_
      refine fl_iadd C0 dX5_count_37 ?_
      obtain ⟨hc, hf⟩ := ck_f hf
      refine fl_iast (n := 48) C0 hF1 (wt_at (k := 3) (t := 292) hWT ka0 rfl) rr1 (rg_wr _) hc dX5_count_38 (fun H locs hF8 => ?_)
      obtain ⟨I8, eI8, hf⟩ := bnd_f hf
      rw [eI8] at hF8
      cases hf
      exact fl_vret C0 hF8 hr rfl dX5_count_39
  · replace hf := (if_neg c2).symm.trans hf
    cases hf
    exact fl_vret C0 hF1 hr rfl dX5_count_24
-- RejudgeHall$Standings.isAhead(II)Z
abbrev rm_X5_isAhead : Room := { frames := 0, cells := 0, slots := 0, locals := 0 }
def f_X5_isAhead (K : KT) (P : PT) (I : IT) (a0 : Nat) (x1 : Int) (x2 : Int) : Option (Int) := ck (0 ≤ x1 ∧ x1 < 8) <| ck (0 ≤ x2 ∧ x2 < 8) <| if (I ((P a0 0)) (x1 : Int).toNat) = (I ((P a0 0)) (x2 : Int).toNat) then (ck (0 ≤ x1 ∧ x1 < 8) <| ck (0 ≤ x2 ∧ x2 < 8) <| if (I ((P a0 1)) (x1 : Int).toNat) = (I ((P a0 1)) (x2 : Int).toNat) then (ck (0 ≤ x1 ∧ x1 < 8) <| ck (0 ≤ x2 ∧ x2 < 8) <| if (I ((P a0 2)) (x1 : Int).toNat) = (I ((P a0 2)) (x2 : Int).toNat) then (if x2 ≤ x1 then (some 0) else (some 1)) else (ck (0 ≤ x1 ∧ x1 < 8) <| ck (0 ≤ x2 ∧ x2 < 8) <| if (I ((P a0 2)) (x2 : Int).toNat) ≤ (I ((P a0 2)) (x1 : Int).toNat) then (some 0) else (some 1))) else (ck (0 ≤ x1 ∧ x1 < 8) <| ck (0 ≤ x2 ∧ x2 < 8) <| if (I ((P a0 1)) (x2 : Int).toNat) ≤ (I ((P a0 1)) (x1 : Int).toNat) then (some 0) else (some 1))) else (ck (0 ≤ x1 ∧ x1 < 8) <| ck (0 ≤ x2 ∧ x2 < 8) <| if (I ((P a0 0)) (x1 : Int).toNat) ≤ (I ((P a0 0)) (x2 : Int).toNat) then (some 0) else (some 1))
theorem pm_X5_isAhead : plainM yX5_isAhead 2 := by decide +kernel
set_option maxRecDepth 100000 in
set_option maxHeartbeats 4000000 in
theorem c_X5_isAhead (l : Launch) (D : va_G) (cy : Nat → ClassId) (B : Nat) (L : List Nat) (K : KT) (P : PT) (J : IT) (hWT : WT K P) (I : IT) (a0 : Nat) (x1 : Int) (x2 : Int) (ka0 : K a0 = 6) (rx1 : rg x1) (rx2 : rg x2) {r : Int} (hf : f_X5_isAhead K P I a0 x1 x2 = some r) : Met l yX5_isAhead [.code yX5_isAhead cX5_isAhead 3 (some .boolean)] rm_X5_isAhead (va_Pc [.ref a0, iv x1, iv x2] (FW D cy B L K P J I)) (QI D cy B L K P J (r, I)) 0 0 (fun q => B ≤ q) := by
  refine fl_body (own := "RejudgeHall$Standings") [.ref a0, iv x1, iv x2] (by decide) rfl (Nat.le_of_ble_eq_true rfl) ?_
  intro p e s m args below meth c ls C0 hr hF hl
  have hl : lv_has ls 3 [(0, .ref a0), (1, iv x1), (2, iv x2)] := hl
  unfold f_X5_isAhead at hf
  refine lv_aload_n C0.1 C0.2.1 dX5_isAhead_0 rfl (lv_at hl 0 rfl) ?_
  refine fl_getr (k := 0) (t := 132) ck_6 C0 hF ka0 rfl (wt_at (k := 0) (t := 132) hWT ka0 rfl) rfl ⟨rfl, rfl⟩ aw_170 dX5_isAhead_1 ?_
  refine lv_iload_n C0.1 C0.2.1 dX5_isAhead_4 rfl (lv_at hl 1 rfl) ?_
  obtain ⟨hc, hf⟩ := ck_f hf
  refine fl_iald (n := 8) C0 hF (wt_at (k := 0) (t := 132) hWT ka0 rfl) rx1 hc dX5_isAhead_5 ?_
  refine lv_aload_n C0.1 C0.2.1 dX5_isAhead_6 rfl (lv_at hl 0 rfl) ?_
  refine fl_getr (k := 0) (t := 132) ck_6 C0 hF ka0 rfl (wt_at (k := 0) (t := 132) hWT ka0 rfl) rfl ⟨rfl, rfl⟩ aw_170 dX5_isAhead_7 ?_
  refine lv_iload_n C0.1 C0.2.1 dX5_isAhead_10 rfl (lv_at hl 2 rfl) ?_
  obtain ⟨hc, hf⟩ := ck_f hf
  refine fl_iald (n := 8) C0 hF (wt_at (k := 0) (t := 132) hWT ka0 rfl) rx2 hc dX5_isAhead_11 ?_
  refine fl_icmp_eq (tgt := 36) C0 (hF.rI _ _) (hF.rI _ _) dX5_isAhead_12 (by decide) (fun c1 => ?_) (fun c1 => ?_)
  · replace hf := (if_pos c1).symm.trans hf
    refine lv_aload_n C0.1 C0.2.1 dX5_isAhead_36 rfl (lv_at hl 0 rfl) ?_
    refine fl_getr (k := 1) (t := 132) ck_6 C0 hF ka0 rfl (wt_at (k := 1) (t := 132) hWT ka0 rfl) rfl ⟨rfl, rfl⟩ aw_172 dX5_isAhead_37 ?_
    refine lv_iload_n C0.1 C0.2.1 dX5_isAhead_40 rfl (lv_at hl 1 rfl) ?_
    obtain ⟨hc, hf⟩ := ck_f hf
    refine fl_iald (n := 8) C0 hF (wt_at (k := 1) (t := 132) hWT ka0 rfl) rx1 hc dX5_isAhead_41 ?_
    refine lv_aload_n C0.1 C0.2.1 dX5_isAhead_42 rfl (lv_at hl 0 rfl) ?_
    refine fl_getr (k := 1) (t := 132) ck_6 C0 hF ka0 rfl (wt_at (k := 1) (t := 132) hWT ka0 rfl) rfl ⟨rfl, rfl⟩ aw_172 dX5_isAhead_43 ?_
    refine lv_iload_n C0.1 C0.2.1 dX5_isAhead_46 rfl (lv_at hl 2 rfl) ?_
    obtain ⟨hc, hf⟩ := ck_f hf
    refine fl_iald (n := 8) C0 hF (wt_at (k := 1) (t := 132) hWT ka0 rfl) rx2 hc dX5_isAhead_47 ?_
    refine fl_icmp_eq (tgt := 72) C0 (hF.rI _ _) (hF.rI _ _) dX5_isAhead_48 (by decide) (fun c2 => ?_) (fun c2 => ?_)
    · replace hf := (if_pos c2).symm.trans hf
      refine lv_aload_n C0.1 C0.2.1 dX5_isAhead_72 rfl (lv_at hl 0 rfl) ?_
      refine fl_getr (k := 2) (t := 132) ck_6 C0 hF ka0 rfl (wt_at (k := 2) (t := 132) hWT ka0 rfl) rfl ⟨rfl, rfl⟩ aw_174 dX5_isAhead_73 ?_
      refine lv_iload_n C0.1 C0.2.1 dX5_isAhead_76 rfl (lv_at hl 1 rfl) ?_
      obtain ⟨hc, hf⟩ := ck_f hf
      refine fl_iald (n := 8) C0 hF (wt_at (k := 2) (t := 132) hWT ka0 rfl) rx1 hc dX5_isAhead_77 ?_
      refine lv_aload_n C0.1 C0.2.1 dX5_isAhead_78 rfl (lv_at hl 0 rfl) ?_
      refine fl_getr (k := 2) (t := 132) ck_6 C0 hF ka0 rfl (wt_at (k := 2) (t := 132) hWT ka0 rfl) rfl ⟨rfl, rfl⟩ aw_174 dX5_isAhead_79 ?_
      refine lv_iload_n C0.1 C0.2.1 dX5_isAhead_82 rfl (lv_at hl 2 rfl) ?_
      obtain ⟨hc, hf⟩ := ck_f hf
      refine fl_iald (n := 8) C0 hF (wt_at (k := 2) (t := 132) hWT ka0 rfl) rx2 hc dX5_isAhead_83 ?_
      refine fl_icmp_eq (tgt := 108) C0 (hF.rI _ _) (hF.rI _ _) dX5_isAhead_84 (by decide) (fun c3 => ?_) (fun c3 => ?_)
      · replace hf := (if_pos c3).symm.trans hf
        refine lv_iload_n C0.1 C0.2.1 dX5_isAhead_108 rfl (lv_at hl 1 rfl) ?_
        refine lv_iload_n C0.1 C0.2.1 dX5_isAhead_109 rfl (lv_at hl 2 rfl) ?_
        refine fl_icmp_ge (tgt := 117) C0 rx1 rx2 dX5_isAhead_110 (by decide) (fun c4 => ?_) (fun c4 => ?_)
        · replace hf := (if_pos c4).symm.trans hf
          refine fl_iconst C0 dX5_isAhead_117 ?_
          cases hf
          exact fl_zret C0 hF hr (rgk 0 rfl) (Or.inl rfl) rfl dX5_isAhead_118
        · replace hf := (if_neg c4).symm.trans hf
          refine fl_iconst C0 dX5_isAhead_113 ?_
          refine fl_goto (tgt := 118) C0 dX5_isAhead_114 (by decide) ?_
          cases hf
          exact fl_zret C0 hF hr (rgk 1 rfl) (Or.inr rfl) rfl dX5_isAhead_118
      · replace hf := (if_neg c3).symm.trans hf
        refine lv_aload_n C0.1 C0.2.1 dX5_isAhead_87 rfl (lv_at hl 0 rfl) ?_
        refine fl_getr (k := 2) (t := 132) ck_6 C0 hF ka0 rfl (wt_at (k := 2) (t := 132) hWT ka0 rfl) rfl ⟨rfl, rfl⟩ aw_174 dX5_isAhead_88 ?_
        refine lv_iload_n C0.1 C0.2.1 dX5_isAhead_91 rfl (lv_at hl 1 rfl) ?_
        obtain ⟨hc, hf⟩ := ck_f hf
        refine fl_iald (n := 8) C0 hF (wt_at (k := 2) (t := 132) hWT ka0 rfl) rx1 hc dX5_isAhead_92 ?_
        refine lv_aload_n C0.1 C0.2.1 dX5_isAhead_93 rfl (lv_at hl 0 rfl) ?_
        refine fl_getr (k := 2) (t := 132) ck_6 C0 hF ka0 rfl (wt_at (k := 2) (t := 132) hWT ka0 rfl) rfl ⟨rfl, rfl⟩ aw_174 dX5_isAhead_94 ?_
        refine lv_iload_n C0.1 C0.2.1 dX5_isAhead_97 rfl (lv_at hl 2 rfl) ?_
        obtain ⟨hc, hf⟩ := ck_f hf
        refine fl_iald (n := 8) C0 hF (wt_at (k := 2) (t := 132) hWT ka0 rfl) rx2 hc dX5_isAhead_98 ?_
        refine fl_icmp_ge (tgt := 106) C0 (hF.rI _ _) (hF.rI _ _) dX5_isAhead_99 (by decide) (fun c5 => ?_) (fun c5 => ?_)
        · replace hf := (if_pos c5).symm.trans hf
          refine fl_iconst C0 dX5_isAhead_106 ?_
          cases hf
          exact fl_zret C0 hF hr (rgk 0 rfl) (Or.inl rfl) rfl dX5_isAhead_107
        · replace hf := (if_neg c5).symm.trans hf
          refine fl_iconst C0 dX5_isAhead_102 ?_
          refine fl_goto (tgt := 107) C0 dX5_isAhead_103 (by decide) ?_
          cases hf
          exact fl_zret C0 hF hr (rgk 1 rfl) (Or.inr rfl) rfl dX5_isAhead_107
    · replace hf := (if_neg c2).symm.trans hf
      refine lv_aload_n C0.1 C0.2.1 dX5_isAhead_51 rfl (lv_at hl 0 rfl) ?_
      refine fl_getr (k := 1) (t := 132) ck_6 C0 hF ka0 rfl (wt_at (k := 1) (t := 132) hWT ka0 rfl) rfl ⟨rfl, rfl⟩ aw_172 dX5_isAhead_52 ?_
      refine lv_iload_n C0.1 C0.2.1 dX5_isAhead_55 rfl (lv_at hl 1 rfl) ?_
      obtain ⟨hc, hf⟩ := ck_f hf
      refine fl_iald (n := 8) C0 hF (wt_at (k := 1) (t := 132) hWT ka0 rfl) rx1 hc dX5_isAhead_56 ?_
      refine lv_aload_n C0.1 C0.2.1 dX5_isAhead_57 rfl (lv_at hl 0 rfl) ?_
      refine fl_getr (k := 1) (t := 132) ck_6 C0 hF ka0 rfl (wt_at (k := 1) (t := 132) hWT ka0 rfl) rfl ⟨rfl, rfl⟩ aw_172 dX5_isAhead_58 ?_
      refine lv_iload_n C0.1 C0.2.1 dX5_isAhead_61 rfl (lv_at hl 2 rfl) ?_
      obtain ⟨hc, hf⟩ := ck_f hf
      refine fl_iald (n := 8) C0 hF (wt_at (k := 1) (t := 132) hWT ka0 rfl) rx2 hc dX5_isAhead_62 ?_
      refine fl_icmp_ge (tgt := 70) C0 (hF.rI _ _) (hF.rI _ _) dX5_isAhead_63 (by decide) (fun c6 => ?_) (fun c6 => ?_)
      · replace hf := (if_pos c6).symm.trans hf
        refine fl_iconst C0 dX5_isAhead_70 ?_
        cases hf
        exact fl_zret C0 hF hr (rgk 0 rfl) (Or.inl rfl) rfl dX5_isAhead_71
      · replace hf := (if_neg c6).symm.trans hf
        refine fl_iconst C0 dX5_isAhead_66 ?_
        refine fl_goto (tgt := 71) C0 dX5_isAhead_67 (by decide) ?_
        cases hf
        exact fl_zret C0 hF hr (rgk 1 rfl) (Or.inr rfl) rfl dX5_isAhead_71
  · replace hf := (if_neg c1).symm.trans hf
    refine lv_aload_n C0.1 C0.2.1 dX5_isAhead_15 rfl (lv_at hl 0 rfl) ?_
    refine fl_getr (k := 0) (t := 132) ck_6 C0 hF ka0 rfl (wt_at (k := 0) (t := 132) hWT ka0 rfl) rfl ⟨rfl, rfl⟩ aw_170 dX5_isAhead_16 ?_
    refine lv_iload_n C0.1 C0.2.1 dX5_isAhead_19 rfl (lv_at hl 1 rfl) ?_
    obtain ⟨hc, hf⟩ := ck_f hf
    refine fl_iald (n := 8) C0 hF (wt_at (k := 0) (t := 132) hWT ka0 rfl) rx1 hc dX5_isAhead_20 ?_
    refine lv_aload_n C0.1 C0.2.1 dX5_isAhead_21 rfl (lv_at hl 0 rfl) ?_
    refine fl_getr (k := 0) (t := 132) ck_6 C0 hF ka0 rfl (wt_at (k := 0) (t := 132) hWT ka0 rfl) rfl ⟨rfl, rfl⟩ aw_170 dX5_isAhead_22 ?_
    refine lv_iload_n C0.1 C0.2.1 dX5_isAhead_25 rfl (lv_at hl 2 rfl) ?_
    obtain ⟨hc, hf⟩ := ck_f hf
    refine fl_iald (n := 8) C0 hF (wt_at (k := 0) (t := 132) hWT ka0 rfl) rx2 hc dX5_isAhead_26 ?_
    refine fl_icmp_le (tgt := 34) C0 (hF.rI _ _) (hF.rI _ _) dX5_isAhead_27 (by decide) (fun c7 => ?_) (fun c7 => ?_)
    · replace hf := (if_pos c7).symm.trans hf
      refine fl_iconst C0 dX5_isAhead_34 ?_
      cases hf
      exact fl_zret C0 hF hr (rgk 0 rfl) (Or.inl rfl) rfl dX5_isAhead_35
    · replace hf := (if_neg c7).symm.trans hf
      refine fl_iconst C0 dX5_isAhead_30 ?_
      refine fl_goto (tgt := 35) C0 dX5_isAhead_31 (by decide) ?_
      cases hf
      exact fl_zret C0 hF hr (rgk 1 rfl) (Or.inr rfl) rfl dX5_isAhead_35
-- RejudgeHall$Standings.placeOf(I)I
abbrev rm_X5_placeOf : Room := { frames := 1, cells := 0, slots := 0, locals := 22 }
def f_X5_placeOf_22 (K : KT) (P : PT) (k4 : Nat → Int → Int → Int → Option (Int)) (I : IT) (a0 : Nat) (x1 : Int) (x2 : Int) (x3 : Int) : Option (Int) := k4 a0 x1 x2 ((wr (x3 + 1)))
def f_X5_placeOf_4 (K : KT) (P : PT) (I : IT) : Nat → Nat → Int → Int → Int → Option (Int)
  | 0, _, _, _, _ => none
  | n + 1, a0, x1, x2, x3 => if 8 ≤ x3 then (some x2) else (bp (f_X5_isAhead K P I a0 x3 x1) fun r2 => if r2 = 0 then (f_X5_placeOf_22 K P ((f_X5_placeOf_4 K P  I n)) I a0 x1 x2 x3) else (f_X5_placeOf_22 K P ((f_X5_placeOf_4 K P  I n)) I a0 x1 ((wr (x2 + 1))) x3))
def f_X5_placeOf (K : KT) (P : PT) (I : IT) (a0 : Nat) (x1 : Int) : Option (Int) := f_X5_placeOf_4 K P  I FU a0 x1 0 0
abbrev G_X5_placeOf_22 (p : Program) (l : Launch) (e : Env) (s : State) (m : MethodId) (args : Array Value) (below : List Frame) (meth : Method) (c : Code) (D : va_G) (cy : Nat → ClassId) (B : Nat) (L : List Nat) (K : KT) (P : PT) (J : IT) (res : Int) (I : IT) (f : Nat → Int → Int → Int → Option (Int)) : Prop := ∀ (a0 : Nat) (x1 : Int) (x2 : Int) (x3 : Int) (H : Heap) (locs : List Loc) (ls : Array Slot), K a0 = 6 → rg x1 → rg x2 → rg x3 → FS D cy B L K P J s.heap I H locs → lv_has ls 4 [(0, .ref a0), (1, iv x1), (2, iv x2), (3, iv x3)] → f a0 x1 x2 x3 = some res → W p l e rm_X5_placeOf s m args below meth c H locs 0 0 (MQ below (QI D cy B L K P J (res, I)) args s 0 0 (fun q => B ≤ q)) (F0 m 22 ls [])
abbrev G_X5_placeOf_4 (p : Program) (l : Launch) (e : Env) (s : State) (m : MethodId) (args : Array Value) (below : List Frame) (meth : Method) (c : Code) (D : va_G) (cy : Nat → ClassId) (B : Nat) (L : List Nat) (K : KT) (P : PT) (J : IT) (res : Int) (I : IT) (f : Nat → Int → Int → Int → Option (Int)) : Prop := ∀ (a0 : Nat) (x1 : Int) (x2 : Int) (x3 : Int) (H : Heap) (locs : List Loc) (ls : Array Slot), K a0 = 6 → rg x1 → rg x2 → rg x3 → FS D cy B L K P J s.heap I H locs → lv_has ls 4 [(0, .ref a0), (1, iv x1), (2, iv x2), (3, iv x3)] → f a0 x1 x2 x3 = some res → W p l e rm_X5_placeOf s m args below meth c H locs 0 0 (MQ below (QI D cy B L K P J (res, I)) args s 0 0 (fun q => B ≤ q)) (F0 m 4 ls [])
set_option maxRecDepth 100000 in
set_option maxHeartbeats 4000000 in
theorem b_X5_placeOf_22 {p : Program} {l : Launch} {e : Env} {s : State} {m : MethodId} {args : Array Value} {below : List Frame} {meth : Method} {c : Code} {D : va_G} {cy : Nat → ClassId} {B : Nat} {L : List Nat} {K : KT} {P : PT} {J : IT} {res : Int} {I : IT} (C0 : FC D cy B p s m meth c "RejudgeHall$Standings" cX5_placeOf 4) (hr : meth.sig.returnType = (some .int)) (hWT : WT K P) {k4 : Nat → Int → Int → Int → Option (Int)} (hk4 : G_X5_placeOf_4 p l e s m args below meth c D cy B L K P J res I k4) : G_X5_placeOf_22 p l e s m args below meth c D cy B L K P J res I (f_X5_placeOf_22 K P k4 I) := by
  intro a0 x1 x2 x3 H locs ls ka0 rx1 rx2 rx3 hF hl hf
  unfold f_X5_placeOf_22 at hf
  refine fl_iinc (lv' := [(3, iv (wr (x3 + 1))), (0, .ref a0), (1, iv x1), (2, iv x2)]) C0 dX5_placeOf_22 hl (k := 3) rfl (by decide) rfl (fun ls hl => ?_)
  refine fl_goto (tgt := 4) C0 dX5_placeOf_25 (by decide) ?_
  exact hk4  a0 x1 x2 ((wr (x3 + 1))) _ _ _ ka0 rx1 rx2 ((rg_wr _)) hF (lv_sub hl [1, 2, 3, 0] rfl) hf
set_option maxRecDepth 100000 in
set_option maxHeartbeats 4000000 in
theorem b_X5_placeOf_4 {p : Program} {l : Launch} {e : Env} {s : State} {m : MethodId} {args : Array Value} {below : List Frame} {meth : Method} {c : Code} {D : va_G} {cy : Nat → ClassId} {B : Nat} {L : List Nat} {K : KT} {P : PT} {J : IT} {res : Int} {I : IT} (C0 : FC D cy B p s m meth c "RejudgeHall$Standings" cX5_placeOf 4) (hr : meth.sig.returnType = (some .int)) (hWT : WT K P) : ∀ n : Nat, G_X5_placeOf_4 p l e s m args below meth c D cy B L K P J res I (f_X5_placeOf_4 K P  I n)
  | 0 => by
    intro a0 x1 x2 x3 H locs ls ka0 rx1 rx2 rx3 hF hl hf
    cases hf
  | n + 1 => by
    have ih : G_X5_placeOf_4 p l e s m args below meth c D cy B L K P J res I (f_X5_placeOf_4 K P  I n)  := b_X5_placeOf_4 C0 hr hWT  n
    intro a0 x1 x2 x3 H locs ls ka0 rx1 rx2 rx3 hF hl hf
    rw [f_X5_placeOf_4] at hf
    refine lv_iload_n C0.1 C0.2.1 dX5_placeOf_4 rfl (lv_at hl 3 rfl) ?_
    refine fl_bipush C0 dX5_placeOf_5 (by decide) ?_
    refine fl_icmp_ge (tgt := 28) C0 rx3 (rgk 8 rfl) dX5_placeOf_7 (by decide) (fun c1 => ?_) (fun c1 => ?_)
    · replace hf := (if_pos c1).symm.trans hf
      refine lv_iload_n C0.1 C0.2.1 dX5_placeOf_28 rfl (lv_at hl 2 rfl) ?_
      cases hf
      exact fl_iret C0 hF hr rx2 rfl dX5_placeOf_29
    · replace hf := (if_neg c1).symm.trans hf
      refine lv_aload_n C0.1 C0.2.1 dX5_placeOf_10 rfl (lv_at hl 0 rfl) ?_
      refine lv_iload_n C0.1 C0.2.1 dX5_placeOf_11 rfl (lv_at hl 3 rfl) ?_
      refine lv_iload_n C0.1 C0.2.1 dX5_placeOf_12 rfl (lv_at hl 1 rfl) ?_
      obtain ⟨r2, hq2, hf⟩ := bp_f hf
      refine fl_ri hF (fl_runV (As := [iv x3, iv x1]) (rest := []) C0 hF hl.1 ck_6 ka0 rfl (c_X5_isAhead l D cy B L K P J hWT I a0 x3 x1 ka0 rx3 rx1 hq2) aw_549 aw_539 aw_31 aw_52 aw_540 rfl rfl pm_X5_isAhead rfl rfl ⟨Nat.le_of_ble_eq_true rfl, Nat.le_of_ble_eq_true rfl⟩ rfl (Nat.le_of_ble_eq_true rfl) dX5_placeOf_13 ⟨Nat.le_of_ble_eq_true rfl, Nat.le_of_ble_eq_true rfl⟩) (fun H locs hF2 rr2 => ?_)
      refine fl_if_eq (tgt := 22) C0 rr2 dX5_placeOf_16 (by decide) (fun c3 => ?_) (fun c3 => ?_)
      · replace hf := (if_pos c3).symm.trans hf
        exact b_X5_placeOf_22 C0 hr hWT ih  a0 x1 x2 x3 _ _ _ ka0 rx1 rx2 rx3 hF2 (lv_sub hl [0, 1, 2, 3] rfl) hf
      · replace hf := (if_neg c3).symm.trans hf
        refine fl_iinc (lv' := [(2, iv (wr (x2 + 1))), (0, .ref a0), (1, iv x1), (3, iv x3)]) C0 dX5_placeOf_19 hl (k := 2) rfl (by decide) rfl (fun ls hl => ?_)
        exact b_X5_placeOf_22 C0 hr hWT ih  a0 x1 ((wr (x2 + 1))) x3 _ _ _ ka0 rx1 ((rg_wr _)) rx3 hF2 (lv_sub hl [1, 2, 0, 3] rfl) hf
theorem pm_X5_placeOf : plainM yX5_placeOf 1 := by decide +kernel
set_option maxRecDepth 100000 in
set_option maxHeartbeats 4000000 in
theorem c_X5_placeOf (l : Launch) (D : va_G) (cy : Nat → ClassId) (B : Nat) (L : List Nat) (K : KT) (P : PT) (J : IT) (hWT : WT K P) (I : IT) (a0 : Nat) (x1 : Int) (ka0 : K a0 = 6) (rx1 : rg x1) {r : Int} (hf : f_X5_placeOf K P I a0 x1 = some r) : Met l yX5_placeOf [.code yX5_placeOf cX5_placeOf 4 (some .int)] rm_X5_placeOf (va_Pc [.ref a0, iv x1] (FW D cy B L K P J I)) (QI D cy B L K P J (r, I)) 0 0 (fun q => B ≤ q) := by
  refine fl_body (own := "RejudgeHall$Standings") [.ref a0, iv x1] (by decide) rfl (Nat.le_of_ble_eq_true rfl) ?_
  intro p e s m args below meth c ls C0 hr hF hl
  have hl : lv_has ls 4 [(0, .ref a0), (1, iv x1)] := hl
  unfold f_X5_placeOf at hf
  refine fl_iconst C0 dX5_placeOf_0 ?_
  refine lv_istore_n (lv' := [(2, iv 0), (0, .ref a0), (1, iv x1)]) C0.1 C0.2.1 dX5_placeOf_1 rfl hl (by decide) rfl (fun ls hl => ?_)
  refine fl_iconst C0 dX5_placeOf_2 ?_
  refine lv_istore_n (lv' := [(3, iv 0), (2, iv 0), (0, .ref a0), (1, iv x1)]) C0.1 C0.2.1 dX5_placeOf_3 rfl hl (by decide) rfl (fun ls hl => ?_)
  exact b_X5_placeOf_4 C0 hr hWT  FU  a0 x1 0 0 _ _ _ ka0 rx1 ((rgk 0 rfl)) ((rgk 0 rfl)) hF (lv_sub hl [2, 3, 1, 0] rfl) hf
-- RejudgeHall.findsAnswer(LRejudgeHall$Program;LRejudgeHall$Row;)Z
abbrev rm_X7_findsAnswer : Room := { frames := 4, cells := 0, slots := 0, locals := 96 }
def f_X7_findsAnswer (K : KT) (P : PT) (I : IT) (a0 : Nat) (a1 : Nat) (a2 : Nat) : Option (Int × IT) := bi (f_X1_execute K P I ((P a0 2)) a1 a2 500) fun r1 I1 => if r1 = 0 then (some (1, I1)) else (some (0, I1))
theorem pm_X7_findsAnswer : plainM yX7_findsAnswer 2 := by decide +kernel
set_option maxRecDepth 100000 in
set_option maxHeartbeats 4000000 in
theorem c_X7_findsAnswer (l : Launch) (D : va_G) (cy : Nat → ClassId) (B : Nat) (L : List Nat) (K : KT) (P : PT) (J : IT) (hWT : WT K P) (I : IT) (a0 : Nat) (a1 : Nat) (a2 : Nat) (ka0 : K a0 = 8) (ka1 : K a1 = 4) (ka2 : K a2 = 5) {r : Int} {I' : IT} (hf : f_X7_findsAnswer K P I a0 a1 a2 = some (r, I')) : Met l yX7_findsAnswer [.code yX7_findsAnswer cX7_findsAnswer 3 (some .boolean)] rm_X7_findsAnswer (va_Pc [.ref a0, .ref a1, .ref a2] (FW D cy B L K P J I)) (QI D cy B L K P J (r, I')) 0 0 (fun q => B ≤ q) := by
  refine fl_body (own := "RejudgeHall") [.ref a0, .ref a1, .ref a2] (by decide) rfl (Nat.le_of_ble_eq_true rfl) ?_
  intro p e s m args below meth c ls C0 hr hF hl
  have hl : lv_has ls 3 [(0, .ref a0), (1, .ref a1), (2, .ref a2)] := hl
  unfold f_X7_findsAnswer at hf
  refine lv_aload_n C0.1 C0.2.1 dX7_findsAnswer_0 rfl (lv_at hl 0 rfl) ?_
  refine fl_getr (k := 2) (t := 2) ck_8 C0 hF ka0 rfl (wt_at (k := 2) (t := 2) hWT ka0 rfl) rfl ⟨rfl, rfl⟩ aw_192 dX7_findsAnswer_1 ?_
  refine lv_aload_n C0.1 C0.2.1 dX7_findsAnswer_4 rfl (lv_at hl 1 rfl) ?_
  refine lv_aload_n C0.1 C0.2.1 dX7_findsAnswer_5 rfl (lv_at hl 2 rfl) ?_
  refine fl_sipush C0 dX7_findsAnswer_6 (by decide) ?_
  obtain ⟨r1, I1, hq1, hf⟩ := bi_f hf
  refine fl_ri hF (fl_runN (As := [.ref a1, .ref a2, iv 500]) (rest := []) C0 hF hl.1 ck_2 (wt_at (k := 2) (t := 2) hWT ka0 rfl) rfl (c_X1_execute l D cy B L K P J hWT I ((P a0 2)) a1 a2 500 ((wt_at (k := 2) (t := 2) hWT ka0 rfl)) ka1 ka2 ((rgk 500 rfl)) hq1) aw_377 aw_379 aw_6 aw_48 aw_380 rfl pm_X1_execute rfl rfl ⟨Nat.le_of_ble_eq_true rfl, Nat.le_of_ble_eq_true rfl⟩ rfl (Nat.le_of_ble_eq_true rfl) dX7_findsAnswer_9 ⟨Nat.le_of_ble_eq_true rfl, Nat.le_of_ble_eq_true rfl⟩) (fun H locs hF1 rr1 => ?_)
  refine fl_if_ne (tgt := 19) C0 rr1 dX7_findsAnswer_12 (by decide) (fun c2 => ?_) (fun c2 => ?_)
  · replace hf := (if_neg c2).symm.trans hf
    refine fl_iconst C0 dX7_findsAnswer_19 ?_
    cases hf
    exact fl_zret C0 hF1 hr (rgk 0 rfl) (Or.inl rfl) rfl dX7_findsAnswer_20
  · replace hf := (if_pos c2).symm.trans hf
    refine fl_iconst C0 dX7_findsAnswer_15 ?_
    refine fl_goto (tgt := 20) C0 dX7_findsAnswer_16 (by decide) ?_
    cases hf
    exact fl_zret C0 hF1 hr (rgk 1 rfl) (Or.inr rfl) rfl dX7_findsAnswer_20
-- RejudgeHall.findsAllAnswers(LRejudgeHall$Problem;LRejudgeHall$Program;)Z
abbrev rm_X7_findsAllAnswers : Room := { frames := 5, cells := 0, slots := 0, locals := 118 }
def f_X7_findsAllAnswers_2 (K : KT) (P : PT) : Nat → IT → Nat → Nat → Nat → Int → Option (Int × IT)
  | 0, _, _, _, _, _ => none
  | n + 1, I, a0, a1, a2, x3 => if (I ((P a1 3)) 2) ≤ x3 then (some (1, I)) else (bp (lgetf K P I ((P a1 3)) x3 7) fun r3 => bi (f_X7_findsAnswer K P I a0 a2 ((P r3 0))) fun r4 I4 => if r4 = 0 then (some (0, I4)) else ((f_X7_findsAllAnswers_2 K P  n) I4 a0 a1 a2 ((wr (x3 + 1)))))
def f_X7_findsAllAnswers (K : KT) (P : PT) (I : IT) (a0 : Nat) (a1 : Nat) (a2 : Nat) : Option (Int × IT) := f_X7_findsAllAnswers_2 K P  FU I a0 a1 a2 0
abbrev G_X7_findsAllAnswers_2 (p : Program) (l : Launch) (e : Env) (s : State) (m : MethodId) (args : Array Value) (below : List Frame) (meth : Method) (c : Code) (D : va_G) (cy : Nat → ClassId) (B : Nat) (L : List Nat) (K : KT) (P : PT) (J : IT) (res : Int × IT) (f : IT → Nat → Nat → Nat → Int → Option (Int × IT)) : Prop := ∀ (I : IT) (a0 : Nat) (a1 : Nat) (a2 : Nat) (x3 : Int) (H : Heap) (locs : List Loc) (ls : Array Slot), K a0 = 8 → K a1 = 3 → K a2 = 4 → rg x3 → FS D cy B L K P J s.heap I H locs → lv_has ls 4 [(0, .ref a0), (1, .ref a1), (2, .ref a2), (3, iv x3)] → f I a0 a1 a2 x3 = some res → W p l e rm_X7_findsAllAnswers s m args below meth c H locs 0 0 (MQ below (QI D cy B L K P J res) args s 0 0 (fun q => B ≤ q)) (F0 m 2 ls [])
set_option maxRecDepth 100000 in
set_option maxHeartbeats 4000000 in
theorem b_X7_findsAllAnswers_2 {p : Program} {l : Launch} {e : Env} {s : State} {m : MethodId} {args : Array Value} {below : List Frame} {meth : Method} {c : Code} {D : va_G} {cy : Nat → ClassId} {B : Nat} {L : List Nat} {K : KT} {P : PT} {J : IT} {res : Int × IT} (C0 : FC D cy B p s m meth c "RejudgeHall" cX7_findsAllAnswers 4) (hr : meth.sig.returnType = (some .boolean)) (hWT : WT K P) : ∀ n : Nat, G_X7_findsAllAnswers_2 p l e s m args below meth c D cy B L K P J res (f_X7_findsAllAnswers_2 K P  n)
  | 0 => by
    intro I a0 a1 a2 x3 H locs ls ka0 ka1 ka2 rx3 hF hl hf
    cases hf
  | n + 1 => by
    have ih : G_X7_findsAllAnswers_2 p l e s m args below meth c D cy B L K P J res (f_X7_findsAllAnswers_2 K P  n)  := b_X7_findsAllAnswers_2 C0 hr hWT  n
    intro I a0 a1 a2 x3 H locs ls ka0 ka1 ka2 rx3 hF hl hf
    rw [f_X7_findsAllAnswers_2] at hf
    refine lv_iload_n C0.1 C0.2.1 dX7_findsAllAnswers_2 rfl (lv_at hl 3 rfl) ?_
    refine lv_aload_n C0.1 C0.2.1 dX7_findsAllAnswers_3 rfl (lv_at hl 1 rfl) ?_
    refine fl_getrN (k := 3) (t := 12) ck_3 C0 hF ka1 rfl (wt_at (k := 3) (t := 12) hWT ka1 rfl) rfl ⟨rfl, rfl⟩ aw_591 dX7_findsAllAnswers_4 ?_
    refine fl_ri hF (fl_runV (As := []) (rest := [iv x3]) C0 hF hl.1 ck_0 (wt_at (k := 3) (t := 12) hWT ka1 rfl) rfl (c_size l D cy B L K P J I ((P a1 3)) 12 (wt_at (k := 3) (t := 12) hWT ka1 rfl) rfl) aw_344 aw_345 aw_346 aw_51 aw_347 rfl rfl pm_size rfl rfl ⟨Nat.le_of_ble_eq_true rfl, Nat.le_of_ble_eq_true rfl⟩ rfl (Nat.le_of_ble_eq_true rfl) dX7_findsAllAnswers_7 ⟨Nat.le_of_ble_eq_true rfl, Nat.le_of_ble_eq_true rfl⟩) (fun H locs hF1 _ => ?_)
    refine fl_icmp_ge (tgt := 43) C0 rx3 (hF1.rI _ _) dX7_findsAllAnswers_10 (by decide) (fun c2 => ?_) (fun c2 => ?_)
    · replace hf := (if_pos c2).symm.trans hf
      refine fl_iconst C0 dX7_findsAllAnswers_43 ?_
      cases hf
      exact fl_zret C0 hF1 hr (rgk 1 rfl) (Or.inr rfl) rfl dX7_findsAllAnswers_44
    · replace hf := (if_neg c2).symm.trans hf
      refine lv_aload_n C0.1 C0.2.1 dX7_findsAllAnswers_13 rfl (lv_at hl 0 rfl) ?_
      refine lv_aload_n C0.1 C0.2.1 dX7_findsAllAnswers_14 rfl (lv_at hl 2 rfl) ?_
      refine lv_aload_n C0.1 C0.2.1 dX7_findsAllAnswers_15 rfl (lv_at hl 1 rfl) ?_
      refine fl_getrN (k := 3) (t := 12) ck_3 C0 hF1 ka1 rfl (wt_at (k := 3) (t := 12) hWT ka1 rfl) rfl ⟨rfl, rfl⟩ aw_591 dX7_findsAllAnswers_16 ?_
      refine lv_iload_n C0.1 C0.2.1 dX7_findsAllAnswers_19 rfl (lv_at hl 3 rfl) ?_
      obtain ⟨r3, hq3, hf⟩ := bp_f hf
      have kr3 := lget_k hq3
      refine fl_rr hF1 (fl_runV (As := [iv x3]) (rest := [.ref a2, .ref a0]) C0 hF1 hl.1 ck_0 (wt_at (k := 3) (t := 12) hWT ka1 rfl) rfl (c_get l D cy B L K P J I ((P a1 3)) x3 12 7 (wt_at (k := 3) (t := 12) hWT ka1 rfl) rfl rx3 hq3) aw_348 aw_349 aw_350 aw_51 aw_351 rfl rfl pm_get rfl rfl ⟨Nat.le_of_ble_eq_true rfl, Nat.le_of_ble_eq_true rfl⟩ rfl (Nat.le_of_ble_eq_true rfl) dX7_findsAllAnswers_20 ⟨Nat.le_of_ble_eq_true rfl, Nat.le_of_ble_eq_true rfl⟩) (fun H locs hF3 => ?_)
      refine fl_cast ck_7 C0 hF3 kr3 rfl aw_372 dX7_findsAllAnswers_23 ?_
      refine fl_getrN (k := 0) (t := 5) ck_7 C0 hF3 kr3 rfl (wt_at (k := 0) (t := 5) hWT kr3 rfl) rfl ⟨rfl, rfl⟩ aw_696 dX7_findsAllAnswers_26 ?_
      obtain ⟨r4, I4, hq4, hf⟩ := bi_f hf
      refine fl_ri hF3 (fl_runV (As := [.ref a2, .ref (P r3 0)]) (rest := []) C0 hF3 hl.1 ck_8 ka0 rfl (c_X7_findsAnswer l D cy B L K P J hWT I a0 a2 ((P r3 0)) ka0 ka2 ((wt_at (k := 0) (t := 5) hWT kr3 rfl)) hq4) aw_678 aw_680 aw_38 aw_45 aw_681 rfl rfl pm_X7_findsAnswer rfl rfl ⟨Nat.le_of_ble_eq_true rfl, Nat.le_of_ble_eq_true rfl⟩ rfl (Nat.le_of_ble_eq_true rfl) dX7_findsAllAnswers_29 ⟨Nat.le_of_ble_eq_true rfl, Nat.le_of_ble_eq_true rfl⟩) (fun H locs hF4 rr4 => ?_)
      refine fl_if_ne (tgt := 37) C0 rr4 dX7_findsAllAnswers_32 (by decide) (fun c5 => ?_) (fun c5 => ?_)
      · replace hf := (if_neg c5).symm.trans hf
        refine fl_iinc (lv' := [(3, iv (wr (x3 + 1))), (0, .ref a0), (1, .ref a1), (2, .ref a2)]) C0 dX7_findsAllAnswers_37 hl (k := 3) rfl (by decide) rfl (fun ls hl => ?_)
        refine fl_goto (tgt := 2) C0 dX7_findsAllAnswers_40 (by decide) ?_
        exact ih I4 a0 a1 a2 ((wr (x3 + 1))) _ _ _ ka0 ka1 ka2 ((rg_wr _)) hF4 (lv_sub hl [1, 2, 3, 0] rfl) hf
      · replace hf := (if_pos c5).symm.trans hf
        refine fl_iconst C0 dX7_findsAllAnswers_35 ?_
        cases hf
        exact fl_zret C0 hF4 hr (rgk 0 rfl) (Or.inl rfl) rfl dX7_findsAllAnswers_36
theorem pm_X7_findsAllAnswers : plainM yX7_findsAllAnswers 2 := by decide +kernel
set_option maxRecDepth 100000 in
set_option maxHeartbeats 4000000 in
theorem c_X7_findsAllAnswers (l : Launch) (D : va_G) (cy : Nat → ClassId) (B : Nat) (L : List Nat) (K : KT) (P : PT) (J : IT) (hWT : WT K P) (I : IT) (a0 : Nat) (a1 : Nat) (a2 : Nat) (ka0 : K a0 = 8) (ka1 : K a1 = 3) (ka2 : K a2 = 4) {r : Int} {I' : IT} (hf : f_X7_findsAllAnswers K P I a0 a1 a2 = some (r, I')) : Met l yX7_findsAllAnswers [.code yX7_findsAllAnswers cX7_findsAllAnswers 4 (some .boolean)] rm_X7_findsAllAnswers (va_Pc [.ref a0, .ref a1, .ref a2] (FW D cy B L K P J I)) (QI D cy B L K P J (r, I')) 0 0 (fun q => B ≤ q) := by
  refine fl_body (own := "RejudgeHall") [.ref a0, .ref a1, .ref a2] (by decide) rfl (Nat.le_of_ble_eq_true rfl) ?_
  intro p e s m args below meth c ls C0 hr hF hl
  have hl : lv_has ls 4 [(0, .ref a0), (1, .ref a1), (2, .ref a2)] := hl
  unfold f_X7_findsAllAnswers at hf
  refine fl_iconst C0 dX7_findsAllAnswers_0 ?_
  refine lv_istore_n (lv' := [(3, iv 0), (0, .ref a0), (1, .ref a1), (2, .ref a2)]) C0.1 C0.2.1 dX7_findsAllAnswers_1 rfl hl (by decide) rfl (fun ls hl => ?_)
  exact b_X7_findsAllAnswers_2 C0 hr hWT  FU I a0 a1 a2 0 _ _ _ ka0 ka1 ka2 ((rgk 0 rfl)) hF (lv_sub hl [1, 2, 3, 0] rfl) hf
-- RejudgeHall.renewAnswers(LRejudgeHall$Problem;)V
abbrev rm_X7_renewAnswers : Room := { frames := 5, cells := 0, slots := 0, locals := 118 }
def f_X7_renewAnswers_54 (K : KT) (P : PT) (k2 : IT → Nat → Nat → Int → Option (IT)) (I : IT) (a0 : Nat) (a1 : Nat) (x2 : Int) : Option (IT) := k2 I a0 a1 ((wr (x2 + 1)))
def f_X7_renewAnswers_2 (K : KT) (P : PT) : Nat → IT → Nat → Nat → Int → Option (IT)
  | 0, _, _, _, _ => none
  | n + 1, I, a0, a1, x2 => if (I ((P a1 3)) 2) ≤ x2 then (some I) else (bp (lgetf K P I ((P a1 3)) x2 7) fun r3 => bi (f_X7_findsAnswer K P I a0 ((P a1 2)) ((P r3 0))) fun r4 I4 => if r4 = 0 then (f_X7_renewAnswers_54 K P ((f_X7_renewAnswers_2 K P  n)) I4 a0 a1 x2) else (bp (f_X4_copyFrom K P I4 ((P r3 1)) ((P ((P a0 2)) 1))) fun I6 => f_X7_renewAnswers_54 K P ((f_X7_renewAnswers_2 K P  n)) I6 a0 a1 x2))
def f_X7_renewAnswers (K : KT) (P : PT) (I : IT) (a0 : Nat) (a1 : Nat) : Option (IT) := f_X7_renewAnswers_2 K P  FU I a0 a1 0
abbrev G_X7_renewAnswers_54 (p : Program) (l : Launch) (e : Env) (s : State) (m : MethodId) (args : Array Value) (below : List Frame) (meth : Method) (c : Code) (D : va_G) (cy : Nat → ClassId) (B : Nat) (L : List Nat) (K : KT) (P : PT) (J : IT) (res : IT) (f : IT → Nat → Nat → Int → Option (IT)) : Prop := ∀ (I : IT) (a0 : Nat) (a1 : Nat) (x2 : Int) (H : Heap) (locs : List Loc) (ls : Array Slot), K a0 = 8 → K a1 = 3 → rg x2 → FS D cy B L K P J s.heap I H locs → lv_has ls 4 [(0, .ref a0), (1, .ref a1), (2, iv x2)] → f I a0 a1 x2 = some res → W p l e rm_X7_renewAnswers s m args below meth c H locs 0 0 (MQ below (QV D cy B L K P J res) args s 0 0 (fun q => B ≤ q)) (F0 m 54 ls [])
abbrev G_X7_renewAnswers_2 (p : Program) (l : Launch) (e : Env) (s : State) (m : MethodId) (args : Array Value) (below : List Frame) (meth : Method) (c : Code) (D : va_G) (cy : Nat → ClassId) (B : Nat) (L : List Nat) (K : KT) (P : PT) (J : IT) (res : IT) (f : IT → Nat → Nat → Int → Option (IT)) : Prop := ∀ (I : IT) (a0 : Nat) (a1 : Nat) (x2 : Int) (H : Heap) (locs : List Loc) (ls : Array Slot), K a0 = 8 → K a1 = 3 → rg x2 → FS D cy B L K P J s.heap I H locs → lv_has ls 4 [(0, .ref a0), (1, .ref a1), (2, iv x2)] → f I a0 a1 x2 = some res → W p l e rm_X7_renewAnswers s m args below meth c H locs 0 0 (MQ below (QV D cy B L K P J res) args s 0 0 (fun q => B ≤ q)) (F0 m 2 ls [])
set_option maxRecDepth 100000 in
set_option maxHeartbeats 4000000 in
theorem b_X7_renewAnswers_54 {p : Program} {l : Launch} {e : Env} {s : State} {m : MethodId} {args : Array Value} {below : List Frame} {meth : Method} {c : Code} {D : va_G} {cy : Nat → ClassId} {B : Nat} {L : List Nat} {K : KT} {P : PT} {J : IT} {res : IT} (C0 : FC D cy B p s m meth c "RejudgeHall" cX7_renewAnswers 4) (hr : meth.sig.returnType = none) (hWT : WT K P) {k2 : IT → Nat → Nat → Int → Option (IT)} (hk2 : G_X7_renewAnswers_2 p l e s m args below meth c D cy B L K P J res k2) : G_X7_renewAnswers_54 p l e s m args below meth c D cy B L K P J res (f_X7_renewAnswers_54 K P k2) := by
  intro I a0 a1 x2 H locs ls ka0 ka1 rx2 hF hl hf
  unfold f_X7_renewAnswers_54 at hf
  refine fl_iinc (lv' := [(2, iv (wr (x2 + 1))), (0, .ref a0), (1, .ref a1)]) C0 dX7_renewAnswers_54 hl (k := 2) rfl (by decide) rfl (fun ls hl => ?_)
  refine fl_goto (tgt := 2) C0 dX7_renewAnswers_57 (by decide) ?_
  exact hk2 I a0 a1 ((wr (x2 + 1))) _ _ _ ka0 ka1 ((rg_wr _)) hF (lv_sub hl [1, 2, 0] rfl) hf
set_option maxRecDepth 100000 in
set_option maxHeartbeats 4000000 in
theorem b_X7_renewAnswers_2 {p : Program} {l : Launch} {e : Env} {s : State} {m : MethodId} {args : Array Value} {below : List Frame} {meth : Method} {c : Code} {D : va_G} {cy : Nat → ClassId} {B : Nat} {L : List Nat} {K : KT} {P : PT} {J : IT} {res : IT} (C0 : FC D cy B p s m meth c "RejudgeHall" cX7_renewAnswers 4) (hr : meth.sig.returnType = none) (hWT : WT K P) : ∀ n : Nat, G_X7_renewAnswers_2 p l e s m args below meth c D cy B L K P J res (f_X7_renewAnswers_2 K P  n)
  | 0 => by
    intro I a0 a1 x2 H locs ls ka0 ka1 rx2 hF hl hf
    cases hf
  | n + 1 => by
    have ih : G_X7_renewAnswers_2 p l e s m args below meth c D cy B L K P J res (f_X7_renewAnswers_2 K P  n)  := b_X7_renewAnswers_2 C0 hr hWT  n
    intro I a0 a1 x2 H locs ls ka0 ka1 rx2 hF hl hf
    rw [f_X7_renewAnswers_2] at hf
    refine lv_iload_n C0.1 C0.2.1 dX7_renewAnswers_2 rfl (lv_at hl 2 rfl) ?_
    refine lv_aload_n C0.1 C0.2.1 dX7_renewAnswers_3 rfl (lv_at hl 1 rfl) ?_
    refine fl_getrN (k := 3) (t := 12) ck_3 C0 hF ka1 rfl (wt_at (k := 3) (t := 12) hWT ka1 rfl) rfl ⟨rfl, rfl⟩ aw_591 dX7_renewAnswers_4 ?_
    refine fl_ri hF (fl_runV (As := []) (rest := [iv x2]) C0 hF hl.1 ck_0 (wt_at (k := 3) (t := 12) hWT ka1 rfl) rfl (c_size l D cy B L K P J I ((P a1 3)) 12 (wt_at (k := 3) (t := 12) hWT ka1 rfl) rfl) aw_344 aw_345 aw_346 aw_51 aw_347 rfl rfl pm_size rfl rfl ⟨Nat.le_of_ble_eq_true rfl, Nat.le_of_ble_eq_true rfl⟩ rfl (Nat.le_of_ble_eq_true rfl) dX7_renewAnswers_7 ⟨Nat.le_of_ble_eq_true rfl, Nat.le_of_ble_eq_true rfl⟩) (fun H locs hF1 _ => ?_)
    refine fl_icmp_ge (tgt := 60) C0 rx2 (hF1.rI _ _) dX7_renewAnswers_10 (by decide) (fun c2 => ?_) (fun c2 => ?_)
    · replace hf := (if_pos c2).symm.trans hf
      cases hf
      exact fl_vret C0 hF1 hr rfl dX7_renewAnswers_60
    · replace hf := (if_neg c2).symm.trans hf
      refine lv_aload_n C0.1 C0.2.1 dX7_renewAnswers_13 rfl (lv_at hl 1 rfl) ?_
      refine fl_getrN (k := 3) (t := 12) ck_3 C0 hF1 ka1 rfl (wt_at (k := 3) (t := 12) hWT ka1 rfl) rfl ⟨rfl, rfl⟩ aw_591 dX7_renewAnswers_14 ?_
      refine lv_iload_n C0.1 C0.2.1 dX7_renewAnswers_17 rfl (lv_at hl 2 rfl) ?_
      obtain ⟨r3, hq3, hf⟩ := bp_f hf
      have kr3 := lget_k hq3
      refine fl_rr hF1 (fl_runV (As := [iv x2]) (rest := []) C0 hF1 hl.1 ck_0 (wt_at (k := 3) (t := 12) hWT ka1 rfl) rfl (c_get l D cy B L K P J I ((P a1 3)) x2 12 7 (wt_at (k := 3) (t := 12) hWT ka1 rfl) rfl rx2 hq3) aw_348 aw_349 aw_350 aw_51 aw_351 rfl rfl pm_get rfl rfl ⟨Nat.le_of_ble_eq_true rfl, Nat.le_of_ble_eq_true rfl⟩ rfl (Nat.le_of_ble_eq_true rfl) dX7_renewAnswers_18 ⟨Nat.le_of_ble_eq_true rfl, Nat.le_of_ble_eq_true rfl⟩) (fun H locs hF3 => ?_)
      refine fl_cast ck_7 C0 hF3 kr3 rfl aw_372 dX7_renewAnswers_21 ?_
      refine lv_astore_n (lv' := [(3, .ref r3), (0, .ref a0), (1, .ref a1), (2, iv x2)]) C0.1 C0.2.1 dX7_renewAnswers_24 rfl hl (by decide) rfl (fun ls hl => ?_)
      refine lv_aload_n C0.1 C0.2.1 dX7_renewAnswers_25 rfl (lv_at hl 1 rfl) ?_
      refine lv_aload_n C0.1 C0.2.1 dX7_renewAnswers_26 rfl (lv_at hl 2 rfl) ?_
      refine fl_getrN (k := 2) (t := 4) ck_3 C0 hF3 ka1 rfl (wt_at (k := 2) (t := 4) hWT ka1 rfl) rfl ⟨rfl, rfl⟩ aw_589 dX7_renewAnswers_27 ?_
      refine lv_aload_n C0.1 C0.2.1 dX7_renewAnswers_30 rfl (lv_at hl 0 rfl) ?_
      refine fl_getrN (k := 0) (t := 5) ck_7 C0 hF3 kr3 rfl (wt_at (k := 0) (t := 5) hWT kr3 rfl) rfl ⟨rfl, rfl⟩ aw_696 dX7_renewAnswers_31 ?_
      obtain ⟨r4, I4, hq4, hf⟩ := bi_f hf
      refine fl_ri hF3 (fl_runV (As := [.ref (P a1 2), .ref (P r3 0)]) (rest := []) C0 hF3 hl.1 ck_8 ka0 rfl (c_X7_findsAnswer l D cy B L K P J hWT I a0 ((P a1 2)) ((P r3 0)) ka0 ((wt_at (k := 2) (t := 4) hWT ka1 rfl)) ((wt_at (k := 0) (t := 5) hWT kr3 rfl)) hq4) aw_678 aw_680 aw_38 aw_45 aw_681 rfl rfl pm_X7_findsAnswer rfl rfl ⟨Nat.le_of_ble_eq_true rfl, Nat.le_of_ble_eq_true rfl⟩ rfl (Nat.le_of_ble_eq_true rfl) dX7_renewAnswers_34 ⟨Nat.le_of_ble_eq_true rfl, Nat.le_of_ble_eq_true rfl⟩) (fun H locs hF4 rr4 => ?_)
      refine fl_if_eq (tgt := 54) C0 rr4 dX7_renewAnswers_37 (by decide) (fun c5 => ?_) (fun c5 => ?_)
      · replace hf := (if_pos c5).symm.trans hf
        exact b_X7_renewAnswers_54 C0 hr hWT ih I4 a0 a1 x2 _ _ _ ka0 ka1 rx2 hF4 (lv_sub hl [1, 2, 3] rfl) hf
      · replace hf := (if_neg c5).symm.trans hf
        refine lv_aload_n C0.1 C0.2.1 dX7_renewAnswers_40 rfl (lv_at hl 0 rfl) ?_
        refine fl_getrN (k := 1) (t := 5) ck_7 C0 hF4 kr3 rfl (wt_at (k := 1) (t := 5) hWT kr3 rfl) rfl ⟨rfl, rfl⟩ aw_698 dX7_renewAnswers_41 ?_
        refine lv_aload_n C0.1 C0.2.1 dX7_renewAnswers_44 rfl (lv_at hl 1 rfl) ?_
        refine fl_getr (k := 2) (t := 2) ck_8 C0 hF4 ka0 rfl (wt_at (k := 2) (t := 2) hWT ka0 rfl) rfl ⟨rfl, rfl⟩ aw_192 dX7_renewAnswers_45 ?_
        refine fl_getrN (k := 1) (t := 5) ck_2 C0 hF4 (wt_at (k := 2) (t := 2) hWT ka0 rfl) rfl (wt_at (k := 1) (t := 5) hWT (wt_at (k := 2) (t := 2) hWT ka0 rfl) rfl) rfl ⟨rfl, rfl⟩ aw_122 dX7_renewAnswers_48 ?_
        obtain ⟨I6, hq6, hf⟩ := bp_f hf
        refine fl_rv hF4 (fl_runN (As := [.ref (P ((P a0 2)) 1)]) (rest := []) C0 hF4 hl.1 ck_5 (wt_at (k := 1) (t := 5) hWT kr3 rfl) rfl (c_X4_copyFrom l D cy B L K P J hWT I4 ((P r3 1)) ((P ((P a0 2)) 1)) ((wt_at (k := 1) (t := 5) hWT kr3 rfl)) ((wt_at (k := 1) (t := 5) hWT (wt_at (k := 2) (t := 2) hWT ka0 rfl) rfl)) hq6) aw_730 aw_692 aw_39 aw_47 aw_693 rfl pm_X4_copyFrom rfl rfl ⟨Nat.le_of_ble_eq_true rfl, Nat.le_of_ble_eq_true rfl⟩ rfl (Nat.le_of_ble_eq_true rfl) dX7_renewAnswers_51 ⟨Nat.le_of_ble_eq_true rfl, Nat.le_of_ble_eq_true rfl⟩) (fun H locs hF6 => ?_)
        exact b_X7_renewAnswers_54 C0 hr hWT ih I6 a0 a1 x2 _ _ _ ka0 ka1 rx2 hF6 (lv_sub hl [1, 2, 3] rfl) hf
theorem pm_X7_renewAnswers : plainM yX7_renewAnswers 1 := by decide +kernel
set_option maxRecDepth 100000 in
set_option maxHeartbeats 4000000 in
theorem c_X7_renewAnswers (l : Launch) (D : va_G) (cy : Nat → ClassId) (B : Nat) (L : List Nat) (K : KT) (P : PT) (J : IT) (hWT : WT K P) (I : IT) (a0 : Nat) (a1 : Nat) (ka0 : K a0 = 8) (ka1 : K a1 = 3) {I' : IT} (hf : f_X7_renewAnswers K P I a0 a1 = some I') : Met l yX7_renewAnswers [.code yX7_renewAnswers cX7_renewAnswers 4 none] rm_X7_renewAnswers (va_Pc [.ref a0, .ref a1] (FW D cy B L K P J I)) (QV D cy B L K P J I') 0 0 (fun q => B ≤ q) := by
  refine fl_body (own := "RejudgeHall") [.ref a0, .ref a1] (by decide) rfl (Nat.le_of_ble_eq_true rfl) ?_
  intro p e s m args below meth c ls C0 hr hF hl
  have hl : lv_has ls 4 [(0, .ref a0), (1, .ref a1)] := hl
  unfold f_X7_renewAnswers at hf
  refine fl_iconst C0 dX7_renewAnswers_0 ?_
  refine lv_istore_n (lv' := [(2, iv 0), (0, .ref a0), (1, .ref a1)]) C0.1 C0.2.1 dX7_renewAnswers_1 rfl hl (by decide) rfl (fun ls hl => ?_)
  exact b_X7_renewAnswers_2 C0 hr hWT  FU I a0 a1 0 _ _ _ ka0 ka1 ((rgk 0 rfl)) hF (lv_sub hl [1, 2, 0] rfl) hf
-- RejudgeHall.tryOut(LRejudgeHall$Entry;LRejudgeHall$Trial;)I
abbrev rm_X7_tryOut : Room := { frames := 4, cells := 0, slots := 0, locals := 96 }
def f_X7_tryOut_45 (K : KT) (P : PT) (I : IT) (a0 : Nat) (a2 : Nat) (t0 : Int) : Option (Int × IT) := bp (f_X4_isWithin K P I ((P ((P a0 2)) 1)) t0 ((P a2 1))) fun r4 => if r4 = 0 then (if (I ((P ((P a0 2)) 1)) 1) = 0 then (if (I ((P a2 1)) 1) ≤ 0 then (some (1, I)) else (some (5, I))) else (some (1, I))) else (some (0, I))
def f_X7_tryOut (K : KT) (P : PT) (I : IT) (a0 : Nat) (a1 : Nat) (a2 : Nat) : Option (Int × IT) := bi (f_X1_execute K P I ((P a0 2)) ((P a1 3)) ((P a2 0)) ((I ((P a1 1)) 1))) fun r1 I1 => if r1 = 0 then (if (I1 ((P a1 1)) 5) = 1 then (f_X7_tryOut_45 K P  I1 a0 a2 1) else (f_X7_tryOut_45 K P  I1 a0 a2 0)) else (some (r1, I1))
abbrev G_X7_tryOut_45 (p : Program) (l : Launch) (e : Env) (s : State) (m : MethodId) (args : Array Value) (below : List Frame) (meth : Method) (c : Code) (D : va_G) (cy : Nat → ClassId) (B : Nat) (L : List Nat) (K : KT) (P : PT) (J : IT) (res : Int × IT) (f : IT → Nat → Nat → Int → Option (Int × IT)) : Prop := ∀ (I : IT) (a0 : Nat) (a2 : Nat) (t0 : Int) (H : Heap) (locs : List Loc) (ls : Array Slot), K a0 = 8 → K a2 = 7 → rg t0 → FS D cy B L K P J s.heap I H locs → lv_has ls 5 [(0, .ref a0), (2, .ref a2)] → f I a0 a2 t0 = some res → W p l e rm_X7_tryOut s m args below meth c H locs 0 0 (MQ below (QI D cy B L K P J res) args s 0 0 (fun q => B ≤ q)) (F0 m 45 ls [iv t0])
set_option maxRecDepth 100000 in
set_option maxHeartbeats 4000000 in
theorem b_X7_tryOut_45 {p : Program} {l : Launch} {e : Env} {s : State} {m : MethodId} {args : Array Value} {below : List Frame} {meth : Method} {c : Code} {D : va_G} {cy : Nat → ClassId} {B : Nat} {L : List Nat} {K : KT} {P : PT} {J : IT} {res : Int × IT} (C0 : FC D cy B p s m meth c "RejudgeHall" cX7_tryOut 5) (hr : meth.sig.returnType = (some .int)) (hWT : WT K P) : G_X7_tryOut_45 p l e s m args below meth c D cy B L K P J res (f_X7_tryOut_45 K P ) := by
  intro I a0 a2 t0 H locs ls ka0 ka2 rt0 hF hl hf
  unfold f_X7_tryOut_45 at hf
  refine lv_istore (lv' := [(4, iv t0), (0, .ref a0), (2, .ref a2)]) C0.1 C0.2.1 dX7_tryOut_45 hl (by decide) rfl (fun ls hl => ?_)
  refine lv_aload_n C0.1 C0.2.1 dX7_tryOut_47 rfl (lv_at hl 1 rfl) ?_
  refine fl_getr (k := 2) (t := 2) ck_8 C0 hF ka0 rfl (wt_at (k := 2) (t := 2) hWT ka0 rfl) rfl ⟨rfl, rfl⟩ aw_192 dX7_tryOut_48 ?_
  refine fl_getrN (k := 1) (t := 5) ck_2 C0 hF (wt_at (k := 2) (t := 2) hWT ka0 rfl) rfl (wt_at (k := 1) (t := 5) hWT (wt_at (k := 2) (t := 2) hWT ka0 rfl) rfl) rfl ⟨rfl, rfl⟩ aw_122 dX7_tryOut_51 ?_
  refine lv_iload C0.1 C0.2.1 dX7_tryOut_54 (lv_at hl 0 rfl) ?_
  refine lv_aload_n C0.1 C0.2.1 dX7_tryOut_56 rfl (lv_at hl 2 rfl) ?_
  refine fl_getrN (k := 1) (t := 5) ck_7 C0 hF ka2 rfl (wt_at (k := 1) (t := 5) hWT ka2 rfl) rfl ⟨rfl, rfl⟩ aw_698 dX7_tryOut_57 ?_
  obtain ⟨r4, hq4, hf⟩ := bp_f hf
  refine fl_ri hF (fl_runN (As := [iv t0, .ref (P a2 1)]) (rest := []) C0 hF hl.1 ck_5 (wt_at (k := 1) (t := 5) hWT (wt_at (k := 2) (t := 2) hWT ka0 rfl) rfl) rfl (c_X4_isWithin l D cy B L K P J hWT I ((P ((P a0 2)) 1)) t0 ((P a2 1)) ((wt_at (k := 1) (t := 5) hWT (wt_at (k := 2) (t := 2) hWT ka0 rfl) rfl)) rt0 ((wt_at (k := 1) (t := 5) hWT ka2 rfl)) hq4) aw_428 aw_430 aw_18 aw_47 aw_431 rfl pm_X4_isWithin rfl rfl ⟨Nat.le_of_ble_eq_true rfl, Nat.le_of_ble_eq_true rfl⟩ rfl (Nat.le_of_ble_eq_true rfl) dX7_tryOut_60 ⟨Nat.le_of_ble_eq_true rfl, Nat.le_of_ble_eq_true rfl⟩) (fun H locs hF4 rr4 => ?_)
  refine fl_if_eq (tgt := 68) C0 rr4 dX7_tryOut_63 (by decide) (fun c5 => ?_) (fun c5 => ?_)
  · replace hf := (if_pos c5).symm.trans hf
    refine lv_aload_n C0.1 C0.2.1 dX7_tryOut_68 rfl (lv_at hl 1 rfl) ?_
    refine fl_getr (k := 2) (t := 2) ck_8 C0 hF4 ka0 rfl (wt_at (k := 2) (t := 2) hWT ka0 rfl) rfl ⟨rfl, rfl⟩ aw_192 dX7_tryOut_69 ?_
    refine fl_getrN (k := 1) (t := 5) ck_2 C0 hF4 (wt_at (k := 2) (t := 2) hWT ka0 rfl) rfl (wt_at (k := 1) (t := 5) hWT (wt_at (k := 2) (t := 2) hWT ka0 rfl) rfl) rfl ⟨rfl, rfl⟩ aw_122 dX7_tryOut_72 ?_
    refine fl_getiN (k := 1) ck_5 C0 hF4 (wt_at (k := 1) (t := 5) hWT (wt_at (k := 2) (t := 2) hWT ka0 rfl) rfl) rfl ⟨rfl, rfl⟩ aw_106 dX7_tryOut_75 ?_
    refine fl_if_ne (tgt := 95) C0 (hF4.rI _ _) dX7_tryOut_78 (by decide) (fun c6 => ?_) (fun c6 => ?_)
    · replace hf := (if_neg c6).symm.trans hf
      refine fl_iconst C0 dX7_tryOut_95 ?_
      cases hf
      exact fl_iret C0 hF4 hr (rgk 1 rfl) rfl dX7_tryOut_96
    · replace hf := (if_pos c6).symm.trans hf
      refine lv_aload_n C0.1 C0.2.1 dX7_tryOut_81 rfl (lv_at hl 2 rfl) ?_
      refine fl_getrN (k := 1) (t := 5) ck_7 C0 hF4 ka2 rfl (wt_at (k := 1) (t := 5) hWT ka2 rfl) rfl ⟨rfl, rfl⟩ aw_698 dX7_tryOut_82 ?_
      refine fl_getiN (k := 1) ck_5 C0 hF4 (wt_at (k := 1) (t := 5) hWT ka2 rfl) rfl ⟨rfl, rfl⟩ aw_106 dX7_tryOut_85 ?_
      refine fl_if_le (tgt := 95) C0 (hF4.rI _ _) dX7_tryOut_88 (by decide) (fun c7 => ?_) (fun c7 => ?_)
      · replace hf := (if_pos c7).symm.trans hf
        refine fl_iconst C0 dX7_tryOut_95 ?_
        cases hf
        exact fl_iret C0 hF4 hr (rgk 1 rfl) rfl dX7_tryOut_96
      · replace hf := (if_neg c7).symm.trans hf
        refine fl_iconst C0 dX7_tryOut_91 ?_
        refine fl_goto (tgt := 96) C0 dX7_tryOut_92 (by decide) ?_
        cases hf
        exact fl_iret C0 hF4 hr (rgk 5 rfl) rfl dX7_tryOut_96
  · replace hf := (if_neg c5).symm.trans hf
    refine fl_iconst C0 dX7_tryOut_66 ?_
    cases hf
    exact fl_iret C0 hF4 hr (rgk 0 rfl) rfl dX7_tryOut_67
theorem pm_X7_tryOut : plainM yX7_tryOut 2 := by decide +kernel
set_option maxRecDepth 100000 in
set_option maxHeartbeats 4000000 in
theorem c_X7_tryOut (l : Launch) (D : va_G) (cy : Nat → ClassId) (B : Nat) (L : List Nat) (K : KT) (P : PT) (J : IT) (hWT : WT K P) (I : IT) (a0 : Nat) (a1 : Nat) (a2 : Nat) (ka0 : K a0 = 8) (ka1 : K a1 = 1) (ka2 : K a2 = 7) {r : Int} {I' : IT} (hf : f_X7_tryOut K P I a0 a1 a2 = some (r, I')) : Met l yX7_tryOut [.code yX7_tryOut cX7_tryOut 5 (some .int)] rm_X7_tryOut (va_Pc [.ref a0, .ref a1, .ref a2] (FW D cy B L K P J I)) (QI D cy B L K P J (r, I')) 0 0 (fun q => B ≤ q) := by
  refine fl_body (own := "RejudgeHall") [.ref a0, .ref a1, .ref a2] (by decide) rfl (Nat.le_of_ble_eq_true rfl) ?_
  intro p e s m args below meth c ls C0 hr hF hl
  have hl : lv_has ls 5 [(0, .ref a0), (1, .ref a1), (2, .ref a2)] := hl
  unfold f_X7_tryOut at hf
  refine lv_aload_n C0.1 C0.2.1 dX7_tryOut_0 rfl (lv_at hl 0 rfl) ?_
  refine fl_getr (k := 2) (t := 2) ck_8 C0 hF ka0 rfl (wt_at (k := 2) (t := 2) hWT ka0 rfl) rfl ⟨rfl, rfl⟩ aw_192 dX7_tryOut_1 ?_
  refine lv_aload_n C0.1 C0.2.1 dX7_tryOut_4 rfl (lv_at hl 1 rfl) ?_
  refine fl_getrN (k := 3) (t := 4) ck_1 C0 hF ka1 rfl (wt_at (k := 3) (t := 4) hWT ka1 rfl) rfl ⟨rfl, rfl⟩ aw_757 dX7_tryOut_5 ?_
  refine lv_aload_n C0.1 C0.2.1 dX7_tryOut_8 rfl (lv_at hl 2 rfl) ?_
  refine fl_getrN (k := 0) (t := 5) ck_7 C0 hF ka2 rfl (wt_at (k := 0) (t := 5) hWT ka2 rfl) rfl ⟨rfl, rfl⟩ aw_696 dX7_tryOut_9 ?_
  refine lv_aload_n C0.1 C0.2.1 dX7_tryOut_12 rfl (lv_at hl 1 rfl) ?_
  refine fl_getrN (k := 1) (t := 3) ck_1 C0 hF ka1 rfl (wt_at (k := 1) (t := 3) hWT ka1 rfl) rfl ⟨rfl, rfl⟩ aw_752 dX7_tryOut_13 ?_
  refine fl_getiN (k := 1) ck_3 C0 hF (wt_at (k := 1) (t := 3) hWT ka1 rfl) rfl ⟨rfl, rfl⟩ aw_587 dX7_tryOut_16 ?_
  obtain ⟨r1, I1, hq1, hf⟩ := bi_f hf
  refine fl_ri hF (fl_runN (As := [.ref (P a1 3), .ref (P a2 0), iv (I ((P a1 1)) 1)]) (rest := []) C0 hF hl.1 ck_2 (wt_at (k := 2) (t := 2) hWT ka0 rfl) rfl (c_X1_execute l D cy B L K P J hWT I ((P a0 2)) ((P a1 3)) ((P a2 0)) ((I ((P a1 1)) 1)) ((wt_at (k := 2) (t := 2) hWT ka0 rfl)) ((wt_at (k := 3) (t := 4) hWT ka1 rfl)) ((wt_at (k := 0) (t := 5) hWT ka2 rfl)) ((hF.rI _ _)) hq1) aw_377 aw_379 aw_6 aw_48 aw_380 rfl pm_X1_execute rfl rfl ⟨Nat.le_of_ble_eq_true rfl, Nat.le_of_ble_eq_true rfl⟩ rfl (Nat.le_of_ble_eq_true rfl) dX7_tryOut_19 ⟨Nat.le_of_ble_eq_true rfl, Nat.le_of_ble_eq_true rfl⟩) (fun H locs hF1 rr1 => ?_)
  refine lv_istore_n (lv' := [(3, iv r1), (0, .ref a0), (1, .ref a1), (2, .ref a2)]) C0.1 C0.2.1 dX7_tryOut_22 rfl hl (by decide) rfl (fun ls hl => ?_)
  refine lv_iload_n C0.1 C0.2.1 dX7_tryOut_23 rfl (lv_at hl 0 rfl) ?_
  refine fl_if_eq (tgt := 29) C0 rr1 dX7_tryOut_24 (by decide) (fun c2 => ?_) (fun c2 => ?_)
  · replace hf := (if_pos c2).symm.trans hf
    refine lv_aload_n C0.1 C0.2.1 dX7_tryOut_29 rfl (lv_at hl 2 rfl) ?_
    refine fl_getrN (k := 1) (t := 3) ck_1 C0 hF1 ka1 rfl (wt_at (k := 1) (t := 3) hWT ka1 rfl) rfl ⟨rfl, rfl⟩ aw_752 dX7_tryOut_30 ?_
    refine fl_getiN (k := 5) ck_3 C0 hF1 (wt_at (k := 1) (t := 3) hWT ka1 rfl) rfl ⟨rfl, rfl⟩ aw_595 dX7_tryOut_33 ?_
    refine fl_iconst C0 dX7_tryOut_36 ?_
    refine fl_icmp_ne (tgt := 44) C0 (hF1.rI _ _) (rgk 1 rfl) dX7_tryOut_37 (by decide) (fun c3 => ?_) (fun c3 => ?_)
    · replace hf := (if_neg c3).symm.trans hf
      refine fl_iconst C0 dX7_tryOut_44 ?_
      exact b_X7_tryOut_45 C0 hr hWT  I1 a0 a2 0 _ _ _ ka0 ka2 ((rgk 0 rfl)) hF1 (lv_sub hl [1, 3] rfl) hf
    · replace hf := (if_pos c3).symm.trans hf
      refine fl_iconst C0 dX7_tryOut_40 ?_
      refine fl_goto (tgt := 45) C0 dX7_tryOut_41 (by decide) ?_
      exact b_X7_tryOut_45 C0 hr hWT  I1 a0 a2 1 _ _ _ ka0 ka2 ((rgk 1 rfl)) hF1 (lv_sub hl [1, 3] rfl) hf
  · replace hf := (if_neg c2).symm.trans hf
    refine lv_iload_n C0.1 C0.2.1 dX7_tryOut_27 rfl (lv_at hl 0 rfl) ?_
    cases hf
    exact fl_iret C0 hF1 hr rr1 rfl dX7_tryOut_28
-- RejudgeHall.passesAll(LRejudgeHall$Entry;)Z
abbrev rm_X7_passesAll : Room := { frames := 5, cells := 0, slots := 0, locals := 120 }
def f_X7_passesAll_10 (K : KT) (P : PT) : Nat → IT → Nat → Nat → Nat → Int → Option (Int × IT)
  | 0, _, _, _, _, _ => none
  | n + 1, I, a0, a1, a2, x3 => if (I a2 2) ≤ x3 then (some (1, I)) else (bp (lgetf K P I a2 x3 7) fun r3 => bi (f_X7_tryOut K P I a0 a1 r3) fun r4 I4 => if r4 = 0 then ((f_X7_passesAll_10 K P  n) I4 a0 a1 a2 ((wr (x3 + 1)))) else (some (0, I4)))
def f_X7_passesAll (K : KT) (P : PT) (I : IT) (a0 : Nat) (a1 : Nat) : Option (Int × IT) := f_X7_passesAll_10 K P  FU I a0 a1 ((P ((P a1 1)) 3)) 0
abbrev G_X7_passesAll_10 (p : Program) (l : Launch) (e : Env) (s : State) (m : MethodId) (args : Array Value) (below : List Frame) (meth : Method) (c : Code) (D : va_G) (cy : Nat → ClassId) (B : Nat) (L : List Nat) (K : KT) (P : PT) (J : IT) (res : Int × IT) (f : IT → Nat → Nat → Nat → Int → Option (Int × IT)) : Prop := ∀ (I : IT) (a0 : Nat) (a1 : Nat) (a2 : Nat) (x3 : Int) (H : Heap) (locs : List Loc) (ls : Array Slot), K a0 = 8 → K a1 = 1 → K a2 = 12 → rg x3 → FS D cy B L K P J s.heap I H locs → lv_has ls 4 [(0, .ref a0), (1, .ref a1), (2, .ref a2), (3, iv x3)] → f I a0 a1 a2 x3 = some res → W p l e rm_X7_passesAll s m args below meth c H locs 0 0 (MQ below (QI D cy B L K P J res) args s 0 0 (fun q => B ≤ q)) (F0 m 10 ls [])
set_option maxRecDepth 100000 in
set_option maxHeartbeats 4000000 in
theorem b_X7_passesAll_10 {p : Program} {l : Launch} {e : Env} {s : State} {m : MethodId} {args : Array Value} {below : List Frame} {meth : Method} {c : Code} {D : va_G} {cy : Nat → ClassId} {B : Nat} {L : List Nat} {K : KT} {P : PT} {J : IT} {res : Int × IT} (C0 : FC D cy B p s m meth c "RejudgeHall" cX7_passesAll 4) (hr : meth.sig.returnType = (some .boolean)) (hWT : WT K P) : ∀ n : Nat, G_X7_passesAll_10 p l e s m args below meth c D cy B L K P J res (f_X7_passesAll_10 K P  n)
  | 0 => by
    intro I a0 a1 a2 x3 H locs ls ka0 ka1 ka2 rx3 hF hl hf
    cases hf
  | n + 1 => by
    have ih : G_X7_passesAll_10 p l e s m args below meth c D cy B L K P J res (f_X7_passesAll_10 K P  n)  := b_X7_passesAll_10 C0 hr hWT  n
    intro I a0 a1 a2 x3 H locs ls ka0 ka1 ka2 rx3 hF hl hf
    rw [f_X7_passesAll_10] at hf
    refine lv_iload_n C0.1 C0.2.1 dX7_passesAll_10 rfl (lv_at hl 3 rfl) ?_
    refine lv_aload_n C0.1 C0.2.1 dX7_passesAll_11 rfl (lv_at hl 2 rfl) ?_
    refine fl_ri hF (fl_runV (As := []) (rest := [iv x3]) C0 hF hl.1 ck_0 ka2 rfl (c_size l D cy B L K P J I a2 12 ka2 rfl) aw_344 aw_345 aw_346 aw_51 aw_347 rfl rfl pm_size rfl rfl ⟨Nat.le_of_ble_eq_true rfl, Nat.le_of_ble_eq_true rfl⟩ rfl (Nat.le_of_ble_eq_true rfl) dX7_passesAll_12 ⟨Nat.le_of_ble_eq_true rfl, Nat.le_of_ble_eq_true rfl⟩) (fun H locs hF1 _ => ?_)
    refine fl_icmp_ge (tgt := 42) C0 rx3 (hF1.rI _ _) dX7_passesAll_15 (by decide) (fun c2 => ?_) (fun c2 => ?_)
    · replace hf := (if_pos c2).symm.trans hf
      refine fl_iconst C0 dX7_passesAll_42 ?_
      cases hf
      exact fl_zret C0 hF1 hr (rgk 1 rfl) (Or.inr rfl) rfl dX7_passesAll_43
    · replace hf := (if_neg c2).symm.trans hf
      refine lv_aload_n C0.1 C0.2.1 dX7_passesAll_18 rfl (lv_at hl 0 rfl) ?_
      refine lv_aload_n C0.1 C0.2.1 dX7_passesAll_19 rfl (lv_at hl 1 rfl) ?_
      refine lv_aload_n C0.1 C0.2.1 dX7_passesAll_20 rfl (lv_at hl 2 rfl) ?_
      refine lv_iload_n C0.1 C0.2.1 dX7_passesAll_21 rfl (lv_at hl 3 rfl) ?_
      obtain ⟨r3, hq3, hf⟩ := bp_f hf
      have kr3 := lget_k hq3
      refine fl_rr hF1 (fl_runV (As := [iv x3]) (rest := [.ref a1, .ref a0]) C0 hF1 hl.1 ck_0 ka2 rfl (c_get l D cy B L K P J I a2 x3 12 7 ka2 rfl rx3 hq3) aw_348 aw_349 aw_350 aw_51 aw_351 rfl rfl pm_get rfl rfl ⟨Nat.le_of_ble_eq_true rfl, Nat.le_of_ble_eq_true rfl⟩ rfl (Nat.le_of_ble_eq_true rfl) dX7_passesAll_22 ⟨Nat.le_of_ble_eq_true rfl, Nat.le_of_ble_eq_true rfl⟩) (fun H locs hF3 => ?_)
      refine fl_cast ck_7 C0 hF3 kr3 rfl aw_372 dX7_passesAll_25 ?_
      obtain ⟨r4, I4, hq4, hf⟩ := bi_f hf
      refine fl_ri hF3 (fl_runV (As := [.ref a1, .ref r3]) (rest := []) C0 hF3 hl.1 ck_8 ka0 rfl (c_X7_tryOut l D cy B L K P J hWT I a0 a1 r3 ka0 ka1 kr3 hq4) aw_373 aw_375 aw_5 aw_45 aw_376 rfl rfl pm_X7_tryOut rfl rfl ⟨Nat.le_of_ble_eq_true rfl, Nat.le_of_ble_eq_true rfl⟩ rfl (Nat.le_of_ble_eq_true rfl) dX7_passesAll_28 ⟨Nat.le_of_ble_eq_true rfl, Nat.le_of_ble_eq_true rfl⟩) (fun H locs hF4 rr4 => ?_)
      refine fl_if_eq (tgt := 36) C0 rr4 dX7_passesAll_31 (by decide) (fun c5 => ?_) (fun c5 => ?_)
      · replace hf := (if_pos c5).symm.trans hf
        refine fl_iinc (lv' := [(3, iv (wr (x3 + 1))), (0, .ref a0), (1, .ref a1), (2, .ref a2)]) C0 dX7_passesAll_36 hl (k := 3) rfl (by decide) rfl (fun ls hl => ?_)
        refine fl_goto (tgt := 10) C0 dX7_passesAll_39 (by decide) ?_
        exact ih I4 a0 a1 a2 ((wr (x3 + 1))) _ _ _ ka0 ka1 ka2 ((rg_wr _)) hF4 (lv_sub hl [1, 2, 3, 0] rfl) hf
      · replace hf := (if_neg c5).symm.trans hf
        refine fl_iconst C0 dX7_passesAll_34 ?_
        cases hf
        exact fl_zret C0 hF4 hr (rgk 0 rfl) (Or.inl rfl) rfl dX7_passesAll_35
theorem pm_X7_passesAll : plainM yX7_passesAll 1 := by decide +kernel
set_option maxRecDepth 100000 in
set_option maxHeartbeats 4000000 in
theorem c_X7_passesAll (l : Launch) (D : va_G) (cy : Nat → ClassId) (B : Nat) (L : List Nat) (K : KT) (P : PT) (J : IT) (hWT : WT K P) (I : IT) (a0 : Nat) (a1 : Nat) (ka0 : K a0 = 8) (ka1 : K a1 = 1) {r : Int} {I' : IT} (hf : f_X7_passesAll K P I a0 a1 = some (r, I')) : Met l yX7_passesAll [.code yX7_passesAll cX7_passesAll 4 (some .boolean)] rm_X7_passesAll (va_Pc [.ref a0, .ref a1] (FW D cy B L K P J I)) (QI D cy B L K P J (r, I')) 0 0 (fun q => B ≤ q) := by
  refine fl_body (own := "RejudgeHall") [.ref a0, .ref a1] (by decide) rfl (Nat.le_of_ble_eq_true rfl) ?_
  intro p e s m args below meth c ls C0 hr hF hl
  have hl : lv_has ls 4 [(0, .ref a0), (1, .ref a1)] := hl
  unfold f_X7_passesAll at hf
  refine lv_aload_n C0.1 C0.2.1 dX7_passesAll_0 rfl (lv_at hl 1 rfl) ?_
  refine fl_getrN (k := 1) (t := 3) ck_1 C0 hF ka1 rfl (wt_at (k := 1) (t := 3) hWT ka1 rfl) rfl ⟨rfl, rfl⟩ aw_752 dX7_passesAll_1 ?_
  refine fl_getrN (k := 3) (t := 12) ck_3 C0 hF (wt_at (k := 1) (t := 3) hWT ka1 rfl) rfl (wt_at (k := 3) (t := 12) hWT (wt_at (k := 1) (t := 3) hWT ka1 rfl) rfl) rfl ⟨rfl, rfl⟩ aw_591 dX7_passesAll_4 ?_
  refine lv_astore_n (lv' := [(2, .ref (P ((P a1 1)) 3)), (0, .ref a0), (1, .ref a1)]) C0.1 C0.2.1 dX7_passesAll_7 rfl hl (by decide) rfl (fun ls hl => ?_)
  refine fl_iconst C0 dX7_passesAll_8 ?_
  refine lv_istore_n (lv' := [(3, iv 0), (2, .ref (P ((P a1 1)) 3)), (0, .ref a0), (1, .ref a1)]) C0.1 C0.2.1 dX7_passesAll_9 rfl hl (by decide) rfl (fun ls hl => ?_)
  exact b_X7_passesAll_10 C0 hr hWT  FU I a0 a1 ((P ((P a1 1)) 3)) 0 _ _ _ ka0 ka1 ((wt_at (k := 3) (t := 12) hWT (wt_at (k := 1) (t := 3) hWT ka1 rfl) rfl)) ((rgk 0 rfl)) hF (lv_sub hl [2, 3, 1, 0] rfl) hf
-- RejudgeHall.giveVerdict(LRejudgeHall$Entry;)V
abbrev rm_X7_giveVerdict : Room := { frames := 5, cells := 0, slots := 0, locals := 120 }
def f_X7_giveVerdict_102 (K : KT) (P : PT) (k26 : IT → Nat → Nat → Nat → Int → Int → Int → Option (IT)) (I : IT) (a0 : Nat) (a1 : Nat) (a2 : Nat) (x3 : Int) (x4 : Int) (x5 : Int) : Option (IT) := k26 I a0 a1 a2 x3 x4 ((wr (x5 + 1)))
def f_X7_giveVerdict_108 (K : KT) (P : PT) (I : IT) (a0 : Nat) (a1 : Nat) (x3 : Int) (x4 : Int) : Option (IT) := bp (f_X2_pointsOf K P I ((P a1 1)) ((ban x3 (bxo x4 (-1))))) fun r11 => bnd (up I a1 6 r11) fun I12 => bnd (up I12 a1 7 (I12 ((P a1 1)) 6)) fun I13 => ck (0 ≤ (I13 a1 0) ∧ (I13 a1 0) < 8) <| ck (0 ≤ (I13 a1 0) ∧ (I13 a1 0) < 8) <| bnd (up I13 ((P a0 6)) ((I13 a1 0) : Int).toNat (wr ((I13 ((P a0 6)) ((I13 a1 0) : Int).toNat) + 1))) fun I14 => some I14
def f_X7_giveVerdict_26 (K : KT) (P : PT) : Nat → IT → Nat → Nat → Nat → Int → Int → Int → Option (IT)
  | 0, _, _, _, _, _, _, _ => none
  | n + 1, I, a0, a1, a2, x3, x4, x5 => if (I a2 2) ≤ x5 then (f_X7_giveVerdict_108 K P  I a0 a1 x3 x4) else (bp (lgetf K P I a2 x5 7) fun r5 => bi (f_X7_tryOut K P I a0 a1 r5) fun r6 I6 => if r6 = 0 then (f_X7_giveVerdict_102 K P ((f_X7_giveVerdict_26 K P  n)) I6 a0 a1 a2 ((bor x3 (bsl 1 (I6 r5 2)))) x4 x5) else (if (I6 a1 5) = (-1) then (bnd (up I6 a1 4 r6) fun I9 => bnd (up I9 a1 5 x5) fun I10 => f_X7_giveVerdict_102 K P ((f_X7_giveVerdict_26 K P  n)) I10 a0 a1 a2 ((bor x3 (bsl 1 (I6 r5 2)))) ((bor x4 (bsl 1 (I6 r5 2)))) x5) else (f_X7_giveVerdict_102 K P ((f_X7_giveVerdict_26 K P  n)) I6 a0 a1 a2 ((bor x3 (bsl 1 (I6 r5 2)))) ((bor x4 (bsl 1 (I6 r5 2)))) x5)))
def f_X7_giveVerdict (K : KT) (P : PT) (I : IT) (a0 : Nat) (a1 : Nat) : Option (IT) := bnd (up I a1 4 0) fun I1 => bnd (up I1 a1 5 (-1)) fun I2 => f_X7_giveVerdict_26 K P  FU I2 a0 a1 ((P ((P a1 1)) 3)) 0 0 0
abbrev G_X7_giveVerdict_102 (p : Program) (l : Launch) (e : Env) (s : State) (m : MethodId) (args : Array Value) (below : List Frame) (meth : Method) (c : Code) (D : va_G) (cy : Nat → ClassId) (B : Nat) (L : List Nat) (K : KT) (P : PT) (J : IT) (res : IT) (f : IT → Nat → Nat → Nat → Int → Int → Int → Option (IT)) : Prop := ∀ (I : IT) (a0 : Nat) (a1 : Nat) (a2 : Nat) (x3 : Int) (x4 : Int) (x5 : Int) (H : Heap) (locs : List Loc) (ls : Array Slot), K a0 = 8 → K a1 = 1 → K a2 = 12 → rg x3 → rg x4 → rg x5 → FS D cy B L K P J s.heap I H locs → lv_has ls 8 [(0, .ref a0), (1, .ref a1), (2, .ref a2), (3, iv x3), (4, iv x4), (5, iv x5)] → f I a0 a1 a2 x3 x4 x5 = some res → W p l e rm_X7_giveVerdict s m args below meth c H locs 0 0 (MQ below (QV D cy B L K P J res) args s 0 0 (fun q => B ≤ q)) (F0 m 102 ls [])
abbrev G_X7_giveVerdict_108 (p : Program) (l : Launch) (e : Env) (s : State) (m : MethodId) (args : Array Value) (below : List Frame) (meth : Method) (c : Code) (D : va_G) (cy : Nat → ClassId) (B : Nat) (L : List Nat) (K : KT) (P : PT) (J : IT) (res : IT) (f : IT → Nat → Nat → Int → Int → Option (IT)) : Prop := ∀ (I : IT) (a0 : Nat) (a1 : Nat) (x3 : Int) (x4 : Int) (H : Heap) (locs : List Loc) (ls : Array Slot), K a0 = 8 → K a1 = 1 → rg x3 → rg x4 → FS D cy B L K P J s.heap I H locs → lv_has ls 8 [(0, .ref a0), (1, .ref a1), (3, iv x3), (4, iv x4)] → f I a0 a1 x3 x4 = some res → W p l e rm_X7_giveVerdict s m args below meth c H locs 0 0 (MQ below (QV D cy B L K P J res) args s 0 0 (fun q => B ≤ q)) (F0 m 108 ls [])
abbrev G_X7_giveVerdict_26 (p : Program) (l : Launch) (e : Env) (s : State) (m : MethodId) (args : Array Value) (below : List Frame) (meth : Method) (c : Code) (D : va_G) (cy : Nat → ClassId) (B : Nat) (L : List Nat) (K : KT) (P : PT) (J : IT) (res : IT) (f : IT → Nat → Nat → Nat → Int → Int → Int → Option (IT)) : Prop := ∀ (I : IT) (a0 : Nat) (a1 : Nat) (a2 : Nat) (x3 : Int) (x4 : Int) (x5 : Int) (H : Heap) (locs : List Loc) (ls : Array Slot), K a0 = 8 → K a1 = 1 → K a2 = 12 → rg x3 → rg x4 → rg x5 → FS D cy B L K P J s.heap I H locs → lv_has ls 8 [(0, .ref a0), (1, .ref a1), (2, .ref a2), (3, iv x3), (4, iv x4), (5, iv x5)] → f I a0 a1 a2 x3 x4 x5 = some res → W p l e rm_X7_giveVerdict s m args below meth c H locs 0 0 (MQ below (QV D cy B L K P J res) args s 0 0 (fun q => B ≤ q)) (F0 m 26 ls [])
set_option maxRecDepth 100000 in
set_option maxHeartbeats 4000000 in
theorem b_X7_giveVerdict_102 {p : Program} {l : Launch} {e : Env} {s : State} {m : MethodId} {args : Array Value} {below : List Frame} {meth : Method} {c : Code} {D : va_G} {cy : Nat → ClassId} {B : Nat} {L : List Nat} {K : KT} {P : PT} {J : IT} {res : IT} (C0 : FC D cy B p s m meth c "RejudgeHall" cX7_giveVerdict 8) (hr : meth.sig.returnType = none) (hWT : WT K P) {k26 : IT → Nat → Nat → Nat → Int → Int → Int → Option (IT)} (hk26 : G_X7_giveVerdict_26 p l e s m args below meth c D cy B L K P J res k26) : G_X7_giveVerdict_102 p l e s m args below meth c D cy B L K P J res (f_X7_giveVerdict_102 K P k26) := by
  intro I a0 a1 a2 x3 x4 x5 H locs ls ka0 ka1 ka2 rx3 rx4 rx5 hF hl hf
  unfold f_X7_giveVerdict_102 at hf
  refine fl_iinc (lv' := [(5, iv (wr (x5 + 1))), (0, .ref a0), (1, .ref a1), (2, .ref a2), (3, iv x3), (4, iv x4)]) C0 dX7_giveVerdict_102 hl (k := 5) rfl (by decide) rfl (fun ls hl => ?_)
  refine fl_goto (tgt := 26) C0 dX7_giveVerdict_105 (by decide) ?_
  exact hk26 I a0 a1 a2 x3 x4 ((wr (x5 + 1))) _ _ _ ka0 ka1 ka2 rx3 rx4 ((rg_wr _)) hF (lv_sub hl [1, 2, 3, 4, 5, 0] rfl) hf
set_option maxRecDepth 100000 in
set_option maxHeartbeats 4000000 in
theorem b_X7_giveVerdict_108 {p : Program} {l : Launch} {e : Env} {s : State} {m : MethodId} {args : Array Value} {below : List Frame} {meth : Method} {c : Code} {D : va_G} {cy : Nat → ClassId} {B : Nat} {L : List Nat} {K : KT} {P : PT} {J : IT} {res : IT} (C0 : FC D cy B p s m meth c "RejudgeHall" cX7_giveVerdict 8) (hr : meth.sig.returnType = none) (hWT : WT K P) : G_X7_giveVerdict_108 p l e s m args below meth c D cy B L K P J res (f_X7_giveVerdict_108 K P ) := by
  intro I a0 a1 x3 x4 H locs ls ka0 ka1 rx3 rx4 hF hl hf
  unfold f_X7_giveVerdict_108 at hf
  refine lv_aload_n C0.1 C0.2.1 dX7_giveVerdict_108 rfl (lv_at hl 1 rfl) ?_
  refine lv_aload_n C0.1 C0.2.1 dX7_giveVerdict_109 rfl (lv_at hl 1 rfl) ?_
  refine fl_getrN (k := 1) (t := 3) ck_1 C0 hF ka1 rfl (wt_at (k := 1) (t := 3) hWT ka1 rfl) rfl ⟨rfl, rfl⟩ aw_752 dX7_giveVerdict_110 ?_
  refine lv_iload_n C0.1 C0.2.1 dX7_giveVerdict_113 rfl (lv_at hl 2 rfl) ?_
  refine lv_iload C0.1 C0.2.1 dX7_giveVerdict_114 (lv_at hl 3 rfl) ?_
  refine fl_iconst C0 dX7_giveVerdict_116 ?_
  refine fl_ixor C0 dX7_giveVerdict_117 ?_
  refine fl_iand C0 dX7_giveVerdict_118 ?_
  obtain ⟨r11, hq11, hf⟩ := bp_f hf
  refine fl_ri hF (fl_runN (As := [iv (ban x3 (bxo x4 (-1)))]) (rest := [.ref a1]) C0 hF hl.1 ck_3 (wt_at (k := 1) (t := 3) hWT ka1 rfl) rfl (c_X2_pointsOf l D cy B L K P J hWT I ((P a1 1)) ((ban x3 (bxo x4 (-1)))) ((wt_at (k := 1) (t := 3) hWT ka1 rfl)) ((rg_ban _ _)) hq11) aw_436 aw_438 aw_19 aw_58 aw_440 rfl pm_X2_pointsOf rfl rfl ⟨Nat.le_of_ble_eq_true rfl, Nat.le_of_ble_eq_true rfl⟩ rfl (Nat.le_of_ble_eq_true rfl) dX7_giveVerdict_119 ⟨Nat.le_of_ble_eq_true rfl, Nat.le_of_ble_eq_true rfl⟩) (fun H locs hF11 rr11 => ?_)
  refine fl_putiN (k := 6) ck_1 C0 hF11 ka1 rfl rr11 ⟨rfl, rfl, rfl⟩ aw_763 dX7_giveVerdict_122 (fun H locs hF12 => ?_)
  obtain ⟨I12, eI12, hf⟩ := bnd_f hf
  rw [eI12] at hF12
  refine lv_aload_n C0.1 C0.2.1 dX7_giveVerdict_125 rfl (lv_at hl 1 rfl) ?_
  refine lv_aload_n C0.1 C0.2.1 dX7_giveVerdict_126 rfl (lv_at hl 1 rfl) ?_
  refine fl_getrN (k := 1) (t := 3) ck_1 C0 hF12 ka1 rfl (wt_at (k := 1) (t := 3) hWT ka1 rfl) rfl ⟨rfl, rfl⟩ aw_752 dX7_giveVerdict_127 ?_
  refine fl_getiN (k := 6) ck_3 C0 hF12 (wt_at (k := 1) (t := 3) hWT ka1 rfl) rfl ⟨rfl, rfl⟩ aw_597 dX7_giveVerdict_130 ?_
  refine fl_putiN (k := 7) ck_1 C0 hF12 ka1 rfl (hF12.rI _ _) ⟨rfl, rfl, rfl⟩ aw_765 dX7_giveVerdict_133 (fun H locs hF13 => ?_)
  obtain ⟨I13, eI13, hf⟩ := bnd_f hf
  rw [eI13] at hF13
  refine lv_aload_n C0.1 C0.2.1 dX7_giveVerdict_136 rfl (lv_at hl 0 rfl) ?_
  refine fl_getr (k := 6) (t := 132) ck_8 C0 hF13 ka0 rfl (wt_at (k := 6) (t := 132) hWT ka0 rfl) rfl ⟨rfl, rfl⟩ aw_196 dX7_giveVerdict_137 ?_
  refine lv_aload_n C0.1 C0.2.1 dX7_giveVerdict_140 rfl (lv_at hl 1 rfl) ?_
  refine fl_getiN (k := 0) ck_1 C0 hF13 ka1 rfl ⟨rfl, rfl⟩ aw_749 dX7_giveVerdict_141 ?_
  refine lv_dup2_11 C0.1 C0.2.1 dX7_giveVerdict_144 rfl rfl ?_
  obtain ⟨hc, hf⟩ := ck_f hf
  refine fl_iald (n := 8) C0 hF13 (wt_at (k := 6) (t := 132) hWT ka0 rfl) (hF13.rI _ _) hc dX7_giveVerdict_145 ?_
  refine fl_iconst C0 dX7_giveVerdict_146 ?_
  refine fl_iadd C0 dX7_giveVerdict_147 ?_
  obtain ⟨hc, hf⟩ := ck_f hf
  refine fl_iast (n := 8) C0 hF13 (wt_at (k := 6) (t := 132) hWT ka0 rfl) (hF13.rI _ _) (rg_wr _) hc dX7_giveVerdict_148 (fun H locs hF14 => ?_)
  obtain ⟨I14, eI14, hf⟩ := bnd_f hf
  rw [eI14] at hF14
  cases hf
  exact fl_vret C0 hF14 hr rfl dX7_giveVerdict_149
set_option maxRecDepth 100000 in
set_option maxHeartbeats 4000000 in
theorem b_X7_giveVerdict_26 {p : Program} {l : Launch} {e : Env} {s : State} {m : MethodId} {args : Array Value} {below : List Frame} {meth : Method} {c : Code} {D : va_G} {cy : Nat → ClassId} {B : Nat} {L : List Nat} {K : KT} {P : PT} {J : IT} {res : IT} (C0 : FC D cy B p s m meth c "RejudgeHall" cX7_giveVerdict 8) (hr : meth.sig.returnType = none) (hWT : WT K P) : ∀ n : Nat, G_X7_giveVerdict_26 p l e s m args below meth c D cy B L K P J res (f_X7_giveVerdict_26 K P  n)
  | 0 => by
    intro I a0 a1 a2 x3 x4 x5 H locs ls ka0 ka1 ka2 rx3 rx4 rx5 hF hl hf
    cases hf
  | n + 1 => by
    have ih : G_X7_giveVerdict_26 p l e s m args below meth c D cy B L K P J res (f_X7_giveVerdict_26 K P  n)  := b_X7_giveVerdict_26 C0 hr hWT  n
    intro I a0 a1 a2 x3 x4 x5 H locs ls ka0 ka1 ka2 rx3 rx4 rx5 hF hl hf
    rw [f_X7_giveVerdict_26] at hf
    refine lv_iload C0.1 C0.2.1 dX7_giveVerdict_26 (lv_at hl 5 rfl) ?_
    refine lv_aload_n C0.1 C0.2.1 dX7_giveVerdict_28 rfl (lv_at hl 2 rfl) ?_
    refine fl_ri hF (fl_runV (As := []) (rest := [iv x5]) C0 hF hl.1 ck_0 ka2 rfl (c_size l D cy B L K P J I a2 12 ka2 rfl) aw_344 aw_345 aw_346 aw_51 aw_347 rfl rfl pm_size rfl rfl ⟨Nat.le_of_ble_eq_true rfl, Nat.le_of_ble_eq_true rfl⟩ rfl (Nat.le_of_ble_eq_true rfl) dX7_giveVerdict_29 ⟨Nat.le_of_ble_eq_true rfl, Nat.le_of_ble_eq_true rfl⟩) (fun H locs hF3 _ => ?_)
    refine fl_icmp_ge (tgt := 108) C0 rx5 (hF3.rI _ _) dX7_giveVerdict_32 (by decide) (fun c4 => ?_) (fun c4 => ?_)
    · replace hf := (if_pos c4).symm.trans hf
      exact b_X7_giveVerdict_108 C0 hr hWT  I a0 a1 x3 x4 _ _ _ ka0 ka1 rx3 rx4 hF3 (lv_sub hl [0, 1, 3, 4] rfl) hf
    · replace hf := (if_neg c4).symm.trans hf
      refine lv_aload_n C0.1 C0.2.1 dX7_giveVerdict_35 rfl (lv_at hl 2 rfl) ?_
      refine lv_iload C0.1 C0.2.1 dX7_giveVerdict_36 (lv_at hl 5 rfl) ?_
      obtain ⟨r5, hq5, hf⟩ := bp_f hf
      have kr5 := lget_k hq5
      refine fl_rr hF3 (fl_runV (As := [iv x5]) (rest := []) C0 hF3 hl.1 ck_0 ka2 rfl (c_get l D cy B L K P J I a2 x5 12 7 ka2 rfl rx5 hq5) aw_348 aw_349 aw_350 aw_51 aw_351 rfl rfl pm_get rfl rfl ⟨Nat.le_of_ble_eq_true rfl, Nat.le_of_ble_eq_true rfl⟩ rfl (Nat.le_of_ble_eq_true rfl) dX7_giveVerdict_38 ⟨Nat.le_of_ble_eq_true rfl, Nat.le_of_ble_eq_true rfl⟩) (fun H locs hF5 => ?_)
      refine fl_cast ck_7 C0 hF5 kr5 rfl aw_372 dX7_giveVerdict_41 ?_
      refine lv_astore (lv' := [(6, .ref r5), (0, .ref a0), (1, .ref a1), (2, .ref a2), (3, iv x3), (4, iv x4), (5, iv x5)]) C0.1 C0.2.1 dX7_giveVerdict_44 hl (by decide) rfl (fun ls hl => ?_)
      refine lv_aload_n C0.1 C0.2.1 dX7_giveVerdict_46 rfl (lv_at hl 1 rfl) ?_
      refine lv_aload_n C0.1 C0.2.1 dX7_giveVerdict_47 rfl (lv_at hl 2 rfl) ?_
      refine lv_aload C0.1 C0.2.1 dX7_giveVerdict_48 (lv_at hl 0 rfl) ?_
      obtain ⟨r6, I6, hq6, hf⟩ := bi_f hf
      refine fl_ri hF5 (fl_runV (As := [.ref a1, .ref r5]) (rest := []) C0 hF5 hl.1 ck_8 ka0 rfl (c_X7_tryOut l D cy B L K P J hWT I a0 a1 r5 ka0 ka1 kr5 hq6) aw_373 aw_375 aw_5 aw_45 aw_376 rfl rfl pm_X7_tryOut rfl rfl ⟨Nat.le_of_ble_eq_true rfl, Nat.le_of_ble_eq_true rfl⟩ rfl (Nat.le_of_ble_eq_true rfl) dX7_giveVerdict_50 ⟨Nat.le_of_ble_eq_true rfl, Nat.le_of_ble_eq_true rfl⟩) (fun H locs hF6 rr6 => ?_)
      refine lv_istore (lv' := [(7, iv r6), (6, .ref r5), (0, .ref a0), (1, .ref a1), (2, .ref a2), (3, iv x3), (4, iv x4), (5, iv x5)]) C0.1 C0.2.1 dX7_giveVerdict_53 hl (by decide) rfl (fun ls hl => ?_)
      refine lv_iload_n C0.1 C0.2.1 dX7_giveVerdict_55 rfl (lv_at hl 5 rfl) ?_
      refine fl_iconst C0 dX7_giveVerdict_56 ?_
      refine lv_aload C0.1 C0.2.1 dX7_giveVerdict_57 (lv_at hl 1 rfl) ?_
      refine fl_getiN (k := 2) ck_7 C0 hF6 kr5 rfl ⟨rfl, rfl⟩ aw_700 dX7_giveVerdict_59 ?_
      refine fl_ishl C0 dX7_giveVerdict_62 ?_
      refine fl_ior C0 dX7_giveVerdict_63 ?_
      refine lv_istore_n (lv' := [(3, iv (bor x3 (bsl 1 (I6 r5 2)))), (7, iv r6), (6, .ref r5), (0, .ref a0), (1, .ref a1), (2, .ref a2), (4, iv x4), (5, iv x5)]) C0.1 C0.2.1 dX7_giveVerdict_64 rfl hl (by decide) rfl (fun ls hl => ?_)
      refine lv_iload C0.1 C0.2.1 dX7_giveVerdict_65 (lv_at hl 1 rfl) ?_
      refine fl_if_eq (tgt := 102) C0 rr6 dX7_giveVerdict_67 (by decide) (fun c7 => ?_) (fun c7 => ?_)
      · replace hf := (if_pos c7).symm.trans hf
        exact b_X7_giveVerdict_102 C0 hr hWT ih I6 a0 a1 a2 ((bor x3 (bsl 1 (I6 r5 2)))) x4 x5 _ _ _ ka0 ka1 ka2 ((rg_bor _ _)) rx4 rx5 hF6 (lv_sub hl [3, 4, 5, 0, 6, 7] rfl) hf
      · replace hf := (if_neg c7).symm.trans hf
        refine lv_iload C0.1 C0.2.1 dX7_giveVerdict_70 (lv_at hl 6 rfl) ?_
        refine fl_iconst C0 dX7_giveVerdict_72 ?_
        refine lv_aload C0.1 C0.2.1 dX7_giveVerdict_73 (lv_at hl 2 rfl) ?_
        refine fl_getiN (k := 2) ck_7 C0 hF6 kr5 rfl ⟨rfl, rfl⟩ aw_700 dX7_giveVerdict_75 ?_
        refine fl_ishl C0 dX7_giveVerdict_78 ?_
        refine fl_ior C0 dX7_giveVerdict_79 ?_
        refine lv_istore (lv' := [(4, iv (bor x4 (bsl 1 (I6 r5 2)))), (3, iv (bor x3 (bsl 1 (I6 r5 2)))), (7, iv r6), (6, .ref r5), (0, .ref a0), (1, .ref a1), (2, .ref a2), (5, iv x5)]) C0.1 C0.2.1 dX7_giveVerdict_80 hl (by decide) rfl (fun ls hl => ?_)
        refine lv_aload_n C0.1 C0.2.1 dX7_giveVerdict_82 rfl (lv_at hl 5 rfl) ?_
        refine fl_getiN (k := 5) ck_1 C0 hF6 ka1 rfl ⟨rfl, rfl⟩ aw_761 dX7_giveVerdict_83 ?_
        refine fl_iconst C0 dX7_giveVerdict_86 ?_
        refine fl_icmp_ne (tgt := 102) C0 (hF6.rI _ _) (rgk (-1) rfl) dX7_giveVerdict_87 (by decide) (fun c8 => ?_) (fun c8 => ?_)
        · replace hf := (if_neg c8).symm.trans hf
          exact b_X7_giveVerdict_102 C0 hr hWT ih I6 a0 a1 a2 ((bor x3 (bsl 1 (I6 r5 2)))) ((bor x4 (bsl 1 (I6 r5 2)))) x5 _ _ _ ka0 ka1 ka2 ((rg_bor _ _)) ((rg_bor _ _)) rx5 hF6 (lv_sub hl [4, 5, 6, 1, 0, 7] rfl) hf
        · replace hf := (if_pos c8).symm.trans hf
          refine lv_aload_n C0.1 C0.2.1 dX7_giveVerdict_90 rfl (lv_at hl 5 rfl) ?_
          refine lv_iload C0.1 C0.2.1 dX7_giveVerdict_91 (lv_at hl 2 rfl) ?_
          refine fl_putiN (k := 4) ck_1 C0 hF6 ka1 rfl rr6 ⟨rfl, rfl, rfl⟩ aw_759 dX7_giveVerdict_93 (fun H locs hF9 => ?_)
          obtain ⟨I9, eI9, hf⟩ := bnd_f hf
          rw [eI9] at hF9
          refine lv_aload_n C0.1 C0.2.1 dX7_giveVerdict_96 rfl (lv_at hl 5 rfl) ?_
          refine lv_iload C0.1 C0.2.1 dX7_giveVerdict_97 (lv_at hl 7 rfl) ?_
          refine fl_putiN (k := 5) ck_1 C0 hF9 ka1 rfl rx5 ⟨rfl, rfl, rfl⟩ aw_761 dX7_giveVerdict_99 (fun H locs hF10 => ?_)
          obtain ⟨I10, eI10, hf⟩ := bnd_f hf
          rw [eI10] at hF10
          exact b_X7_giveVerdict_102 C0 hr hWT ih I10 a0 a1 a2 ((bor x3 (bsl 1 (I6 r5 2)))) ((bor x4 (bsl 1 (I6 r5 2)))) x5 _ _ _ ka0 ka1 ka2 ((rg_bor _ _)) ((rg_bor _ _)) rx5 hF10 (lv_sub hl [4, 5, 6, 1, 0, 7] rfl) hf
theorem pm_X7_giveVerdict : plainM yX7_giveVerdict 1 := by decide +kernel
set_option maxRecDepth 100000 in
set_option maxHeartbeats 4000000 in
theorem c_X7_giveVerdict (l : Launch) (D : va_G) (cy : Nat → ClassId) (B : Nat) (L : List Nat) (K : KT) (P : PT) (J : IT) (hWT : WT K P) (I : IT) (a0 : Nat) (a1 : Nat) (ka0 : K a0 = 8) (ka1 : K a1 = 1) {I' : IT} (hf : f_X7_giveVerdict K P I a0 a1 = some I') : Met l yX7_giveVerdict [.code yX7_giveVerdict cX7_giveVerdict 8 none] rm_X7_giveVerdict (va_Pc [.ref a0, .ref a1] (FW D cy B L K P J I)) (QV D cy B L K P J I') 0 0 (fun q => B ≤ q) := by
  refine fl_body (own := "RejudgeHall") [.ref a0, .ref a1] (by decide) rfl (Nat.le_of_ble_eq_true rfl) ?_
  intro p e s m args below meth c ls C0 hr hF hl
  have hl : lv_has ls 8 [(0, .ref a0), (1, .ref a1)] := hl
  unfold f_X7_giveVerdict at hf
  refine lv_aload_n C0.1 C0.2.1 dX7_giveVerdict_0 rfl (lv_at hl 1 rfl) ?_
  refine fl_getrN (k := 1) (t := 3) ck_1 C0 hF ka1 rfl (wt_at (k := 1) (t := 3) hWT ka1 rfl) rfl ⟨rfl, rfl⟩ aw_752 dX7_giveVerdict_1 ?_
  refine fl_getrN (k := 3) (t := 12) ck_3 C0 hF (wt_at (k := 1) (t := 3) hWT ka1 rfl) rfl (wt_at (k := 3) (t := 12) hWT (wt_at (k := 1) (t := 3) hWT ka1 rfl) rfl) rfl ⟨rfl, rfl⟩ aw_591 dX7_giveVerdict_4 ?_
  refine lv_astore_n (lv' := [(2, .ref (P ((P a1 1)) 3)), (0, .ref a0), (1, .ref a1)]) C0.1 C0.2.1 dX7_giveVerdict_7 rfl hl (by decide) rfl (fun ls hl => ?_)
  refine fl_iconst C0 dX7_giveVerdict_8 ?_
  refine lv_istore_n (lv' := [(3, iv 0), (2, .ref (P ((P a1 1)) 3)), (0, .ref a0), (1, .ref a1)]) C0.1 C0.2.1 dX7_giveVerdict_9 rfl hl (by decide) rfl (fun ls hl => ?_)
  refine fl_iconst C0 dX7_giveVerdict_10 ?_
  refine lv_istore (lv' := [(4, iv 0), (3, iv 0), (2, .ref (P ((P a1 1)) 3)), (0, .ref a0), (1, .ref a1)]) C0.1 C0.2.1 dX7_giveVerdict_11 hl (by decide) rfl (fun ls hl => ?_)
  refine lv_aload_n C0.1 C0.2.1 dX7_giveVerdict_13 rfl (lv_at hl 4 rfl) ?_
  refine fl_iconst C0 dX7_giveVerdict_14 ?_
  refine fl_putiN (k := 4) ck_1 C0 hF ka1 rfl (rgk 0 rfl) ⟨rfl, rfl, rfl⟩ aw_759 dX7_giveVerdict_15 (fun H locs hF1 => ?_)
  obtain ⟨I1, eI1, hf⟩ := bnd_f hf
  rw [eI1] at hF1
  refine lv_aload_n C0.1 C0.2.1 dX7_giveVerdict_18 rfl (lv_at hl 4 rfl) ?_
  refine fl_iconst C0 dX7_giveVerdict_19 ?_
  refine fl_putiN (k := 5) ck_1 C0 hF1 ka1 rfl (rgk (-1) rfl) ⟨rfl, rfl, rfl⟩ aw_761 dX7_giveVerdict_20 (fun H locs hF2 => ?_)
  obtain ⟨I2, eI2, hf⟩ := bnd_f hf
  rw [eI2] at hF2
  refine fl_iconst C0 dX7_giveVerdict_23 ?_
  refine lv_istore (lv' := [(5, iv 0), (4, iv 0), (3, iv 0), (2, .ref (P ((P a1 1)) 3)), (0, .ref a0), (1, .ref a1)]) C0.1 C0.2.1 dX7_giveVerdict_24 hl (by decide) rfl (fun ls hl => ?_)
  exact b_X7_giveVerdict_26 C0 hr hWT  FU I2 a0 a1 ((P ((P a1 1)) 3)) 0 0 0 _ _ _ ka0 ka1 ((wt_at (k := 3) (t := 12) hWT (wt_at (k := 1) (t := 3) hWT ka1 rfl) rfl)) ((rgk 0 rfl)) ((rgk 0 rfl)) ((rgk 0 rfl)) hF2 (lv_sub hl [4, 5, 3, 2, 1, 0] rfl) hf
-- RejudgeHall.hasSolved(ILRejudgeHall$Problem;)Z
abbrev rm_X7_hasSolved : Room := { frames := 3, cells := 0, slots := 0, locals := 64 }
def f_X7_hasSolved_60 (K : KT) (P : PT) (k2 : Nat → Int → Nat → Int → Option (Int)) (I : IT) (a0 : Nat) (x1 : Int) (a2 : Nat) (x3 : Int) : Option (Int) := k2 a0 x1 a2 ((wr (x3 + 1)))
def f_X7_hasSolved_2 (K : KT) (P : PT) (I : IT) : Nat → Nat → Int → Nat → Int → Option (Int)
  | 0, _, _, _, _ => none
  | n + 1, a0, x1, a2, x3 => if (I ((P a0 4)) 2) ≤ x3 then (some 0) else (bp (lgetf K P I ((P a0 4)) x3 1) fun r3 => if (I r3 0) = x1 then (if (I ((P r3 1)) 0) = (I a2 0) then (if (I r3 4) = 0 then (some 1) else (f_X7_hasSolved_60 K P ((f_X7_hasSolved_2 K P  I n)) I a0 x1 a2 x3)) else (f_X7_hasSolved_60 K P ((f_X7_hasSolved_2 K P  I n)) I a0 x1 a2 x3)) else (f_X7_hasSolved_60 K P ((f_X7_hasSolved_2 K P  I n)) I a0 x1 a2 x3))
def f_X7_hasSolved (K : KT) (P : PT) (I : IT) (a0 : Nat) (x1 : Int) (a2 : Nat) : Option (Int) := f_X7_hasSolved_2 K P  I FU a0 x1 a2 0
abbrev G_X7_hasSolved_60 (p : Program) (l : Launch) (e : Env) (s : State) (m : MethodId) (args : Array Value) (below : List Frame) (meth : Method) (c : Code) (D : va_G) (cy : Nat → ClassId) (B : Nat) (L : List Nat) (K : KT) (P : PT) (J : IT) (res : Int) (I : IT) (f : Nat → Int → Nat → Int → Option (Int)) : Prop := ∀ (a0 : Nat) (x1 : Int) (a2 : Nat) (x3 : Int) (H : Heap) (locs : List Loc) (ls : Array Slot), K a0 = 8 → rg x1 → K a2 = 3 → rg x3 → FS D cy B L K P J s.heap I H locs → lv_has ls 5 [(0, .ref a0), (1, iv x1), (2, .ref a2), (3, iv x3)] → f a0 x1 a2 x3 = some res → W p l e rm_X7_hasSolved s m args below meth c H locs 0 0 (MQ below (QI D cy B L K P J (res, I)) args s 0 0 (fun q => B ≤ q)) (F0 m 60 ls [])
abbrev G_X7_hasSolved_2 (p : Program) (l : Launch) (e : Env) (s : State) (m : MethodId) (args : Array Value) (below : List Frame) (meth : Method) (c : Code) (D : va_G) (cy : Nat → ClassId) (B : Nat) (L : List Nat) (K : KT) (P : PT) (J : IT) (res : Int) (I : IT) (f : Nat → Int → Nat → Int → Option (Int)) : Prop := ∀ (a0 : Nat) (x1 : Int) (a2 : Nat) (x3 : Int) (H : Heap) (locs : List Loc) (ls : Array Slot), K a0 = 8 → rg x1 → K a2 = 3 → rg x3 → FS D cy B L K P J s.heap I H locs → lv_has ls 5 [(0, .ref a0), (1, iv x1), (2, .ref a2), (3, iv x3)] → f a0 x1 a2 x3 = some res → W p l e rm_X7_hasSolved s m args below meth c H locs 0 0 (MQ below (QI D cy B L K P J (res, I)) args s 0 0 (fun q => B ≤ q)) (F0 m 2 ls [])
set_option maxRecDepth 100000 in
set_option maxHeartbeats 4000000 in
theorem b_X7_hasSolved_60 {p : Program} {l : Launch} {e : Env} {s : State} {m : MethodId} {args : Array Value} {below : List Frame} {meth : Method} {c : Code} {D : va_G} {cy : Nat → ClassId} {B : Nat} {L : List Nat} {K : KT} {P : PT} {J : IT} {res : Int} {I : IT} (C0 : FC D cy B p s m meth c "RejudgeHall" cX7_hasSolved 5) (hr : meth.sig.returnType = (some .boolean)) (hWT : WT K P) {k2 : Nat → Int → Nat → Int → Option (Int)} (hk2 : G_X7_hasSolved_2 p l e s m args below meth c D cy B L K P J res I k2) : G_X7_hasSolved_60 p l e s m args below meth c D cy B L K P J res I (f_X7_hasSolved_60 K P k2 I) := by
  intro a0 x1 a2 x3 H locs ls ka0 rx1 ka2 rx3 hF hl hf
  unfold f_X7_hasSolved_60 at hf
  refine fl_iinc (lv' := [(3, iv (wr (x3 + 1))), (0, .ref a0), (1, iv x1), (2, .ref a2)]) C0 dX7_hasSolved_60 hl (k := 3) rfl (by decide) rfl (fun ls hl => ?_)
  refine fl_goto (tgt := 2) C0 dX7_hasSolved_63 (by decide) ?_
  exact hk2  a0 x1 a2 ((wr (x3 + 1))) _ _ _ ka0 rx1 ka2 ((rg_wr _)) hF (lv_sub hl [1, 2, 3, 0] rfl) hf
set_option maxRecDepth 100000 in
set_option maxHeartbeats 4000000 in
theorem b_X7_hasSolved_2 {p : Program} {l : Launch} {e : Env} {s : State} {m : MethodId} {args : Array Value} {below : List Frame} {meth : Method} {c : Code} {D : va_G} {cy : Nat → ClassId} {B : Nat} {L : List Nat} {K : KT} {P : PT} {J : IT} {res : Int} {I : IT} (C0 : FC D cy B p s m meth c "RejudgeHall" cX7_hasSolved 5) (hr : meth.sig.returnType = (some .boolean)) (hWT : WT K P) : ∀ n : Nat, G_X7_hasSolved_2 p l e s m args below meth c D cy B L K P J res I (f_X7_hasSolved_2 K P  I n)
  | 0 => by
    intro a0 x1 a2 x3 H locs ls ka0 rx1 ka2 rx3 hF hl hf
    cases hf
  | n + 1 => by
    have ih : G_X7_hasSolved_2 p l e s m args below meth c D cy B L K P J res I (f_X7_hasSolved_2 K P  I n)  := b_X7_hasSolved_2 C0 hr hWT  n
    intro a0 x1 a2 x3 H locs ls ka0 rx1 ka2 rx3 hF hl hf
    rw [f_X7_hasSolved_2] at hf
    refine lv_iload_n C0.1 C0.2.1 dX7_hasSolved_2 rfl (lv_at hl 3 rfl) ?_
    refine lv_aload_n C0.1 C0.2.1 dX7_hasSolved_3 rfl (lv_at hl 0 rfl) ?_
    refine fl_getr (k := 4) (t := 11) ck_8 C0 hF ka0 rfl (wt_at (k := 4) (t := 11) hWT ka0 rfl) rfl ⟨rfl, rfl⟩ aw_194 dX7_hasSolved_4 ?_
    refine fl_ri hF (fl_runV (As := []) (rest := [iv x3]) C0 hF hl.1 ck_0 (wt_at (k := 4) (t := 11) hWT ka0 rfl) rfl (c_size l D cy B L K P J I ((P a0 4)) 11 (wt_at (k := 4) (t := 11) hWT ka0 rfl) rfl) aw_344 aw_345 aw_346 aw_51 aw_347 rfl rfl pm_size rfl rfl ⟨Nat.le_of_ble_eq_true rfl, Nat.le_of_ble_eq_true rfl⟩ rfl (Nat.le_of_ble_eq_true rfl) dX7_hasSolved_7 ⟨Nat.le_of_ble_eq_true rfl, Nat.le_of_ble_eq_true rfl⟩) (fun H locs hF1 _ => ?_)
    refine fl_icmp_ge (tgt := 66) C0 rx3 (hF1.rI _ _) dX7_hasSolved_10 (by decide) (fun c2 => ?_) (fun c2 => ?_)
    · replace hf := (if_pos c2).symm.trans hf
      refine fl_iconst C0 dX7_hasSolved_66 ?_
      cases hf
      exact fl_zret C0 hF1 hr (rgk 0 rfl) (Or.inl rfl) rfl dX7_hasSolved_67
    · replace hf := (if_neg c2).symm.trans hf
      refine lv_aload_n C0.1 C0.2.1 dX7_hasSolved_13 rfl (lv_at hl 0 rfl) ?_
      refine fl_getr (k := 4) (t := 11) ck_8 C0 hF1 ka0 rfl (wt_at (k := 4) (t := 11) hWT ka0 rfl) rfl ⟨rfl, rfl⟩ aw_194 dX7_hasSolved_14 ?_
      refine lv_iload_n C0.1 C0.2.1 dX7_hasSolved_17 rfl (lv_at hl 3 rfl) ?_
      obtain ⟨r3, hq3, hf⟩ := bp_f hf
      have kr3 := lget_k hq3
      refine fl_rr hF1 (fl_runV (As := [iv x3]) (rest := []) C0 hF1 hl.1 ck_0 (wt_at (k := 4) (t := 11) hWT ka0 rfl) rfl (c_get l D cy B L K P J I ((P a0 4)) x3 11 1 (wt_at (k := 4) (t := 11) hWT ka0 rfl) rfl rx3 hq3) aw_348 aw_349 aw_350 aw_51 aw_351 rfl rfl pm_get rfl rfl ⟨Nat.le_of_ble_eq_true rfl, Nat.le_of_ble_eq_true rfl⟩ rfl (Nat.le_of_ble_eq_true rfl) dX7_hasSolved_18 ⟨Nat.le_of_ble_eq_true rfl, Nat.le_of_ble_eq_true rfl⟩) (fun H locs hF3 => ?_)
      refine fl_cast ck_1 C0 hF3 kr3 rfl aw_362 dX7_hasSolved_21 ?_
      refine lv_astore (lv' := [(4, .ref r3), (0, .ref a0), (1, iv x1), (2, .ref a2), (3, iv x3)]) C0.1 C0.2.1 dX7_hasSolved_24 hl (by decide) rfl (fun ls hl => ?_)
      refine lv_aload C0.1 C0.2.1 dX7_hasSolved_26 (lv_at hl 0 rfl) ?_
      refine fl_getiN (k := 0) ck_1 C0 hF3 kr3 rfl ⟨rfl, rfl⟩ aw_749 dX7_hasSolved_28 ?_
      refine lv_iload_n C0.1 C0.2.1 dX7_hasSolved_31 rfl (lv_at hl 2 rfl) ?_
      refine fl_icmp_ne (tgt := 60) C0 (hF3.rI _ _) rx1 dX7_hasSolved_32 (by decide) (fun c4 => ?_) (fun c4 => ?_)
      · replace hf := (if_neg c4).symm.trans hf
        exact b_X7_hasSolved_60 C0 hr hWT ih  a0 x1 a2 x3 _ _ _ ka0 rx1 ka2 rx3 hF3 (lv_sub hl [1, 2, 3, 4] rfl) hf
      · replace hf := (if_pos c4).symm.trans hf
        refine lv_aload C0.1 C0.2.1 dX7_hasSolved_35 (lv_at hl 0 rfl) ?_
        refine fl_getrN (k := 1) (t := 3) ck_1 C0 hF3 kr3 rfl (wt_at (k := 1) (t := 3) hWT kr3 rfl) rfl ⟨rfl, rfl⟩ aw_752 dX7_hasSolved_37 ?_
        refine fl_getiN (k := 0) ck_3 C0 hF3 (wt_at (k := 1) (t := 3) hWT kr3 rfl) rfl ⟨rfl, rfl⟩ aw_585 dX7_hasSolved_40 ?_
        refine lv_aload_n C0.1 C0.2.1 dX7_hasSolved_43 rfl (lv_at hl 3 rfl) ?_
        refine fl_getiN (k := 0) ck_3 C0 hF3 ka2 rfl ⟨rfl, rfl⟩ aw_585 dX7_hasSolved_44 ?_
        refine fl_icmp_ne (tgt := 60) C0 (hF3.rI _ _) (hF3.rI _ _) dX7_hasSolved_47 (by decide) (fun c5 => ?_) (fun c5 => ?_)
        · replace hf := (if_neg c5).symm.trans hf
          exact b_X7_hasSolved_60 C0 hr hWT ih  a0 x1 a2 x3 _ _ _ ka0 rx1 ka2 rx3 hF3 (lv_sub hl [1, 2, 3, 4] rfl) hf
        · replace hf := (if_pos c5).symm.trans hf
          refine lv_aload C0.1 C0.2.1 dX7_hasSolved_50 (lv_at hl 0 rfl) ?_
          refine fl_getiN (k := 4) ck_1 C0 hF3 kr3 rfl ⟨rfl, rfl⟩ aw_759 dX7_hasSolved_52 ?_
          refine fl_if_ne (tgt := 60) C0 (hF3.rI _ _) dX7_hasSolved_55 (by decide) (fun c6 => ?_) (fun c6 => ?_)
          · replace hf := (if_neg c6).symm.trans hf
            exact b_X7_hasSolved_60 C0 hr hWT ih  a0 x1 a2 x3 _ _ _ ka0 rx1 ka2 rx3 hF3 (lv_sub hl [1, 2, 3, 4] rfl) hf
          · replace hf := (if_pos c6).symm.trans hf
            refine fl_iconst C0 dX7_hasSolved_58 ?_
            cases hf
            exact fl_zret C0 hF3 hr (rgk 1 rfl) (Or.inr rfl) rfl dX7_hasSolved_59
theorem pm_X7_hasSolved : plainM yX7_hasSolved 2 := by decide +kernel
set_option maxRecDepth 100000 in
set_option maxHeartbeats 4000000 in
theorem c_X7_hasSolved (l : Launch) (D : va_G) (cy : Nat → ClassId) (B : Nat) (L : List Nat) (K : KT) (P : PT) (J : IT) (hWT : WT K P) (I : IT) (a0 : Nat) (x1 : Int) (a2 : Nat) (ka0 : K a0 = 8) (rx1 : rg x1) (ka2 : K a2 = 3) {r : Int} (hf : f_X7_hasSolved K P I a0 x1 a2 = some r) : Met l yX7_hasSolved [.code yX7_hasSolved cX7_hasSolved 5 (some .boolean)] rm_X7_hasSolved (va_Pc [.ref a0, iv x1, .ref a2] (FW D cy B L K P J I)) (QI D cy B L K P J (r, I)) 0 0 (fun q => B ≤ q) := by
  refine fl_body (own := "RejudgeHall") [.ref a0, iv x1, .ref a2] (by decide) rfl (Nat.le_of_ble_eq_true rfl) ?_
  intro p e s m args below meth c ls C0 hr hF hl
  have hl : lv_has ls 5 [(0, .ref a0), (1, iv x1), (2, .ref a2)] := hl
  unfold f_X7_hasSolved at hf
  refine fl_iconst C0 dX7_hasSolved_0 ?_
  refine lv_istore_n (lv' := [(3, iv 0), (0, .ref a0), (1, iv x1), (2, .ref a2)]) C0.1 C0.2.1 dX7_hasSolved_1 rfl hl (by decide) rfl (fun ls hl => ?_)
  exact b_X7_hasSolved_2 C0 hr hWT  FU  a0 x1 a2 0 _ _ _ ka0 rx1 ka2 ((rgk 0 rfl)) hF (lv_sub hl [1, 2, 3, 0] rfl) hf
-- RejudgeHall.longestCommon(LRejudgeHall$Program;LRejudgeHall$Program;)I
abbrev rm_X7_longestCommon : Room := { frames := 2, cells := 0, slots := 0, locals := 45 }
def f_X7_longestCommon_104 (K : KT) (P : PT) (k10 : IT → Nat → Nat → Nat → Int → Option (Int × IT)) (k24 : IT → Nat → Nat → Nat → Int → Int → Int → Option (Int × IT)) (I : IT) (a0 : Nat) (a1 : Nat) (a2 : Nat) (x3 : Int) (x5 : Int) (x6 : Int) : Option (Int × IT) := k24 I a0 a1 a2 x3 x6 ((wr (x5 + 1)))
def f_X7_longestCommon_114 (K : KT) (P : PT) (k10 : IT → Nat → Nat → Nat → Int → Option (Int × IT)) (I : IT) (a0 : Nat) (a1 : Nat) (a2 : Nat) (x3 : Int) : Option (Int × IT) := k10 I a0 a1 a2 ((wr (x3 + 1)))
def f_X7_longestCommon_24 (K : KT) (P : PT) (k10 : IT → Nat → Nat → Nat → Int → Option (Int × IT)) : Nat → IT → Nat → Nat → Nat → Int → Int → Int → Option (Int × IT)
  | 0, _, _, _, _, _, _, _ => none
  | n + 1, I, a0, a1, a2, x3, x4, x5 => if (I a2 2) ≤ x5 then (f_X7_longestCommon_114 K P k10 I a0 a1 a2 x3) else (if 17 ≤ (wr (x5 + 1)) then (f_X7_longestCommon_114 K P k10 I a0 a1 a2 x3) else (ck (0 ≤ (wr (x5 + 1)) ∧ (wr (x5 + 1)) < 17) <| bp (f_X3_isAlikeAt K P I a1 x3 a2 x5) fun r5 => if r5 = 0 then (ck (0 ≤ x5 ∧ x5 < 17) <| ck (0 ≤ (wr (x5 + 1)) ∧ (wr (x5 + 1)) < 17) <| bnd (up I ((P a0 9)) ((wr (x5 + 1)) : Int).toNat (imax ((I ((P a0 9)) ((wr (x5 + 1)) : Int).toNat)) ((I ((P a0 9)) (x5 : Int).toNat)))) fun I7 => f_X7_longestCommon_104 K P k10 ((f_X7_longestCommon_24 K P k10 n)) I7 a0 a1 a2 x3 x5 ((I ((P a0 9)) ((wr (x5 + 1)) : Int).toNat))) else (ck (0 ≤ (wr (x5 + 1)) ∧ (wr (x5 + 1)) < 17) <| bnd (up I ((P a0 9)) ((wr (x5 + 1)) : Int).toNat (wr (x4 + 1))) fun I8 => f_X7_longestCommon_104 K P k10 ((f_X7_longestCommon_24 K P k10 n)) I8 a0 a1 a2 x3 x5 ((I ((P a0 9)) ((wr (x5 + 1)) : Int).toNat)))))
def f_X7_longestCommon_120 (K : KT) (P : PT) (I : IT) (a0 : Nat) (a2 : Nat) : Option (Int × IT) := ck (0 ≤ (imin ((I a2 2)) 16) ∧ (imin ((I a2 2)) 16) < 17) <| some ((I ((P a0 9)) ((imin ((I a2 2)) 16) : Int).toNat), I)
def f_X7_longestCommon_10 (K : KT) (P : PT) : Nat → IT → Nat → Nat → Nat → Int → Option (Int × IT)
  | 0, _, _, _, _, _ => none
  | n + 1, I, a0, a1, a2, x3 => if (I a1 2) ≤ x3 then (f_X7_longestCommon_120 K P  I a0 a2) else (f_X7_longestCommon_24 K P ((f_X7_longestCommon_10 K P  n)) FU I a0 a1 a2 x3 0 0)
def f_X7_longestCommon (K : KT) (P : PT) (I : IT) (a0 : Nat) (a1 : Nat) (a2 : Nat) : Option (Int × IT) := bp (f_J7_fill_168 K P I ((P a0 9)) 0) fun I1 => f_X7_longestCommon_10 K P  FU I1 a0 a1 a2 0
abbrev G_X7_longestCommon_104 (p : Program) (l : Launch) (e : Env) (s : State) (m : MethodId) (args : Array Value) (below : List Frame) (meth : Method) (c : Code) (D : va_G) (cy : Nat → ClassId) (B : Nat) (L : List Nat) (K : KT) (P : PT) (J : IT) (res : Int × IT) (f : IT → Nat → Nat → Nat → Int → Int → Int → Option (Int × IT)) : Prop := ∀ (I : IT) (a0 : Nat) (a1 : Nat) (a2 : Nat) (x3 : Int) (x5 : Int) (x6 : Int) (H : Heap) (locs : List Loc) (ls : Array Slot), K a0 = 8 → K a1 = 4 → K a2 = 4 → rg x3 → rg x5 → rg x6 → FS D cy B L K P J s.heap I H locs → lv_has ls 7 [(0, .ref a0), (1, .ref a1), (2, .ref a2), (3, iv x3), (5, iv x5), (6, iv x6)] → f I a0 a1 a2 x3 x5 x6 = some res → W p l e rm_X7_longestCommon s m args below meth c H locs 0 0 (MQ below (QI D cy B L K P J res) args s 0 0 (fun q => B ≤ q)) (F0 m 104 ls [])
abbrev G_X7_longestCommon_114 (p : Program) (l : Launch) (e : Env) (s : State) (m : MethodId) (args : Array Value) (below : List Frame) (meth : Method) (c : Code) (D : va_G) (cy : Nat → ClassId) (B : Nat) (L : List Nat) (K : KT) (P : PT) (J : IT) (res : Int × IT) (f : IT → Nat → Nat → Nat → Int → Option (Int × IT)) : Prop := ∀ (I : IT) (a0 : Nat) (a1 : Nat) (a2 : Nat) (x3 : Int) (H : Heap) (locs : List Loc) (ls : Array Slot), K a0 = 8 → K a1 = 4 → K a2 = 4 → rg x3 → FS D cy B L K P J s.heap I H locs → lv_has ls 7 [(0, .ref a0), (1, .ref a1), (2, .ref a2), (3, iv x3)] → f I a0 a1 a2 x3 = some res → W p l e rm_X7_longestCommon s m args below meth c H locs 0 0 (MQ below (QI D cy B L K P J res) args s 0 0 (fun q => B ≤ q)) (F0 m 114 ls [])
abbrev G_X7_longestCommon_24 (p : Program) (l : Launch) (e : Env) (s : State) (m : MethodId) (args : Array Value) (below : List Frame) (meth : Method) (c : Code) (D : va_G) (cy : Nat → ClassId) (B : Nat) (L : List Nat) (K : KT) (P : PT) (J : IT) (res : Int × IT) (f : IT → Nat → Nat → Nat → Int → Int → Int → Option (Int × IT)) : Prop := ∀ (I : IT) (a0 : Nat) (a1 : Nat) (a2 : Nat) (x3 : Int) (x4 : Int) (x5 : Int) (H : Heap) (locs : List Loc) (ls : Array Slot), K a0 = 8 → K a1 = 4 → K a2 = 4 → rg x3 → rg x4 → rg x5 → FS D cy B L K P J s.heap I H locs → lv_has ls 7 [(0, .ref a0), (1, .ref a1), (2, .ref a2), (3, iv x3), (4, iv x4), (5, iv x5)] → f I a0 a1 a2 x3 x4 x5 = some res → W p l e rm_X7_longestCommon s m args below meth c H locs 0 0 (MQ below (QI D cy B L K P J res) args s 0 0 (fun q => B ≤ q)) (F0 m 24 ls [])
abbrev G_X7_longestCommon_120 (p : Program) (l : Launch) (e : Env) (s : State) (m : MethodId) (args : Array Value) (below : List Frame) (meth : Method) (c : Code) (D : va_G) (cy : Nat → ClassId) (B : Nat) (L : List Nat) (K : KT) (P : PT) (J : IT) (res : Int × IT) (f : IT → Nat → Nat → Option (Int × IT)) : Prop := ∀ (I : IT) (a0 : Nat) (a2 : Nat) (H : Heap) (locs : List Loc) (ls : Array Slot), K a0 = 8 → K a2 = 4 → FS D cy B L K P J s.heap I H locs → lv_has ls 7 [(0, .ref a0), (2, .ref a2)] → f I a0 a2 = some res → W p l e rm_X7_longestCommon s m args below meth c H locs 0 0 (MQ below (QI D cy B L K P J res) args s 0 0 (fun q => B ≤ q)) (F0 m 120 ls [])
abbrev G_X7_longestCommon_10 (p : Program) (l : Launch) (e : Env) (s : State) (m : MethodId) (args : Array Value) (below : List Frame) (meth : Method) (c : Code) (D : va_G) (cy : Nat → ClassId) (B : Nat) (L : List Nat) (K : KT) (P : PT) (J : IT) (res : Int × IT) (f : IT → Nat → Nat → Nat → Int → Option (Int × IT)) : Prop := ∀ (I : IT) (a0 : Nat) (a1 : Nat) (a2 : Nat) (x3 : Int) (H : Heap) (locs : List Loc) (ls : Array Slot), K a0 = 8 → K a1 = 4 → K a2 = 4 → rg x3 → FS D cy B L K P J s.heap I H locs → lv_has ls 7 [(0, .ref a0), (1, .ref a1), (2, .ref a2), (3, iv x3)] → f I a0 a1 a2 x3 = some res → W p l e rm_X7_longestCommon s m args below meth c H locs 0 0 (MQ below (QI D cy B L K P J res) args s 0 0 (fun q => B ≤ q)) (F0 m 10 ls [])
set_option maxRecDepth 100000 in
set_option maxHeartbeats 4000000 in
theorem b_X7_longestCommon_104 {p : Program} {l : Launch} {e : Env} {s : State} {m : MethodId} {args : Array Value} {below : List Frame} {meth : Method} {c : Code} {D : va_G} {cy : Nat → ClassId} {B : Nat} {L : List Nat} {K : KT} {P : PT} {J : IT} {res : Int × IT} (C0 : FC D cy B p s m meth c "RejudgeHall" cX7_longestCommon 7) (hr : meth.sig.returnType = (some .int)) (hWT : WT K P) {k10 : IT → Nat → Nat → Nat → Int → Option (Int × IT)} (hk10 : G_X7_longestCommon_10 p l e s m args below meth c D cy B L K P J res k10) {k24 : IT → Nat → Nat → Nat → Int → Int → Int → Option (Int × IT)} (hk24 : G_X7_longestCommon_24 p l e s m args below meth c D cy B L K P J res k24) : G_X7_longestCommon_104 p l e s m args below meth c D cy B L K P J res (f_X7_longestCommon_104 K P k10 k24) := by
  intro I a0 a1 a2 x3 x5 x6 H locs ls ka0 ka1 ka2 rx3 rx5 rx6 hF hl hf
  unfold f_X7_longestCommon_104 at hf
  refine lv_iload C0.1 C0.2.1 dX7_longestCommon_104 (lv_at hl 5 rfl) ?_
  refine lv_istore (lv' := [(4, iv x6), (0, .ref a0), (1, .ref a1), (2, .ref a2), (3, iv x3), (5, iv x5), (6, iv x6)]) C0.1 C0.2.1 dX7_longestCommon_106 hl (by decide) rfl (fun ls hl => ?_)
  refine fl_iinc (lv' := [(5, iv (wr (x5 + 1))), (4, iv x6), (0, .ref a0), (1, .ref a1), (2, .ref a2), (3, iv x3), (6, iv x6)]) C0 dX7_longestCommon_108 hl (k := 5) rfl (by decide) rfl (fun ls hl => ?_)
  refine fl_goto (tgt := 24) C0 dX7_longestCommon_111 (by decide) ?_
  exact hk24 I a0 a1 a2 x3 x6 ((wr (x5 + 1))) _ _ _ ka0 ka1 ka2 rx3 rx6 ((rg_wr _)) hF (lv_sub hl [2, 3, 4, 5, 1, 0] rfl) hf
set_option maxRecDepth 100000 in
set_option maxHeartbeats 4000000 in
theorem b_X7_longestCommon_114 {p : Program} {l : Launch} {e : Env} {s : State} {m : MethodId} {args : Array Value} {below : List Frame} {meth : Method} {c : Code} {D : va_G} {cy : Nat → ClassId} {B : Nat} {L : List Nat} {K : KT} {P : PT} {J : IT} {res : Int × IT} (C0 : FC D cy B p s m meth c "RejudgeHall" cX7_longestCommon 7) (hr : meth.sig.returnType = (some .int)) (hWT : WT K P) {k10 : IT → Nat → Nat → Nat → Int → Option (Int × IT)} (hk10 : G_X7_longestCommon_10 p l e s m args below meth c D cy B L K P J res k10) : G_X7_longestCommon_114 p l e s m args below meth c D cy B L K P J res (f_X7_longestCommon_114 K P k10) := by
  intro I a0 a1 a2 x3 H locs ls ka0 ka1 ka2 rx3 hF hl hf
  unfold f_X7_longestCommon_114 at hf
  refine fl_iinc (lv' := [(3, iv (wr (x3 + 1))), (0, .ref a0), (1, .ref a1), (2, .ref a2)]) C0 dX7_longestCommon_114 hl (k := 3) rfl (by decide) rfl (fun ls hl => ?_)
  refine fl_goto (tgt := 10) C0 dX7_longestCommon_117 (by decide) ?_
  exact hk10 I a0 a1 a2 ((wr (x3 + 1))) _ _ _ ka0 ka1 ka2 ((rg_wr _)) hF (lv_sub hl [1, 2, 3, 0] rfl) hf
set_option maxRecDepth 100000 in
set_option maxHeartbeats 4000000 in
theorem b_X7_longestCommon_24 {p : Program} {l : Launch} {e : Env} {s : State} {m : MethodId} {args : Array Value} {below : List Frame} {meth : Method} {c : Code} {D : va_G} {cy : Nat → ClassId} {B : Nat} {L : List Nat} {K : KT} {P : PT} {J : IT} {res : Int × IT} (C0 : FC D cy B p s m meth c "RejudgeHall" cX7_longestCommon 7) (hr : meth.sig.returnType = (some .int)) (hWT : WT K P) {k10 : IT → Nat → Nat → Nat → Int → Option (Int × IT)} (hk10 : G_X7_longestCommon_10 p l e s m args below meth c D cy B L K P J res k10) : ∀ n : Nat, G_X7_longestCommon_24 p l e s m args below meth c D cy B L K P J res (f_X7_longestCommon_24 K P k10 n)
  | 0 => by
    intro I a0 a1 a2 x3 x4 x5 H locs ls ka0 ka1 ka2 rx3 rx4 rx5 hF hl hf
    cases hf
  | n + 1 => by
    have ih : G_X7_longestCommon_24 p l e s m args below meth c D cy B L K P J res (f_X7_longestCommon_24 K P k10 n)  := b_X7_longestCommon_24 C0 hr hWT hk10 n
    intro I a0 a1 a2 x3 x4 x5 H locs ls ka0 ka1 ka2 rx3 rx4 rx5 hF hl hf
    rw [f_X7_longestCommon_24] at hf
    refine lv_iload C0.1 C0.2.1 dX7_longestCommon_24 (lv_at hl 5 rfl) ?_
    refine lv_aload_n C0.1 C0.2.1 dX7_longestCommon_26 rfl (lv_at hl 2 rfl) ?_
    refine fl_getiN (k := 2) ck_4 C0 hF ka2 rfl ⟨rfl, rfl⟩ aw_87 dX7_longestCommon_27 ?_
    refine fl_icmp_ge (tgt := 114) C0 rx5 (hF.rI _ _) dX7_longestCommon_30 (by decide) (fun c3 => ?_) (fun c3 => ?_)
    · replace hf := (if_pos c3).symm.trans hf
      exact b_X7_longestCommon_114 C0 hr hWT hk10 I a0 a1 a2 x3 _ _ _ ka0 ka1 ka2 rx3 hF (lv_sub hl [0, 1, 2, 3] rfl) hf
    · replace hf := (if_neg c3).symm.trans hf
      refine lv_iload C0.1 C0.2.1 dX7_longestCommon_33 (lv_at hl 5 rfl) ?_
      refine fl_iconst C0 dX7_longestCommon_35 ?_
      refine fl_iadd C0 dX7_longestCommon_36 ?_
      refine lv_aload_n C0.1 C0.2.1 dX7_longestCommon_37 rfl (lv_at hl 0 rfl) ?_
      refine fl_getr (k := 9) (t := 168) ck_8 C0 hF ka0 rfl (wt_at (k := 9) (t := 168) hWT ka0 rfl) rfl ⟨rfl, rfl⟩ aw_199 dX7_longestCommon_38 ?_
      refine fl_alen (n := 17) (kd := 0) C0 hF (wt_at (k := 9) (t := 168) hWT ka0 rfl) (by decide) dX7_longestCommon_41 ?_
      refine fl_icmp_ge (tgt := 114) C0 (rg_wr _) (rgk 17 rfl) dX7_longestCommon_42 (by decide) (fun c4 => ?_) (fun c4 => ?_)
      · replace hf := (if_pos c4).symm.trans hf
        exact b_X7_longestCommon_114 C0 hr hWT hk10 I a0 a1 a2 x3 _ _ _ ka0 ka1 ka2 rx3 hF (lv_sub hl [0, 1, 2, 3] rfl) hf
      · replace hf := (if_neg c4).symm.trans hf
        refine lv_aload_n C0.1 C0.2.1 dX7_longestCommon_45 rfl (lv_at hl 0 rfl) ?_
        refine fl_getr (k := 9) (t := 168) ck_8 C0 hF ka0 rfl (wt_at (k := 9) (t := 168) hWT ka0 rfl) rfl ⟨rfl, rfl⟩ aw_199 dX7_longestCommon_46 ?_
        refine lv_iload C0.1 C0.2.1 dX7_longestCommon_49 (lv_at hl 5 rfl) ?_
        refine fl_iconst C0 dX7_longestCommon_51 ?_
        refine fl_iadd C0 dX7_longestCommon_52 ?_
        obtain ⟨hc, hf⟩ := ck_f hf
        refine fl_iald (n := 17) C0 hF (wt_at (k := 9) (t := 168) hWT ka0 rfl) (rg_wr _) hc dX7_longestCommon_53 ?_
        refine lv_istore (lv' := [(6, iv (I ((P a0 9)) ((wr (x5 + 1)) : Int).toNat)), (0, .ref a0), (1, .ref a1), (2, .ref a2), (3, iv x3), (4, iv x4), (5, iv x5)]) C0.1 C0.2.1 dX7_longestCommon_54 hl (by decide) rfl (fun ls hl => ?_)
        refine lv_aload_n C0.1 C0.2.1 dX7_longestCommon_56 rfl (lv_at hl 2 rfl) ?_
        refine lv_iload_n C0.1 C0.2.1 dX7_longestCommon_57 rfl (lv_at hl 4 rfl) ?_
        refine lv_aload_n C0.1 C0.2.1 dX7_longestCommon_58 rfl (lv_at hl 3 rfl) ?_
        refine lv_iload C0.1 C0.2.1 dX7_longestCommon_59 (lv_at hl 6 rfl) ?_
        obtain ⟨r5, hq5, hf⟩ := bp_f hf
        refine fl_ri hF (fl_runN (As := [iv x3, .ref a2, iv x5]) (rest := []) C0 hF hl.1 ck_4 ka1 rfl (c_X3_isAlikeAt l D cy B L K P J hWT I a1 x3 a2 x5 ka1 rx3 ka2 rx5 hq5) aw_495 aw_497 aw_24 aw_46 aw_498 rfl pm_X3_isAlikeAt rfl rfl ⟨Nat.le_of_ble_eq_true rfl, Nat.le_of_ble_eq_true rfl⟩ rfl (Nat.le_of_ble_eq_true rfl) dX7_longestCommon_61 ⟨Nat.le_of_ble_eq_true rfl, Nat.le_of_ble_eq_true rfl⟩) (fun H locs hF5 rr5 => ?_)
        refine fl_if_eq (tgt := 83) C0 rr5 dX7_longestCommon_64 (by decide) (fun c6 => ?_) (fun c6 => ?_)
        · replace hf := (if_pos c6).symm.trans hf
          refine lv_aload_n C0.1 C0.2.1 dX7_longestCommon_83 rfl (lv_at hl 1 rfl) ?_
          refine fl_getr (k := 9) (t := 168) ck_8 C0 hF5 ka0 rfl (wt_at (k := 9) (t := 168) hWT ka0 rfl) rfl ⟨rfl, rfl⟩ aw_199 dX7_longestCommon_84 ?_
          refine lv_iload C0.1 C0.2.1 dX7_longestCommon_87 (lv_at hl 6 rfl) ?_
          refine fl_iconst C0 dX7_longestCommon_89 ?_
          refine fl_iadd C0 dX7_longestCommon_90 ?_
          refine lv_iload C0.1 C0.2.1 dX7_longestCommon_91 (lv_at hl 0 rfl) ?_
          refine lv_aload_n C0.1 C0.2.1 dX7_longestCommon_93 rfl (lv_at hl 1 rfl) ?_
          refine fl_getr (k := 9) (t := 168) ck_8 C0 hF5 ka0 rfl (wt_at (k := 9) (t := 168) hWT ka0 rfl) rfl ⟨rfl, rfl⟩ aw_199 dX7_longestCommon_94 ?_
          refine lv_iload C0.1 C0.2.1 dX7_longestCommon_97 (lv_at hl 6 rfl) ?_
          obtain ⟨hc, hf⟩ := ck_f hf
          refine fl_iald (n := 17) C0 hF5 (wt_at (k := 9) (t := 168) hWT ka0 rfl) rx5 hc dX7_longestCommon_99 ?_
          refine fl_max C0 hl.1 (hF.rI _ _) (hF5.rI _ _) aw_485 (Nat.le_of_ble_eq_true rfl) (Nat.le_of_ble_eq_true rfl) (Nat.le_of_ble_eq_true rfl) (Nat.le_of_ble_eq_true rfl) dX7_longestCommon_100 ?_
          obtain ⟨hc, hf⟩ := ck_f hf
          refine fl_iast (n := 17) C0 hF5 (wt_at (k := 9) (t := 168) hWT ka0 rfl) (rg_wr _) (rg_imax (hF.rI _ _) (hF5.rI _ _)) hc dX7_longestCommon_103 (fun H locs hF7 => ?_)
          obtain ⟨I7, eI7, hf⟩ := bnd_f hf
          rw [eI7] at hF7
          exact b_X7_longestCommon_104 C0 hr hWT hk10 ih I7 a0 a1 a2 x3 x5 ((I ((P a0 9)) ((wr (x5 + 1)) : Int).toNat)) _ _ _ ka0 ka1 ka2 rx3 rx5 ((hF.rI _ _)) hF7 (lv_sub hl [1, 2, 3, 4, 6, 0] rfl) hf
        · replace hf := (if_neg c6).symm.trans hf
          refine lv_aload_n C0.1 C0.2.1 dX7_longestCommon_67 rfl (lv_at hl 1 rfl) ?_
          refine fl_getr (k := 9) (t := 168) ck_8 C0 hF5 ka0 rfl (wt_at (k := 9) (t := 168) hWT ka0 rfl) rfl ⟨rfl, rfl⟩ aw_199 dX7_longestCommon_68 ?_
          refine lv_iload C0.1 C0.2.1 dX7_longestCommon_71 (lv_at hl 6 rfl) ?_
          refine fl_iconst C0 dX7_longestCommon_73 ?_
          refine fl_iadd C0 dX7_longestCommon_74 ?_
          refine lv_iload C0.1 C0.2.1 dX7_longestCommon_75 (lv_at hl 5 rfl) ?_
          refine fl_iconst C0 dX7_longestCommon_77 ?_
          refine fl_iadd C0 dX7_longestCommon_78 ?_
          obtain ⟨hc, hf⟩ := ck_f hf
          refine fl_iast (n := 17) C0 hF5 (wt_at (k := 9) (t := 168) hWT ka0 rfl) (rg_wr _) (rg_wr _) hc dX7_longestCommon_79 (fun H locs hF8 => ?_)
          obtain ⟨I8, eI8, hf⟩ := bnd_f hf
          rw [eI8] at hF8
          refine fl_goto (tgt := 104) C0 dX7_longestCommon_80 (by decide) ?_
          exact b_X7_longestCommon_104 C0 hr hWT hk10 ih I8 a0 a1 a2 x3 x5 ((I ((P a0 9)) ((wr (x5 + 1)) : Int).toNat)) _ _ _ ka0 ka1 ka2 rx3 rx5 ((hF.rI _ _)) hF8 (lv_sub hl [1, 2, 3, 4, 6, 0] rfl) hf
set_option maxRecDepth 100000 in
set_option maxHeartbeats 4000000 in
theorem b_X7_longestCommon_120 {p : Program} {l : Launch} {e : Env} {s : State} {m : MethodId} {args : Array Value} {below : List Frame} {meth : Method} {c : Code} {D : va_G} {cy : Nat → ClassId} {B : Nat} {L : List Nat} {K : KT} {P : PT} {J : IT} {res : Int × IT} (C0 : FC D cy B p s m meth c "RejudgeHall" cX7_longestCommon 7) (hr : meth.sig.returnType = (some .int)) (hWT : WT K P) : G_X7_longestCommon_120 p l e s m args below meth c D cy B L K P J res (f_X7_longestCommon_120 K P ) := by
  intro I a0 a2 H locs ls ka0 ka2 hF hl hf
  unfold f_X7_longestCommon_120 at hf
  refine lv_aload_n C0.1 C0.2.1 dX7_longestCommon_120 rfl (lv_at hl 0 rfl) ?_
  refine fl_getr (k := 9) (t := 168) ck_8 C0 hF ka0 rfl (wt_at (k := 9) (t := 168) hWT ka0 rfl) rfl ⟨rfl, rfl⟩ aw_199 dX7_longestCommon_121 ?_
  refine lv_aload_n C0.1 C0.2.1 dX7_longestCommon_124 rfl (lv_at hl 1 rfl) ?_
  refine fl_getiN (k := 2) ck_4 C0 hF ka2 rfl ⟨rfl, rfl⟩ aw_87 dX7_longestCommon_125 ?_
  refine fl_bipush C0 dX7_longestCommon_128 (by decide) ?_
  refine fl_min C0 hl.1 (hF.rI _ _) (rgk 16 rfl) aw_500 (Nat.le_of_ble_eq_true rfl) (Nat.le_of_ble_eq_true rfl) (Nat.le_of_ble_eq_true rfl) (Nat.le_of_ble_eq_true rfl) dX7_longestCommon_130 ?_
  obtain ⟨hc, hf⟩ := ck_f hf
  refine fl_iald (n := 17) C0 hF (wt_at (k := 9) (t := 168) hWT ka0 rfl) (rg_imin (hF.rI _ _) (rgk 16 rfl)) hc dX7_longestCommon_133 ?_
  cases hf
  exact fl_iret C0 hF hr (hF.rI _ _) rfl dX7_longestCommon_134
set_option maxRecDepth 100000 in
set_option maxHeartbeats 4000000 in
theorem b_X7_longestCommon_10 {p : Program} {l : Launch} {e : Env} {s : State} {m : MethodId} {args : Array Value} {below : List Frame} {meth : Method} {c : Code} {D : va_G} {cy : Nat → ClassId} {B : Nat} {L : List Nat} {K : KT} {P : PT} {J : IT} {res : Int × IT} (C0 : FC D cy B p s m meth c "RejudgeHall" cX7_longestCommon 7) (hr : meth.sig.returnType = (some .int)) (hWT : WT K P) : ∀ n : Nat, G_X7_longestCommon_10 p l e s m args below meth c D cy B L K P J res (f_X7_longestCommon_10 K P  n)
  | 0 => by
    intro I a0 a1 a2 x3 H locs ls ka0 ka1 ka2 rx3 hF hl hf
    cases hf
  | n + 1 => by
    have ih : G_X7_longestCommon_10 p l e s m args below meth c D cy B L K P J res (f_X7_longestCommon_10 K P  n)  := b_X7_longestCommon_10 C0 hr hWT  n
    intro I a0 a1 a2 x3 H locs ls ka0 ka1 ka2 rx3 hF hl hf
    rw [f_X7_longestCommon_10] at hf
    refine lv_iload_n C0.1 C0.2.1 dX7_longestCommon_10 rfl (lv_at hl 3 rfl) ?_
    refine lv_aload_n C0.1 C0.2.1 dX7_longestCommon_11 rfl (lv_at hl 1 rfl) ?_
    refine fl_getiN (k := 2) ck_4 C0 hF ka1 rfl ⟨rfl, rfl⟩ aw_87 dX7_longestCommon_12 ?_
    refine fl_icmp_ge (tgt := 120) C0 rx3 (hF.rI _ _) dX7_longestCommon_15 (by decide) (fun c2 => ?_) (fun c2 => ?_)
    · replace hf := (if_pos c2).symm.trans hf
      exact b_X7_longestCommon_120 C0 hr hWT  I a0 a2 _ _ _ ka0 ka2 hF (lv_sub hl [0, 2] rfl) hf
    · replace hf := (if_neg c2).symm.trans hf
      refine fl_iconst C0 dX7_longestCommon_18 ?_
      refine lv_istore (lv' := [(4, iv 0), (0, .ref a0), (1, .ref a1), (2, .ref a2), (3, iv x3)]) C0.1 C0.2.1 dX7_longestCommon_19 hl (by decide) rfl (fun ls hl => ?_)
      refine fl_iconst C0 dX7_longestCommon_21 ?_
      refine lv_istore (lv' := [(5, iv 0), (4, iv 0), (0, .ref a0), (1, .ref a1), (2, .ref a2), (3, iv x3)]) C0.1 C0.2.1 dX7_longestCommon_22 hl (by decide) rfl (fun ls hl => ?_)
      exact b_X7_longestCommon_24 C0 hr hWT ih FU I a0 a1 a2 x3 0 0 _ _ _ ka0 ka1 ka2 rx3 ((rgk 0 rfl)) ((rgk 0 rfl)) hF (lv_sub hl [2, 3, 4, 5, 1, 0] rfl) hf
theorem pm_X7_longestCommon : plainM yX7_longestCommon 2 := by decide +kernel
set_option maxRecDepth 100000 in
set_option maxHeartbeats 4000000 in
theorem c_X7_longestCommon (l : Launch) (D : va_G) (cy : Nat → ClassId) (B : Nat) (L : List Nat) (K : KT) (P : PT) (J : IT) (hWT : WT K P) (I : IT) (a0 : Nat) (a1 : Nat) (a2 : Nat) (ka0 : K a0 = 8) (ka1 : K a1 = 4) (ka2 : K a2 = 4) {r : Int} {I' : IT} (hf : f_X7_longestCommon K P I a0 a1 a2 = some (r, I')) : Met l yX7_longestCommon [.code yX7_longestCommon cX7_longestCommon 7 (some .int)] rm_X7_longestCommon (va_Pc [.ref a0, .ref a1, .ref a2] (FW D cy B L K P J I)) (QI D cy B L K P J (r, I')) 0 0 (fun q => B ≤ q) := by
  refine fl_body (own := "RejudgeHall") [.ref a0, .ref a1, .ref a2] (by decide) rfl (Nat.le_of_ble_eq_true rfl) ?_
  intro p e s m args below meth c ls C0 hr hF hl
  have hl : lv_has ls 7 [(0, .ref a0), (1, .ref a1), (2, .ref a2)] := hl
  unfold f_X7_longestCommon at hf
  refine lv_aload_n C0.1 C0.2.1 dX7_longestCommon_0 rfl (lv_at hl 0 rfl) ?_
  refine fl_getr (k := 9) (t := 168) ck_8 C0 hF ka0 rfl (wt_at (k := 9) (t := 168) hWT ka0 rfl) rfl ⟨rfl, rfl⟩ aw_199 dX7_longestCommon_1 ?_
  refine fl_iconst C0 dX7_longestCommon_4 ?_
  obtain ⟨I1, hq1, hf⟩ := bp_f hf
  refine fl_rv hF (fl_runSG (As := [.ref (P a0 9), iv 0]) (rest := []) C0 hF hl.1 (c_J7_fill_168 l D cy B L K P J hWT I ((P a0 9)) 0 ((wt_at (k := 9) (t := 168) hWT ka0 rfl)) ((rgk 0 rfl)) hq1) aw_492 aw_493 aw_59 aw_494 rfl pm_J7_fill_168 rfl rfl ⟨Nat.le_of_ble_eq_true rfl, Nat.le_of_ble_eq_true rfl⟩ rfl (Nat.le_of_ble_eq_true rfl) dX7_longestCommon_5 ⟨Nat.le_of_ble_eq_true rfl, Nat.le_of_ble_eq_true rfl⟩) (fun H locs hF1 => ?_)
  refine fl_iconst C0 dX7_longestCommon_8 ?_
  refine lv_istore_n (lv' := [(3, iv 0), (0, .ref a0), (1, .ref a1), (2, .ref a2)]) C0.1 C0.2.1 dX7_longestCommon_9 rfl hl (by decide) rfl (fun ls hl => ?_)
  exact b_X7_longestCommon_10 C0 hr hWT  FU I1 a0 a1 a2 0 _ _ _ ka0 ka1 ka2 ((rgk 0 rfl)) hF1 (lv_sub hl [1, 2, 3, 0] rfl) hf
-- RejudgeHall.isLate(LRejudgeHall$Entry;)Z
abbrev rm_X7_isLate : Room := { frames := 0, cells := 0, slots := 0, locals := 0 }
def f_X7_isLate (K : KT) (P : PT) (I : IT) (a0 : Nat) (a1 : Nat) : Option (Int) := if (I a0 11) = (-1) then (some 0) else (if (I a1 2) < (I a0 11) then (some 0) else (some 1))
theorem pm_X7_isLate : plainM yX7_isLate 1 := by decide +kernel
set_option maxRecDepth 100000 in
set_option maxHeartbeats 4000000 in
theorem c_X7_isLate (l : Launch) (D : va_G) (cy : Nat → ClassId) (B : Nat) (L : List Nat) (K : KT) (P : PT) (J : IT) (hWT : WT K P) (I : IT) (a0 : Nat) (a1 : Nat) (ka0 : K a0 = 8) (ka1 : K a1 = 1) {r : Int} (hf : f_X7_isLate K P I a0 a1 = some r) : Met l yX7_isLate [.code yX7_isLate cX7_isLate 2 (some .boolean)] rm_X7_isLate (va_Pc [.ref a0, .ref a1] (FW D cy B L K P J I)) (QI D cy B L K P J (r, I)) 0 0 (fun q => B ≤ q) := by
  refine fl_body (own := "RejudgeHall") [.ref a0, .ref a1] (by decide) rfl (Nat.le_of_ble_eq_true rfl) ?_
  intro p e s m args below meth c ls C0 hr hF hl
  have hl : lv_has ls 2 [(0, .ref a0), (1, .ref a1)] := hl
  unfold f_X7_isLate at hf
  refine lv_aload_n C0.1 C0.2.1 dX7_isLate_0 rfl (lv_at hl 0 rfl) ?_
  refine fl_geti (k := 11) ck_8 C0 hF ka0 rfl ⟨rfl, rfl⟩ aw_201 dX7_isLate_1 ?_
  refine fl_iconst C0 dX7_isLate_4 ?_
  refine fl_icmp_eq (tgt := 23) C0 (hF.rI _ _) (rgk (-1) rfl) dX7_isLate_5 (by decide) (fun c1 => ?_) (fun c1 => ?_)
  · replace hf := (if_pos c1).symm.trans hf
    refine fl_iconst C0 dX7_isLate_23 ?_
    cases hf
    exact fl_zret C0 hF hr (rgk 0 rfl) (Or.inl rfl) rfl dX7_isLate_24
  · replace hf := (if_neg c1).symm.trans hf
    refine lv_aload_n C0.1 C0.2.1 dX7_isLate_8 rfl (lv_at hl 1 rfl) ?_
    refine fl_getiN (k := 2) ck_1 C0 hF ka1 rfl ⟨rfl, rfl⟩ aw_755 dX7_isLate_9 ?_
    refine lv_aload_n C0.1 C0.2.1 dX7_isLate_12 rfl (lv_at hl 0 rfl) ?_
    refine fl_geti (k := 11) ck_8 C0 hF ka0 rfl ⟨rfl, rfl⟩ aw_201 dX7_isLate_13 ?_
    refine fl_icmp_lt (tgt := 23) C0 (hF.rI _ _) (hF.rI _ _) dX7_isLate_16 (by decide) (fun c2 => ?_) (fun c2 => ?_)
    · replace hf := (if_pos c2).symm.trans hf
      refine fl_iconst C0 dX7_isLate_23 ?_
      cases hf
      exact fl_zret C0 hF hr (rgk 0 rfl) (Or.inl rfl) rfl dX7_isLate_24
    · replace hf := (if_neg c2).symm.trans hf
      refine fl_iconst C0 dX7_isLate_19 ?_
      refine fl_goto (tgt := 24) C0 dX7_isLate_20 (by decide) ?_
      cases hf
      exact fl_zret C0 hF hr (rgk 1 rfl) (Or.inr rfl) rfl dX7_isLate_24
-- RejudgeHall.isHidden(LRejudgeHall$Entry;)Z
abbrev rm_X7_isHidden : Room := { frames := 1, cells := 0, slots := 0, locals := 21 }
def f_X7_isHidden (K : KT) (P : PT) (I : IT) (a0 : Nat) (a1 : Nat) : Option (Int) := bp (f_X7_isLate K P I a0 a1) fun r1 => if r1 = 0 then (some 0) else (bp (f_X7_pairOf K P I ((I a1 0)) ((I ((P a1 1)) 0))) fun r3 => ck (0 ≤ r3 ∧ r3 < 48) <| if (I ((P a0 8)) (r3 : Int).toNat) = 0 then (some 1) else (some 0))
theorem pm_X7_isHidden : plainM yX7_isHidden 1 := by decide +kernel
set_option maxRecDepth 100000 in
set_option maxHeartbeats 4000000 in
theorem c_X7_isHidden (l : Launch) (D : va_G) (cy : Nat → ClassId) (B : Nat) (L : List Nat) (K : KT) (P : PT) (J : IT) (hWT : WT K P) (I : IT) (a0 : Nat) (a1 : Nat) (ka0 : K a0 = 8) (ka1 : K a1 = 1) {r : Int} (hf : f_X7_isHidden K P I a0 a1 = some r) : Met l yX7_isHidden [.code yX7_isHidden cX7_isHidden 2 (some .boolean)] rm_X7_isHidden (va_Pc [.ref a0, .ref a1] (FW D cy B L K P J I)) (QI D cy B L K P J (r, I)) 0 0 (fun q => B ≤ q) := by
  refine fl_body (own := "RejudgeHall") [.ref a0, .ref a1] (by decide) rfl (Nat.le_of_ble_eq_true rfl) ?_
  intro p e s m args below meth c ls C0 hr hF hl
  have hl : lv_has ls 2 [(0, .ref a0), (1, .ref a1)] := hl
  unfold f_X7_isHidden at hf
  refine lv_aload_n C0.1 C0.2.1 dX7_isHidden_0 rfl (lv_at hl 0 rfl) ?_
  refine lv_aload_n C0.1 C0.2.1 dX7_isHidden_1 rfl (lv_at hl 1 rfl) ?_
  obtain ⟨r1, hq1, hf⟩ := bp_f hf
  refine fl_ri hF (fl_runV (As := [.ref a1]) (rest := []) C0 hF hl.1 ck_8 ka0 rfl (c_X7_isLate l D cy B L K P J hWT I a0 a1 ka0 ka1 hq1) aw_520 aw_522 aw_28 aw_45 aw_523 rfl rfl pm_X7_isLate rfl rfl ⟨Nat.le_of_ble_eq_true rfl, Nat.le_of_ble_eq_true rfl⟩ rfl (Nat.le_of_ble_eq_true rfl) dX7_isHidden_2 ⟨Nat.le_of_ble_eq_true rfl, Nat.le_of_ble_eq_true rfl⟩) (fun H locs hF1 rr1 => ?_)
  refine fl_if_eq (tgt := 34) C0 rr1 dX7_isHidden_5 (by decide) (fun c2 => ?_) (fun c2 => ?_)
  · replace hf := (if_pos c2).symm.trans hf
    refine fl_iconst C0 dX7_isHidden_34 ?_
    cases hf
    exact fl_zret C0 hF1 hr (rgk 0 rfl) (Or.inl rfl) rfl dX7_isHidden_35
  · replace hf := (if_neg c2).symm.trans hf
    refine lv_aload_n C0.1 C0.2.1 dX7_isHidden_8 rfl (lv_at hl 0 rfl) ?_
    refine fl_getr (k := 8) (t := 293) ck_8 C0 hF1 ka0 rfl (wt_at (k := 8) (t := 293) hWT ka0 rfl) rfl ⟨rfl, rfl⟩ aw_198 dX7_isHidden_9 ?_
    refine lv_aload_n C0.1 C0.2.1 dX7_isHidden_12 rfl (lv_at hl 1 rfl) ?_
    refine fl_getiN (k := 0) ck_1 C0 hF1 ka1 rfl ⟨rfl, rfl⟩ aw_749 dX7_isHidden_13 ?_
    refine lv_aload_n C0.1 C0.2.1 dX7_isHidden_16 rfl (lv_at hl 1 rfl) ?_
    refine fl_getrN (k := 1) (t := 3) ck_1 C0 hF1 ka1 rfl (wt_at (k := 1) (t := 3) hWT ka1 rfl) rfl ⟨rfl, rfl⟩ aw_752 dX7_isHidden_17 ?_
    refine fl_getiN (k := 0) ck_3 C0 hF1 (wt_at (k := 1) (t := 3) hWT ka1 rfl) rfl ⟨rfl, rfl⟩ aw_585 dX7_isHidden_20 ?_
    obtain ⟨r3, hq3, hf⟩ := bp_f hf
    refine fl_ri hF1 (fl_runSG (As := [iv (I a1 0), iv (I ((P a1 1)) 0)]) (rest := [.ref (P a0 8)]) C0 hF1 hl.1 (c_X7_pairOf l D cy B L K P J hWT I ((I a1 0)) ((I ((P a1 1)) 0)) ((hF1.rI _ _)) ((hF1.rI _ _)) hq3) aw_524 aw_525 aw_45 aw_526 rfl pm_X7_pairOf rfl rfl ⟨Nat.le_of_ble_eq_true rfl, Nat.le_of_ble_eq_true rfl⟩ rfl (Nat.le_of_ble_eq_true rfl) dX7_isHidden_23 ⟨Nat.le_of_ble_eq_true rfl, Nat.le_of_ble_eq_true rfl⟩) (fun H locs hF3 rr3 => ?_)
    obtain ⟨hc, hf⟩ := ck_f hf
    refine fl_zald (n := 48) C0 hF3 (wt_at (k := 8) (t := 293) hWT ka0 rfl) rr3 hc dX7_isHidden_26 ?_
    refine fl_if_ne (tgt := 34) C0 (hF3.rI _ _) dX7_isHidden_27 (by decide) (fun c4 => ?_) (fun c4 => ?_)
    · replace hf := (if_neg c4).symm.trans hf
      refine fl_iconst C0 dX7_isHidden_34 ?_
      cases hf
      exact fl_zret C0 hF3 hr (rgk 0 rfl) (Or.inl rfl) rfl dX7_isHidden_35
    · replace hf := (if_pos c4).symm.trans hf
      refine fl_iconst C0 dX7_isHidden_30 ?_
      refine fl_goto (tgt := 35) C0 dX7_isHidden_31 (by decide) ?_
      cases hf
      exact fl_zret C0 hF3 hr (rgk 1 rfl) (Or.inr rfl) rfl dX7_isHidden_35
-- RejudgeHall.countVerdicts(Z)V
abbrev rm_X7_countVerdicts : Room := { frames := 3, cells := 0, slots := 0, locals := 64 }
def f_X7_countVerdicts_71 (K : KT) (P : PT) (k9 : IT → Nat → Int → Int → Option (IT)) (I : IT) (a0 : Nat) (x1 : Int) (x2 : Int) : Option (IT) := k9 I a0 x1 ((wr (x2 + 1)))
def f_X7_countVerdicts_68 (K : KT) (P : PT) (k9 : IT → Nat → Int → Int → Option (IT)) (I : IT) (a0 : Nat) (x1 : Int) (x2 : Int) (t0 : Int) (b1 : Nat) (b2 : Nat) : Option (IT) := bp (f_X5_count K P I b2 b1 t0) fun I11 => f_X7_countVerdicts_71 K P k9 I11 a0 x1 x2
def f_X7_countVerdicts_51 (K : KT) (P : PT) (k9 : IT → Nat → Int → Int → Option (IT)) (I : IT) (a0 : Nat) (x1 : Int) (x2 : Int) (a3 : Nat) : Option (IT) := if (I a3 4) = 0 then (f_X7_countVerdicts_68 K P k9 I a0 x1 x2 1 a3 ((P a0 5))) else (f_X7_countVerdicts_68 K P k9 I a0 x1 x2 0 a3 ((P a0 5)))
def f_X7_countVerdicts_9 (K : KT) (P : PT) : Nat → IT → Nat → Int → Int → Option (IT)
  | 0, _, _, _, _ => none
  | n + 1, I, a0, x1, x2 => if (I ((P a0 4)) 2) ≤ x2 then (some I) else (bp (lgetf K P I ((P a0 4)) x2 1) fun r4 => bp (f_X0_waits K P I r4) fun r5 => if r5 = 0 then (if x1 = 0 then (f_X7_countVerdicts_51 K P ((f_X7_countVerdicts_9 K P  n)) I a0 x1 x2 r4) else (bp (f_X7_isHidden K P I a0 r4) fun r8 => if r8 = 0 then (f_X7_countVerdicts_51 K P ((f_X7_countVerdicts_9 K P  n)) I a0 x1 x2 r4) else (f_X7_countVerdicts_71 K P ((f_X7_countVerdicts_9 K P  n)) I a0 x1 x2))) else (f_X7_countVerdicts_71 K P ((f_X7_countVerdicts_9 K P  n)) I a0 x1 x2))
def f_X7_countVerdicts (K : KT) (P : PT) (I : IT) (a0 : Nat) (x1 : Int) : Option (IT) := bp (f_X5_wipe K P I ((P a0 5))) fun I1 => f_X7_countVerdicts_9 K P  FU I1 a0 x1 0
abbrev G_X7_countVerdicts_71 (p : Program) (l : Launch) (e : Env) (s : State) (m : MethodId) (args : Array Value) (below : List Frame) (meth : Method) (c : Code) (D : va_G) (cy : Nat → ClassId) (B : Nat) (L : List Nat) (K : KT) (P : PT) (J : IT) (res : IT) (f : IT → Nat → Int → Int → Option (IT)) : Prop := ∀ (I : IT) (a0 : Nat) (x1 : Int) (x2 : Int) (H : Heap) (locs : List Loc) (ls : Array Slot), K a0 = 8 → rg x1 → rg x2 → FS D cy B L K P J s.heap I H locs → lv_has ls 4 [(0, .ref a0), (1, iv x1), (2, iv x2)] → f I a0 x1 x2 = some res → W p l e rm_X7_countVerdicts s m args below meth c H locs 0 0 (MQ below (QV D cy B L K P J res) args s 0 0 (fun q => B ≤ q)) (F0 m 71 ls [])
abbrev G_X7_countVerdicts_68 (p : Program) (l : Launch) (e : Env) (s : State) (m : MethodId) (args : Array Value) (below : List Frame) (meth : Method) (c : Code) (D : va_G) (cy : Nat → ClassId) (B : Nat) (L : List Nat) (K : KT) (P : PT) (J : IT) (res : IT) (f : IT → Nat → Int → Int → Int → Nat → Nat → Option (IT)) : Prop := ∀ (I : IT) (a0 : Nat) (x1 : Int) (x2 : Int) (t0 : Int) (b1 : Nat) (b2 : Nat) (H : Heap) (locs : List Loc) (ls : Array Slot), K a0 = 8 → rg x1 → rg x2 → rg t0 → K b1 = 1 → K b2 = 6 → FS D cy B L K P J s.heap I H locs → lv_has ls 4 [(0, .ref a0), (1, iv x1), (2, iv x2)] → f I a0 x1 x2 t0 b1 b2 = some res → W p l e rm_X7_countVerdicts s m args below meth c H locs 0 0 (MQ below (QV D cy B L K P J res) args s 0 0 (fun q => B ≤ q)) (F0 m 68 ls [iv t0, .ref b1, .ref b2])
abbrev G_X7_countVerdicts_51 (p : Program) (l : Launch) (e : Env) (s : State) (m : MethodId) (args : Array Value) (below : List Frame) (meth : Method) (c : Code) (D : va_G) (cy : Nat → ClassId) (B : Nat) (L : List Nat) (K : KT) (P : PT) (J : IT) (res : IT) (f : IT → Nat → Int → Int → Nat → Option (IT)) : Prop := ∀ (I : IT) (a0 : Nat) (x1 : Int) (x2 : Int) (a3 : Nat) (H : Heap) (locs : List Loc) (ls : Array Slot), K a0 = 8 → rg x1 → rg x2 → K a3 = 1 → FS D cy B L K P J s.heap I H locs → lv_has ls 4 [(0, .ref a0), (1, iv x1), (2, iv x2), (3, .ref a3)] → f I a0 x1 x2 a3 = some res → W p l e rm_X7_countVerdicts s m args below meth c H locs 0 0 (MQ below (QV D cy B L K P J res) args s 0 0 (fun q => B ≤ q)) (F0 m 51 ls [])
abbrev G_X7_countVerdicts_9 (p : Program) (l : Launch) (e : Env) (s : State) (m : MethodId) (args : Array Value) (below : List Frame) (meth : Method) (c : Code) (D : va_G) (cy : Nat → ClassId) (B : Nat) (L : List Nat) (K : KT) (P : PT) (J : IT) (res : IT) (f : IT → Nat → Int → Int → Option (IT)) : Prop := ∀ (I : IT) (a0 : Nat) (x1 : Int) (x2 : Int) (H : Heap) (locs : List Loc) (ls : Array Slot), K a0 = 8 → rg x1 → rg x2 → FS D cy B L K P J s.heap I H locs → lv_has ls 4 [(0, .ref a0), (1, iv x1), (2, iv x2)] → f I a0 x1 x2 = some res → W p l e rm_X7_countVerdicts s m args below meth c H locs 0 0 (MQ below (QV D cy B L K P J res) args s 0 0 (fun q => B ≤ q)) (F0 m 9 ls [])
set_option maxRecDepth 100000 in
set_option maxHeartbeats 4000000 in
theorem b_X7_countVerdicts_71 {p : Program} {l : Launch} {e : Env} {s : State} {m : MethodId} {args : Array Value} {below : List Frame} {meth : Method} {c : Code} {D : va_G} {cy : Nat → ClassId} {B : Nat} {L : List Nat} {K : KT} {P : PT} {J : IT} {res : IT} (C0 : FC D cy B p s m meth c "RejudgeHall" cX7_countVerdicts 4) (hr : meth.sig.returnType = none) (hWT : WT K P) {k9 : IT → Nat → Int → Int → Option (IT)} (hk9 : G_X7_countVerdicts_9 p l e s m args below meth c D cy B L K P J res k9) : G_X7_countVerdicts_71 p l e s m args below meth c D cy B L K P J res (f_X7_countVerdicts_71 K P k9) := by
  intro I a0 x1 x2 H locs ls ka0 rx1 rx2 hF hl hf
  unfold f_X7_countVerdicts_71 at hf
  refine fl_iinc (lv' := [(2, iv (wr (x2 + 1))), (0, .ref a0), (1, iv x1)]) C0 dX7_countVerdicts_71 hl (k := 2) rfl (by decide) rfl (fun ls hl => ?_)
  refine fl_goto (tgt := 9) C0 dX7_countVerdicts_74 (by decide) ?_
  exact hk9 I a0 x1 ((wr (x2 + 1))) _ _ _ ka0 rx1 ((rg_wr _)) hF (lv_sub hl [1, 2, 0] rfl) hf
set_option maxRecDepth 100000 in
set_option maxHeartbeats 4000000 in
theorem b_X7_countVerdicts_68 {p : Program} {l : Launch} {e : Env} {s : State} {m : MethodId} {args : Array Value} {below : List Frame} {meth : Method} {c : Code} {D : va_G} {cy : Nat → ClassId} {B : Nat} {L : List Nat} {K : KT} {P : PT} {J : IT} {res : IT} (C0 : FC D cy B p s m meth c "RejudgeHall" cX7_countVerdicts 4) (hr : meth.sig.returnType = none) (hWT : WT K P) {k9 : IT → Nat → Int → Int → Option (IT)} (hk9 : G_X7_countVerdicts_9 p l e s m args below meth c D cy B L K P J res k9) : G_X7_countVerdicts_68 p l e s m args below meth c D cy B L K P J res (f_X7_countVerdicts_68 K P k9) := by
  intro I a0 x1 x2 t0 b1 b2 H locs ls ka0 rx1 rx2 rt0 kb1 kb2 hF hl hf
  unfold f_X7_countVerdicts_68 at hf
  obtain ⟨I11, hq11, hf⟩ := bp_f hf
  refine fl_rv hF (fl_runN (As := [.ref b1, iv t0]) (rest := []) C0 hF hl.1 ck_6 kb2 rfl (c_X5_count l D cy B L K P J hWT I b2 b1 t0 kb2 kb1 rt0 hq11) aw_527 aw_529 aw_29 aw_52 aw_530 rfl pm_X5_count rfl rfl ⟨Nat.le_of_ble_eq_true rfl, Nat.le_of_ble_eq_true rfl⟩ rfl (Nat.le_of_ble_eq_true rfl) dX7_countVerdicts_68 ⟨Nat.le_of_ble_eq_true rfl, Nat.le_of_ble_eq_true rfl⟩) (fun H locs hF11 => ?_)
  exact b_X7_countVerdicts_71 C0 hr hWT hk9 I11 a0 x1 x2 _ _ _ ka0 rx1 rx2 hF11 (lv_sub hl [0, 1, 2] rfl) hf
set_option maxRecDepth 100000 in
set_option maxHeartbeats 4000000 in
theorem b_X7_countVerdicts_51 {p : Program} {l : Launch} {e : Env} {s : State} {m : MethodId} {args : Array Value} {below : List Frame} {meth : Method} {c : Code} {D : va_G} {cy : Nat → ClassId} {B : Nat} {L : List Nat} {K : KT} {P : PT} {J : IT} {res : IT} (C0 : FC D cy B p s m meth c "RejudgeHall" cX7_countVerdicts 4) (hr : meth.sig.returnType = none) (hWT : WT K P) {k9 : IT → Nat → Int → Int → Option (IT)} (hk9 : G_X7_countVerdicts_9 p l e s m args below meth c D cy B L K P J res k9) : G_X7_countVerdicts_51 p l e s m args below meth c D cy B L K P J res (f_X7_countVerdicts_51 K P k9) := by
  intro I a0 x1 x2 a3 H locs ls ka0 rx1 rx2 ka3 hF hl hf
  unfold f_X7_countVerdicts_51 at hf
  refine lv_aload_n C0.1 C0.2.1 dX7_countVerdicts_51 rfl (lv_at hl 0 rfl) ?_
  refine fl_getr (k := 5) (t := 6) ck_8 C0 hF ka0 rfl (wt_at (k := 5) (t := 6) hWT ka0 rfl) rfl ⟨rfl, rfl⟩ aw_195 dX7_countVerdicts_52 ?_
  refine lv_aload_n C0.1 C0.2.1 dX7_countVerdicts_55 rfl (lv_at hl 3 rfl) ?_
  refine lv_aload_n C0.1 C0.2.1 dX7_countVerdicts_56 rfl (lv_at hl 3 rfl) ?_
  refine fl_getiN (k := 4) ck_1 C0 hF ka3 rfl ⟨rfl, rfl⟩ aw_759 dX7_countVerdicts_57 ?_
  refine fl_if_ne (tgt := 67) C0 (hF.rI _ _) dX7_countVerdicts_60 (by decide) (fun c10 => ?_) (fun c10 => ?_)
  · replace hf := (if_neg c10).symm.trans hf
    refine fl_iconst C0 dX7_countVerdicts_67 ?_
    exact b_X7_countVerdicts_68 C0 hr hWT hk9 I a0 x1 x2 0 a3 ((P a0 5)) _ _ _ ka0 rx1 rx2 ((rgk 0 rfl)) ka3 ((wt_at (k := 5) (t := 6) hWT ka0 rfl)) hF (lv_sub hl [0, 1, 2] rfl) hf
  · replace hf := (if_pos c10).symm.trans hf
    refine fl_iconst C0 dX7_countVerdicts_63 ?_
    refine fl_goto (tgt := 68) C0 dX7_countVerdicts_64 (by decide) ?_
    exact b_X7_countVerdicts_68 C0 hr hWT hk9 I a0 x1 x2 1 a3 ((P a0 5)) _ _ _ ka0 rx1 rx2 ((rgk 1 rfl)) ka3 ((wt_at (k := 5) (t := 6) hWT ka0 rfl)) hF (lv_sub hl [0, 1, 2] rfl) hf
set_option maxRecDepth 100000 in
set_option maxHeartbeats 4000000 in
theorem b_X7_countVerdicts_9 {p : Program} {l : Launch} {e : Env} {s : State} {m : MethodId} {args : Array Value} {below : List Frame} {meth : Method} {c : Code} {D : va_G} {cy : Nat → ClassId} {B : Nat} {L : List Nat} {K : KT} {P : PT} {J : IT} {res : IT} (C0 : FC D cy B p s m meth c "RejudgeHall" cX7_countVerdicts 4) (hr : meth.sig.returnType = none) (hWT : WT K P) : ∀ n : Nat, G_X7_countVerdicts_9 p l e s m args below meth c D cy B L K P J res (f_X7_countVerdicts_9 K P  n)
  | 0 => by
    intro I a0 x1 x2 H locs ls ka0 rx1 rx2 hF hl hf
    cases hf
  | n + 1 => by
    have ih : G_X7_countVerdicts_9 p l e s m args below meth c D cy B L K P J res (f_X7_countVerdicts_9 K P  n)  := b_X7_countVerdicts_9 C0 hr hWT  n
    intro I a0 x1 x2 H locs ls ka0 rx1 rx2 hF hl hf
    rw [f_X7_countVerdicts_9] at hf
    refine lv_iload_n C0.1 C0.2.1 dX7_countVerdicts_9 rfl (lv_at hl 2 rfl) ?_
    refine lv_aload_n C0.1 C0.2.1 dX7_countVerdicts_10 rfl (lv_at hl 0 rfl) ?_
    refine fl_getr (k := 4) (t := 11) ck_8 C0 hF ka0 rfl (wt_at (k := 4) (t := 11) hWT ka0 rfl) rfl ⟨rfl, rfl⟩ aw_194 dX7_countVerdicts_11 ?_
    refine fl_ri hF (fl_runV (As := []) (rest := [iv x2]) C0 hF hl.1 ck_0 (wt_at (k := 4) (t := 11) hWT ka0 rfl) rfl (c_size l D cy B L K P J I ((P a0 4)) 11 (wt_at (k := 4) (t := 11) hWT ka0 rfl) rfl) aw_344 aw_345 aw_346 aw_51 aw_347 rfl rfl pm_size rfl rfl ⟨Nat.le_of_ble_eq_true rfl, Nat.le_of_ble_eq_true rfl⟩ rfl (Nat.le_of_ble_eq_true rfl) dX7_countVerdicts_14 ⟨Nat.le_of_ble_eq_true rfl, Nat.le_of_ble_eq_true rfl⟩) (fun H locs hF2 _ => ?_)
    refine fl_icmp_ge (tgt := 77) C0 rx2 (hF2.rI _ _) dX7_countVerdicts_17 (by decide) (fun c3 => ?_) (fun c3 => ?_)
    · replace hf := (if_pos c3).symm.trans hf
      cases hf
      exact fl_vret C0 hF2 hr rfl dX7_countVerdicts_77
    · replace hf := (if_neg c3).symm.trans hf
      refine lv_aload_n C0.1 C0.2.1 dX7_countVerdicts_20 rfl (lv_at hl 0 rfl) ?_
      refine fl_getr (k := 4) (t := 11) ck_8 C0 hF2 ka0 rfl (wt_at (k := 4) (t := 11) hWT ka0 rfl) rfl ⟨rfl, rfl⟩ aw_194 dX7_countVerdicts_21 ?_
      refine lv_iload_n C0.1 C0.2.1 dX7_countVerdicts_24 rfl (lv_at hl 2 rfl) ?_
      obtain ⟨r4, hq4, hf⟩ := bp_f hf
      have kr4 := lget_k hq4
      refine fl_rr hF2 (fl_runV (As := [iv x2]) (rest := []) C0 hF2 hl.1 ck_0 (wt_at (k := 4) (t := 11) hWT ka0 rfl) rfl (c_get l D cy B L K P J I ((P a0 4)) x2 11 1 (wt_at (k := 4) (t := 11) hWT ka0 rfl) rfl rx2 hq4) aw_348 aw_349 aw_350 aw_51 aw_351 rfl rfl pm_get rfl rfl ⟨Nat.le_of_ble_eq_true rfl, Nat.le_of_ble_eq_true rfl⟩ rfl (Nat.le_of_ble_eq_true rfl) dX7_countVerdicts_25 ⟨Nat.le_of_ble_eq_true rfl, Nat.le_of_ble_eq_true rfl⟩) (fun H locs hF4 => ?_)
      refine fl_cast ck_1 C0 hF4 kr4 rfl aw_362 dX7_countVerdicts_28 ?_
      refine lv_astore_n (lv' := [(3, .ref r4), (0, .ref a0), (1, iv x1), (2, iv x2)]) C0.1 C0.2.1 dX7_countVerdicts_31 rfl hl (by decide) rfl (fun ls hl => ?_)
      refine lv_aload_n C0.1 C0.2.1 dX7_countVerdicts_32 rfl (lv_at hl 0 rfl) ?_
      obtain ⟨r5, hq5, hf⟩ := bp_f hf
      refine fl_ri hF4 (fl_runN (As := []) (rest := []) C0 hF4 hl.1 ck_1 kr4 rfl (c_X0_waits l D cy B L K P J hWT I r4 kr4 hq5) aw_363 aw_365 aw_3 aw_67 aw_367 rfl pm_X0_waits rfl rfl ⟨Nat.le_of_ble_eq_true rfl, Nat.le_of_ble_eq_true rfl⟩ rfl (Nat.le_of_ble_eq_true rfl) dX7_countVerdicts_33 ⟨Nat.le_of_ble_eq_true rfl, Nat.le_of_ble_eq_true rfl⟩) (fun H locs hF5 rr5 => ?_)
      refine fl_if_ne (tgt := 71) C0 rr5 dX7_countVerdicts_36 (by decide) (fun c6 => ?_) (fun c6 => ?_)
      · replace hf := (if_neg c6).symm.trans hf
        exact b_X7_countVerdicts_71 C0 hr hWT ih I a0 x1 x2 _ _ _ ka0 rx1 rx2 hF5 (lv_sub hl [1, 2, 3] rfl) hf
      · replace hf := (if_pos c6).symm.trans hf
        refine lv_iload_n C0.1 C0.2.1 dX7_countVerdicts_39 rfl (lv_at hl 2 rfl) ?_
        refine fl_if_eq (tgt := 51) C0 rx1 dX7_countVerdicts_40 (by decide) (fun c7 => ?_) (fun c7 => ?_)
        · replace hf := (if_pos c7).symm.trans hf
          exact b_X7_countVerdicts_51 C0 hr hWT ih I a0 x1 x2 r4 _ _ _ ka0 rx1 rx2 kr4 hF5 (lv_sub hl [1, 2, 3, 0] rfl) hf
        · replace hf := (if_neg c7).symm.trans hf
          refine lv_aload_n C0.1 C0.2.1 dX7_countVerdicts_43 rfl (lv_at hl 1 rfl) ?_
          refine lv_aload_n C0.1 C0.2.1 dX7_countVerdicts_44 rfl (lv_at hl 0 rfl) ?_
          obtain ⟨r8, hq8, hf⟩ := bp_f hf
          refine fl_ri hF5 (fl_runV (As := [.ref r4]) (rest := []) C0 hF5 hl.1 ck_8 ka0 rfl (c_X7_isHidden l D cy B L K P J hWT I a0 r4 ka0 kr4 hq8) aw_516 aw_518 aw_27 aw_45 aw_519 rfl rfl pm_X7_isHidden rfl rfl ⟨Nat.le_of_ble_eq_true rfl, Nat.le_of_ble_eq_true rfl⟩ rfl (Nat.le_of_ble_eq_true rfl) dX7_countVerdicts_45 ⟨Nat.le_of_ble_eq_true rfl, Nat.le_of_ble_eq_true rfl⟩) (fun H locs hF8 rr8 => ?_)
          refine fl_if_ne (tgt := 71) C0 rr8 dX7_countVerdicts_48 (by decide) (fun c9 => ?_) (fun c9 => ?_)
          · replace hf := (if_neg c9).symm.trans hf
            exact b_X7_countVerdicts_71 C0 hr hWT ih I a0 x1 x2 _ _ _ ka0 rx1 rx2 hF8 (lv_sub hl [1, 2, 3] rfl) hf
          · replace hf := (if_pos c9).symm.trans hf
            exact b_X7_countVerdicts_51 C0 hr hWT ih I a0 x1 x2 r4 _ _ _ ka0 rx1 rx2 kr4 hF8 (lv_sub hl [1, 2, 3, 0] rfl) hf
theorem pm_X7_countVerdicts : plainM yX7_countVerdicts 1 := by decide +kernel
set_option maxRecDepth 100000 in
set_option maxHeartbeats 4000000 in
theorem c_X7_countVerdicts (l : Launch) (D : va_G) (cy : Nat → ClassId) (B : Nat) (L : List Nat) (K : KT) (P : PT) (J : IT) (hWT : WT K P) (I : IT) (a0 : Nat) (x1 : Int) (ka0 : K a0 = 8) (rx1 : rg x1) {I' : IT} (hf : f_X7_countVerdicts K P I a0 x1 = some I') : Met l yX7_countVerdicts [.code yX7_countVerdicts cX7_countVerdicts 4 none] rm_X7_countVerdicts (va_Pc [.ref a0, iv x1] (FW D cy B L K P J I)) (QV D cy B L K P J I') 0 0 (fun q => B ≤ q) := by
  refine fl_body (own := "RejudgeHall") [.ref a0, iv x1] (by decide) rfl (Nat.le_of_ble_eq_true rfl) ?_
  intro p e s m args below meth c ls C0 hr hF hl
  have hl : lv_has ls 4 [(0, .ref a0), (1, iv x1)] := hl
  unfold f_X7_countVerdicts at hf
  refine lv_aload_n C0.1 C0.2.1 dX7_countVerdicts_0 rfl (lv_at hl 0 rfl) ?_
  refine fl_getr (k := 5) (t := 6) ck_8 C0 hF ka0 rfl (wt_at (k := 5) (t := 6) hWT ka0 rfl) rfl ⟨rfl, rfl⟩ aw_195 dX7_countVerdicts_1 ?_
  obtain ⟨I1, hq1, hf⟩ := bp_f hf
  refine fl_rv hF (fl_runN (As := []) (rest := []) C0 hF hl.1 ck_6 (wt_at (k := 5) (t := 6) hWT ka0 rfl) rfl (c_X5_wipe l D cy B L K P J hWT I ((P a0 5)) ((wt_at (k := 5) (t := 6) hWT ka0 rfl)) hq1) aw_511 aw_513 aw_26 aw_52 aw_514 rfl pm_X5_wipe rfl rfl ⟨Nat.le_of_ble_eq_true rfl, Nat.le_of_ble_eq_true rfl⟩ rfl (Nat.le_of_ble_eq_true rfl) dX7_countVerdicts_4 ⟨Nat.le_of_ble_eq_true rfl, Nat.le_of_ble_eq_true rfl⟩) (fun H locs hF1 => ?_)
  refine fl_iconst C0 dX7_countVerdicts_7 ?_
  refine lv_istore_n (lv' := [(2, iv 0), (0, .ref a0), (1, iv x1)]) C0.1 C0.2.1 dX7_countVerdicts_8 rfl hl (by decide) rfl (fun ls hl => ?_)
  exact b_X7_countVerdicts_9 C0 hr hWT  FU I1 a0 x1 0 _ _ _ ka0 rx1 ((rgk 0 rfl)) hF1 (lv_sub hl [1, 2, 0] rfl) hf
-- RejudgeHall.lowestHidden(I)I
abbrev rm_X7_lowestHidden : Room := { frames := 3, cells := 0, slots := 0, locals := 64 }
def f_X7_lowestHidden_81 (K : KT) (P : PT) (k4 : Nat → Int → Int → Int → Option (Int)) (I : IT) (a0 : Nat) (x1 : Int) (x2 : Int) (x3 : Int) : Option (Int) := k4 a0 x1 x2 ((wr (x3 + 1)))
def f_X7_lowestHidden_80 (K : KT) (P : PT) (k4 : Nat → Int → Int → Int → Option (Int)) (I : IT) (a0 : Nat) (x1 : Int) (x3 : Int) (t0 : Int) : Option (Int) := f_X7_lowestHidden_81 K P k4 I a0 x1 t0 x3
def f_X7_lowestHidden_4 (K : KT) (P : PT) (I : IT) : Nat → Nat → Int → Int → Int → Option (Int)
  | 0, _, _, _, _ => none
  | n + 1, a0, x1, x2, x3 => if (I ((P a0 4)) 2) ≤ x3 then (some x2) else (bp (lgetf K P I ((P a0 4)) x3 1) fun r3 => if (I r3 0) = x1 then (bp (f_X0_waits K P I r3) fun r5 => if r5 = 0 then (bp (f_X7_isHidden K P I a0 r3) fun r7 => if r7 = 0 then (f_X7_lowestHidden_81 K P ((f_X7_lowestHidden_4 K P  I n)) I a0 x1 x2 x3) else (if x2 = (-1) then (f_X7_lowestHidden_80 K P ((f_X7_lowestHidden_4 K P  I n)) I a0 x1 x3 ((I ((P r3 1)) 0))) else (f_X7_lowestHidden_80 K P ((f_X7_lowestHidden_4 K P  I n)) I a0 x1 x3 ((imin x2 ((I ((P r3 1)) 0))))))) else (f_X7_lowestHidden_81 K P ((f_X7_lowestHidden_4 K P  I n)) I a0 x1 x2 x3)) else (f_X7_lowestHidden_81 K P ((f_X7_lowestHidden_4 K P  I n)) I a0 x1 x2 x3))
def f_X7_lowestHidden (K : KT) (P : PT) (I : IT) (a0 : Nat) (x1 : Int) : Option (Int) := f_X7_lowestHidden_4 K P  I FU a0 x1 ((-1)) 0
abbrev G_X7_lowestHidden_81 (p : Program) (l : Launch) (e : Env) (s : State) (m : MethodId) (args : Array Value) (below : List Frame) (meth : Method) (c : Code) (D : va_G) (cy : Nat → ClassId) (B : Nat) (L : List Nat) (K : KT) (P : PT) (J : IT) (res : Int) (I : IT) (f : Nat → Int → Int → Int → Option (Int)) : Prop := ∀ (a0 : Nat) (x1 : Int) (x2 : Int) (x3 : Int) (H : Heap) (locs : List Loc) (ls : Array Slot), K a0 = 8 → rg x1 → rg x2 → rg x3 → FS D cy B L K P J s.heap I H locs → lv_has ls 6 [(0, .ref a0), (1, iv x1), (2, iv x2), (3, iv x3)] → f a0 x1 x2 x3 = some res → W p l e rm_X7_lowestHidden s m args below meth c H locs 0 0 (MQ below (QI D cy B L K P J (res, I)) args s 0 0 (fun q => B ≤ q)) (F0 m 81 ls [])
abbrev G_X7_lowestHidden_80 (p : Program) (l : Launch) (e : Env) (s : State) (m : MethodId) (args : Array Value) (below : List Frame) (meth : Method) (c : Code) (D : va_G) (cy : Nat → ClassId) (B : Nat) (L : List Nat) (K : KT) (P : PT) (J : IT) (res : Int) (I : IT) (f : Nat → Int → Int → Int → Option (Int)) : Prop := ∀ (a0 : Nat) (x1 : Int) (x3 : Int) (t0 : Int) (H : Heap) (locs : List Loc) (ls : Array Slot), K a0 = 8 → rg x1 → rg x3 → rg t0 → FS D cy B L K P J s.heap I H locs → lv_has ls 6 [(0, .ref a0), (1, iv x1), (3, iv x3)] → f a0 x1 x3 t0 = some res → W p l e rm_X7_lowestHidden s m args below meth c H locs 0 0 (MQ below (QI D cy B L K P J (res, I)) args s 0 0 (fun q => B ≤ q)) (F0 m 80 ls [iv t0])
abbrev G_X7_lowestHidden_4 (p : Program) (l : Launch) (e : Env) (s : State) (m : MethodId) (args : Array Value) (below : List Frame) (meth : Method) (c : Code) (D : va_G) (cy : Nat → ClassId) (B : Nat) (L : List Nat) (K : KT) (P : PT) (J : IT) (res : Int) (I : IT) (f : Nat → Int → Int → Int → Option (Int)) : Prop := ∀ (a0 : Nat) (x1 : Int) (x2 : Int) (x3 : Int) (H : Heap) (locs : List Loc) (ls : Array Slot), K a0 = 8 → rg x1 → rg x2 → rg x3 → FS D cy B L K P J s.heap I H locs → lv_has ls 6 [(0, .ref a0), (1, iv x1), (2, iv x2), (3, iv x3)] → f a0 x1 x2 x3 = some res → W p l e rm_X7_lowestHidden s m args below meth c H locs 0 0 (MQ below (QI D cy B L K P J (res, I)) args s 0 0 (fun q => B ≤ q)) (F0 m 4 ls [])
set_option maxRecDepth 100000 in
set_option maxHeartbeats 4000000 in
theorem b_X7_lowestHidden_81 {p : Program} {l : Launch} {e : Env} {s : State} {m : MethodId} {args : Array Value} {below : List Frame} {meth : Method} {c : Code} {D : va_G} {cy : Nat → ClassId} {B : Nat} {L : List Nat} {K : KT} {P : PT} {J : IT} {res : Int} {I : IT} (C0 : FC D cy B p s m meth c "RejudgeHall" cX7_lowestHidden 6) (hr : meth.sig.returnType = (some .int)) (hWT : WT K P) {k4 : Nat → Int → Int → Int → Option (Int)} (hk4 : G_X7_lowestHidden_4 p l e s m args below meth c D cy B L K P J res I k4) : G_X7_lowestHidden_81 p l e s m args below meth c D cy B L K P J res I (f_X7_lowestHidden_81 K P k4 I) := by
  intro a0 x1 x2 x3 H locs ls ka0 rx1 rx2 rx3 hF hl hf
  unfold f_X7_lowestHidden_81 at hf
  refine fl_iinc (lv' := [(3, iv (wr (x3 + 1))), (0, .ref a0), (1, iv x1), (2, iv x2)]) C0 dX7_lowestHidden_81 hl (k := 3) rfl (by decide) rfl (fun ls hl => ?_)
  refine fl_goto (tgt := 4) C0 dX7_lowestHidden_84 (by decide) ?_
  exact hk4  a0 x1 x2 ((wr (x3 + 1))) _ _ _ ka0 rx1 rx2 ((rg_wr _)) hF (lv_sub hl [1, 2, 3, 0] rfl) hf
set_option maxRecDepth 100000 in
set_option maxHeartbeats 4000000 in
theorem b_X7_lowestHidden_80 {p : Program} {l : Launch} {e : Env} {s : State} {m : MethodId} {args : Array Value} {below : List Frame} {meth : Method} {c : Code} {D : va_G} {cy : Nat → ClassId} {B : Nat} {L : List Nat} {K : KT} {P : PT} {J : IT} {res : Int} {I : IT} (C0 : FC D cy B p s m meth c "RejudgeHall" cX7_lowestHidden 6) (hr : meth.sig.returnType = (some .int)) (hWT : WT K P) {k4 : Nat → Int → Int → Int → Option (Int)} (hk4 : G_X7_lowestHidden_4 p l e s m args below meth c D cy B L K P J res I k4) : G_X7_lowestHidden_80 p l e s m args below meth c D cy B L K P J res I (f_X7_lowestHidden_80 K P k4 I) := by
  intro a0 x1 x3 t0 H locs ls ka0 rx1 rx3 rt0 hF hl hf
  unfold f_X7_lowestHidden_80 at hf
  refine lv_istore_n (lv' := [(2, iv t0), (0, .ref a0), (1, iv x1), (3, iv x3)]) C0.1 C0.2.1 dX7_lowestHidden_80 rfl hl (by decide) rfl (fun ls hl => ?_)
  exact b_X7_lowestHidden_81 C0 hr hWT hk4  a0 x1 t0 x3 _ _ _ ka0 rx1 rt0 rx3 hF (lv_sub hl [1, 2, 0, 3] rfl) hf
set_option maxRecDepth 100000 in
set_option maxHeartbeats 4000000 in
theorem b_X7_lowestHidden_4 {p : Program} {l : Launch} {e : Env} {s : State} {m : MethodId} {args : Array Value} {below : List Frame} {meth : Method} {c : Code} {D : va_G} {cy : Nat → ClassId} {B : Nat} {L : List Nat} {K : KT} {P : PT} {J : IT} {res : Int} {I : IT} (C0 : FC D cy B p s m meth c "RejudgeHall" cX7_lowestHidden 6) (hr : meth.sig.returnType = (some .int)) (hWT : WT K P) : ∀ n : Nat, G_X7_lowestHidden_4 p l e s m args below meth c D cy B L K P J res I (f_X7_lowestHidden_4 K P  I n)
  | 0 => by
    intro a0 x1 x2 x3 H locs ls ka0 rx1 rx2 rx3 hF hl hf
    cases hf
  | n + 1 => by
    have ih : G_X7_lowestHidden_4 p l e s m args below meth c D cy B L K P J res I (f_X7_lowestHidden_4 K P  I n)  := b_X7_lowestHidden_4 C0 hr hWT  n
    intro a0 x1 x2 x3 H locs ls ka0 rx1 rx2 rx3 hF hl hf
    rw [f_X7_lowestHidden_4] at hf
    refine lv_iload_n C0.1 C0.2.1 dX7_lowestHidden_4 rfl (lv_at hl 3 rfl) ?_
    refine lv_aload_n C0.1 C0.2.1 dX7_lowestHidden_5 rfl (lv_at hl 0 rfl) ?_
    refine fl_getr (k := 4) (t := 11) ck_8 C0 hF ka0 rfl (wt_at (k := 4) (t := 11) hWT ka0 rfl) rfl ⟨rfl, rfl⟩ aw_194 dX7_lowestHidden_6 ?_
    refine fl_ri hF (fl_runV (As := []) (rest := [iv x3]) C0 hF hl.1 ck_0 (wt_at (k := 4) (t := 11) hWT ka0 rfl) rfl (c_size l D cy B L K P J I ((P a0 4)) 11 (wt_at (k := 4) (t := 11) hWT ka0 rfl) rfl) aw_344 aw_345 aw_346 aw_51 aw_347 rfl rfl pm_size rfl rfl ⟨Nat.le_of_ble_eq_true rfl, Nat.le_of_ble_eq_true rfl⟩ rfl (Nat.le_of_ble_eq_true rfl) dX7_lowestHidden_9 ⟨Nat.le_of_ble_eq_true rfl, Nat.le_of_ble_eq_true rfl⟩) (fun H locs hF1 _ => ?_)
    refine fl_icmp_ge (tgt := 87) C0 rx3 (hF1.rI _ _) dX7_lowestHidden_12 (by decide) (fun c2 => ?_) (fun c2 => ?_)
    · replace hf := (if_pos c2).symm.trans hf
      refine lv_iload_n C0.1 C0.2.1 dX7_lowestHidden_87 rfl (lv_at hl 2 rfl) ?_
      cases hf
      exact fl_iret C0 hF1 hr rx2 rfl dX7_lowestHidden_88
    · replace hf := (if_neg c2).symm.trans hf
      refine lv_aload_n C0.1 C0.2.1 dX7_lowestHidden_15 rfl (lv_at hl 0 rfl) ?_
      refine fl_getr (k := 4) (t := 11) ck_8 C0 hF1 ka0 rfl (wt_at (k := 4) (t := 11) hWT ka0 rfl) rfl ⟨rfl, rfl⟩ aw_194 dX7_lowestHidden_16 ?_
      refine lv_iload_n C0.1 C0.2.1 dX7_lowestHidden_19 rfl (lv_at hl 3 rfl) ?_
      obtain ⟨r3, hq3, hf⟩ := bp_f hf
      have kr3 := lget_k hq3
      refine fl_rr hF1 (fl_runV (As := [iv x3]) (rest := []) C0 hF1 hl.1 ck_0 (wt_at (k := 4) (t := 11) hWT ka0 rfl) rfl (c_get l D cy B L K P J I ((P a0 4)) x3 11 1 (wt_at (k := 4) (t := 11) hWT ka0 rfl) rfl rx3 hq3) aw_348 aw_349 aw_350 aw_51 aw_351 rfl rfl pm_get rfl rfl ⟨Nat.le_of_ble_eq_true rfl, Nat.le_of_ble_eq_true rfl⟩ rfl (Nat.le_of_ble_eq_true rfl) dX7_lowestHidden_20 ⟨Nat.le_of_ble_eq_true rfl, Nat.le_of_ble_eq_true rfl⟩) (fun H locs hF3 => ?_)
      refine fl_cast ck_1 C0 hF3 kr3 rfl aw_362 dX7_lowestHidden_23 ?_
      refine lv_astore (lv' := [(4, .ref r3), (0, .ref a0), (1, iv x1), (2, iv x2), (3, iv x3)]) C0.1 C0.2.1 dX7_lowestHidden_26 hl (by decide) rfl (fun ls hl => ?_)
      refine lv_aload C0.1 C0.2.1 dX7_lowestHidden_28 (lv_at hl 0 rfl) ?_
      refine fl_getiN (k := 0) ck_1 C0 hF3 kr3 rfl ⟨rfl, rfl⟩ aw_749 dX7_lowestHidden_30 ?_
      refine lv_iload_n C0.1 C0.2.1 dX7_lowestHidden_33 rfl (lv_at hl 2 rfl) ?_
      refine fl_icmp_ne (tgt := 81) C0 (hF3.rI _ _) rx1 dX7_lowestHidden_34 (by decide) (fun c4 => ?_) (fun c4 => ?_)
      · replace hf := (if_neg c4).symm.trans hf
        exact b_X7_lowestHidden_81 C0 hr hWT ih  a0 x1 x2 x3 _ _ _ ka0 rx1 rx2 rx3 hF3 (lv_sub hl [1, 2, 3, 4] rfl) hf
      · replace hf := (if_pos c4).symm.trans hf
        refine lv_aload C0.1 C0.2.1 dX7_lowestHidden_37 (lv_at hl 0 rfl) ?_
        obtain ⟨r5, hq5, hf⟩ := bp_f hf
        refine fl_ri hF3 (fl_runN (As := []) (rest := []) C0 hF3 hl.1 ck_1 kr3 rfl (c_X0_waits l D cy B L K P J hWT I r3 kr3 hq5) aw_363 aw_365 aw_3 aw_67 aw_367 rfl pm_X0_waits rfl rfl ⟨Nat.le_of_ble_eq_true rfl, Nat.le_of_ble_eq_true rfl⟩ rfl (Nat.le_of_ble_eq_true rfl) dX7_lowestHidden_39 ⟨Nat.le_of_ble_eq_true rfl, Nat.le_of_ble_eq_true rfl⟩) (fun H locs hF5 rr5 => ?_)
        refine fl_if_ne (tgt := 81) C0 rr5 dX7_lowestHidden_42 (by decide) (fun c6 => ?_) (fun c6 => ?_)
        · replace hf := (if_neg c6).symm.trans hf
          exact b_X7_lowestHidden_81 C0 hr hWT ih  a0 x1 x2 x3 _ _ _ ka0 rx1 rx2 rx3 hF5 (lv_sub hl [1, 2, 3, 4] rfl) hf
        · replace hf := (if_pos c6).symm.trans hf
          refine lv_aload_n C0.1 C0.2.1 dX7_lowestHidden_45 rfl (lv_at hl 1 rfl) ?_
          refine lv_aload C0.1 C0.2.1 dX7_lowestHidden_46 (lv_at hl 0 rfl) ?_
          obtain ⟨r7, hq7, hf⟩ := bp_f hf
          refine fl_ri hF5 (fl_runV (As := [.ref r3]) (rest := []) C0 hF5 hl.1 ck_8 ka0 rfl (c_X7_isHidden l D cy B L K P J hWT I a0 r3 ka0 kr3 hq7) aw_516 aw_518 aw_27 aw_45 aw_519 rfl rfl pm_X7_isHidden rfl rfl ⟨Nat.le_of_ble_eq_true rfl, Nat.le_of_ble_eq_true rfl⟩ rfl (Nat.le_of_ble_eq_true rfl) dX7_lowestHidden_48 ⟨Nat.le_of_ble_eq_true rfl, Nat.le_of_ble_eq_true rfl⟩) (fun H locs hF7 rr7 => ?_)
          refine fl_if_eq (tgt := 81) C0 rr7 dX7_lowestHidden_51 (by decide) (fun c8 => ?_) (fun c8 => ?_)
          · replace hf := (if_pos c8).symm.trans hf
            exact b_X7_lowestHidden_81 C0 hr hWT ih  a0 x1 x2 x3 _ _ _ ka0 rx1 rx2 rx3 hF7 (lv_sub hl [1, 2, 3, 4] rfl) hf
          · replace hf := (if_neg c8).symm.trans hf
            refine lv_aload C0.1 C0.2.1 dX7_lowestHidden_54 (lv_at hl 0 rfl) ?_
            refine fl_getrN (k := 1) (t := 3) ck_1 C0 hF7 kr3 rfl (wt_at (k := 1) (t := 3) hWT kr3 rfl) rfl ⟨rfl, rfl⟩ aw_752 dX7_lowestHidden_56 ?_
            refine fl_getiN (k := 0) ck_3 C0 hF7 (wt_at (k := 1) (t := 3) hWT kr3 rfl) rfl ⟨rfl, rfl⟩ aw_585 dX7_lowestHidden_59 ?_
            refine lv_istore (lv' := [(5, iv (I ((P r3 1)) 0)), (4, .ref r3), (0, .ref a0), (1, iv x1), (2, iv x2), (3, iv x3)]) C0.1 C0.2.1 dX7_lowestHidden_62 hl (by decide) rfl (fun ls hl => ?_)
            refine lv_iload_n C0.1 C0.2.1 dX7_lowestHidden_64 rfl (lv_at hl 4 rfl) ?_
            refine fl_iconst C0 dX7_lowestHidden_65 ?_
            refine fl_icmp_ne (tgt := 74) C0 rx2 (rgk (-1) rfl) dX7_lowestHidden_66 (by decide) (fun c9 => ?_) (fun c9 => ?_)
            · replace hf := (if_neg c9).symm.trans hf
              refine lv_iload_n C0.1 C0.2.1 dX7_lowestHidden_74 rfl (lv_at hl 4 rfl) ?_
              refine lv_iload C0.1 C0.2.1 dX7_lowestHidden_75 (lv_at hl 0 rfl) ?_
              refine fl_min C0 hl.1 rx2 (hF7.rI _ _) aw_500 (Nat.le_of_ble_eq_true rfl) (Nat.le_of_ble_eq_true rfl) (Nat.le_of_ble_eq_true rfl) (Nat.le_of_ble_eq_true rfl) dX7_lowestHidden_77 ?_
              exact b_X7_lowestHidden_80 C0 hr hWT ih  a0 x1 x3 ((imin x2 ((I ((P r3 1)) 0)))) _ _ _ ka0 rx1 rx3 ((rg_imin rx2 (hF7.rI _ _))) hF7 (lv_sub hl [2, 3, 5] rfl) hf
            · replace hf := (if_pos c9).symm.trans hf
              refine lv_iload C0.1 C0.2.1 dX7_lowestHidden_69 (lv_at hl 0 rfl) ?_
              refine fl_goto (tgt := 80) C0 dX7_lowestHidden_71 (by decide) ?_
              exact b_X7_lowestHidden_80 C0 hr hWT ih  a0 x1 x3 ((I ((P r3 1)) 0)) _ _ _ ka0 rx1 rx3 ((hF7.rI _ _)) hF7 (lv_sub hl [2, 3, 5] rfl) hf
theorem pm_X7_lowestHidden : plainM yX7_lowestHidden 1 := by decide +kernel
set_option maxRecDepth 100000 in
set_option maxHeartbeats 4000000 in
theorem c_X7_lowestHidden (l : Launch) (D : va_G) (cy : Nat → ClassId) (B : Nat) (L : List Nat) (K : KT) (P : PT) (J : IT) (hWT : WT K P) (I : IT) (a0 : Nat) (x1 : Int) (ka0 : K a0 = 8) (rx1 : rg x1) {r : Int} (hf : f_X7_lowestHidden K P I a0 x1 = some r) : Met l yX7_lowestHidden [.code yX7_lowestHidden cX7_lowestHidden 6 (some .int)] rm_X7_lowestHidden (va_Pc [.ref a0, iv x1] (FW D cy B L K P J I)) (QI D cy B L K P J (r, I)) 0 0 (fun q => B ≤ q) := by
  refine fl_body (own := "RejudgeHall") [.ref a0, iv x1] (by decide) rfl (Nat.le_of_ble_eq_true rfl) ?_
  intro p e s m args below meth c ls C0 hr hF hl
  have hl : lv_has ls 6 [(0, .ref a0), (1, iv x1)] := hl
  unfold f_X7_lowestHidden at hf
  refine fl_iconst C0 dX7_lowestHidden_0 ?_
  refine lv_istore_n (lv' := [(2, iv (-1)), (0, .ref a0), (1, iv x1)]) C0.1 C0.2.1 dX7_lowestHidden_1 rfl hl (by decide) rfl (fun ls hl => ?_)
  refine fl_iconst C0 dX7_lowestHidden_2 ?_
  refine lv_istore_n (lv' := [(3, iv 0), (2, iv (-1)), (0, .ref a0), (1, iv x1)]) C0.1 C0.2.1 dX7_lowestHidden_3 rfl hl (by decide) rfl (fun ls hl => ?_)
  exact b_X7_lowestHidden_4 C0 hr hWT  FU  a0 x1 ((-1)) 0 _ _ _ ka0 rx1 ((rgk (-1) rfl)) ((rgk 0 rfl)) hF (lv_sub hl [2, 3, 1, 0] rfl) hf
-- RejudgeHall.clear()I
abbrev rm_X7_clear : Room := { frames := 0, cells := 0, slots := 0, locals := 0 }
def f_X7_clear (K : KT) (P : PT) (I : IT) (a0 : Nat) : Option (Int × IT) := bnd (up I ((P a0 0)) 2 0) fun I1 => bnd (up I1 ((P a0 1)) 1 0) fun I2 => some ((I ((P a0 0)) 2), I2)
theorem pm_X7_clear : plainM yX7_clear 0 := by decide +kernel
set_option maxRecDepth 100000 in
set_option maxHeartbeats 4000000 in
theorem c_X7_clear (l : Launch) (D : va_G) (cy : Nat → ClassId) (B : Nat) (L : List Nat) (K : KT) (P : PT) (J : IT) (hWT : WT K P) (I : IT) (a0 : Nat) (ka0 : K a0 = 8) {r : Int} {I' : IT} (hf : f_X7_clear K P I a0 = some (r, I')) : Met l yX7_clear [.code yX7_clear cX7_clear 2 (some .int)] rm_X7_clear (va_Pc [.ref a0] (FW D cy B L K P J I)) (QI D cy B L K P J (r, I')) 0 0 (fun q => B ≤ q) := by
  refine fl_body (own := "RejudgeHall") [.ref a0] (by decide) rfl (Nat.le_of_ble_eq_true rfl) ?_
  intro p e s m args below meth c ls C0 hr hF hl
  have hl : lv_has ls 2 [(0, .ref a0)] := hl
  unfold f_X7_clear at hf
  refine lv_aload_n C0.1 C0.2.1 dX7_clear_0 rfl (lv_at hl 0 rfl) ?_
  refine fl_getr (k := 0) (t := 4) ck_8 C0 hF ka0 rfl (wt_at (k := 0) (t := 4) hWT ka0 rfl) rfl ⟨rfl, rfl⟩ aw_190 dX7_clear_1 ?_
  refine fl_getiN (k := 2) ck_4 C0 hF (wt_at (k := 0) (t := 4) hWT ka0 rfl) rfl ⟨rfl, rfl⟩ aw_87 dX7_clear_4 ?_
  refine lv_istore_n (lv' := [(1, iv (I ((P a0 0)) 2)), (0, .ref a0)]) C0.1 C0.2.1 dX7_clear_7 rfl hl (by decide) rfl (fun ls hl => ?_)
  refine lv_aload_n C0.1 C0.2.1 dX7_clear_8 rfl (lv_at hl 1 rfl) ?_
  refine fl_getr (k := 0) (t := 4) ck_8 C0 hF ka0 rfl (wt_at (k := 0) (t := 4) hWT ka0 rfl) rfl ⟨rfl, rfl⟩ aw_190 dX7_clear_9 ?_
  refine fl_iconst C0 dX7_clear_12 ?_
  refine fl_putiN (k := 2) ck_4 C0 hF (wt_at (k := 0) (t := 4) hWT ka0 rfl) rfl (rgk 0 rfl) ⟨rfl, rfl, rfl⟩ aw_87 dX7_clear_13 (fun H locs hF1 => ?_)
  obtain ⟨I1, eI1, hf⟩ := bnd_f hf
  rw [eI1] at hF1
  refine lv_aload_n C0.1 C0.2.1 dX7_clear_16 rfl (lv_at hl 1 rfl) ?_
  refine fl_getr (k := 1) (t := 5) ck_8 C0 hF1 ka0 rfl (wt_at (k := 1) (t := 5) hWT ka0 rfl) rfl ⟨rfl, rfl⟩ aw_191 dX7_clear_17 ?_
  refine fl_iconst C0 dX7_clear_20 ?_
  refine fl_putiN (k := 1) ck_5 C0 hF1 (wt_at (k := 1) (t := 5) hWT ka0 rfl) rfl (rgk 0 rfl) ⟨rfl, rfl, rfl⟩ aw_106 dX7_clear_21 (fun H locs hF2 => ?_)
  obtain ⟨I2, eI2, hf⟩ := bnd_f hf
  rw [eI2] at hF2
  refine lv_iload_n C0.1 C0.2.1 dX7_clear_24 rfl (lv_at hl 0 rfl) ?_
  cases hf
  exact fl_iret C0 hF2 hr (hF.rI _ _) rfl dX7_clear_25
-- RejudgeHall.judge()I
abbrev rm_X7_judge : Room := { frames := 6, cells := 0, slots := 0, locals := 147 }
def f_X7_judge_70 (K : KT) (P : PT) (k6 : IT → Nat → Int → Int → Int → Option (Int × IT)) (I : IT) (a0 : Nat) (x1 : Int) (x2 : Int) (x3 : Int) : Option (Int × IT) := k6 I a0 x1 x2 ((wr (x3 + 1)))
def f_X7_judge_57 (K : KT) (P : PT) (k6 : IT → Nat → Int → Int → Int → Option (Int × IT)) (I : IT) (a0 : Nat) (x3 : Int) (a4 : Nat) : Option (Int × IT) := ck (0 ≤ (I a4 0) ∧ (I a4 0) < 8) <| f_X7_judge_70 K P k6 I a0 x3 ((I ((P a0 6)) ((I a4 0) : Int).toNat)) x3
def f_X7_judge_76 (K : KT) (P : PT) (I : IT) (a0 : Nat) (x1 : Int) : Option (Int × IT) := if x1 = (-1) then (some (x1, I)) else (bp (lgetf K P I ((P a0 4)) x1 1) fun r9 => bp (f_X7_giveVerdict K P I a0 r9) fun I10 => some (x1, I10))
def f_X7_judge_6 (K : KT) (P : PT) : Nat → IT → Nat → Int → Int → Int → Option (Int × IT)
  | 0, _, _, _, _, _ => none
  | n + 1, I, a0, x1, x2, x3 => if (I ((P a0 4)) 2) ≤ x3 then (f_X7_judge_76 K P  I a0 x1) else (bp (lgetf K P I ((P a0 4)) x3 1) fun r3 => bp (f_X0_waits K P I r3) fun r4 => if r4 = 0 then (f_X7_judge_70 K P ((f_X7_judge_6 K P  n)) I a0 x1 x2 x3) else (if x1 = (-1) then (f_X7_judge_57 K P ((f_X7_judge_6 K P  n)) I a0 x3 r3) else (ck (0 ≤ (I r3 0) ∧ (I r3 0) < 8) <| if x2 ≤ (I ((P a0 6)) ((I r3 0) : Int).toNat) then (f_X7_judge_70 K P ((f_X7_judge_6 K P  n)) I a0 x1 x2 x3) else (f_X7_judge_57 K P ((f_X7_judge_6 K P  n)) I a0 x3 r3))))
def f_X7_judge (K : KT) (P : PT) (I : IT) (a0 : Nat) : Option (Int × IT) := f_X7_judge_6 K P  FU I a0 ((-1)) 0 0
abbrev G_X7_judge_70 (p : Program) (l : Launch) (e : Env) (s : State) (m : MethodId) (args : Array Value) (below : List Frame) (meth : Method) (c : Code) (D : va_G) (cy : Nat → ClassId) (B : Nat) (L : List Nat) (K : KT) (P : PT) (J : IT) (res : Int × IT) (f : IT → Nat → Int → Int → Int → Option (Int × IT)) : Prop := ∀ (I : IT) (a0 : Nat) (x1 : Int) (x2 : Int) (x3 : Int) (H : Heap) (locs : List Loc) (ls : Array Slot), K a0 = 8 → rg x1 → rg x2 → rg x3 → FS D cy B L K P J s.heap I H locs → lv_has ls 5 [(0, .ref a0), (1, iv x1), (2, iv x2), (3, iv x3)] → f I a0 x1 x2 x3 = some res → W p l e rm_X7_judge s m args below meth c H locs 0 0 (MQ below (QI D cy B L K P J res) args s 0 0 (fun q => B ≤ q)) (F0 m 70 ls [])
abbrev G_X7_judge_57 (p : Program) (l : Launch) (e : Env) (s : State) (m : MethodId) (args : Array Value) (below : List Frame) (meth : Method) (c : Code) (D : va_G) (cy : Nat → ClassId) (B : Nat) (L : List Nat) (K : KT) (P : PT) (J : IT) (res : Int × IT) (f : IT → Nat → Int → Nat → Option (Int × IT)) : Prop := ∀ (I : IT) (a0 : Nat) (x3 : Int) (a4 : Nat) (H : Heap) (locs : List Loc) (ls : Array Slot), K a0 = 8 → rg x3 → K a4 = 1 → FS D cy B L K P J s.heap I H locs → lv_has ls 5 [(0, .ref a0), (3, iv x3), (4, .ref a4)] → f I a0 x3 a4 = some res → W p l e rm_X7_judge s m args below meth c H locs 0 0 (MQ below (QI D cy B L K P J res) args s 0 0 (fun q => B ≤ q)) (F0 m 57 ls [])
abbrev G_X7_judge_76 (p : Program) (l : Launch) (e : Env) (s : State) (m : MethodId) (args : Array Value) (below : List Frame) (meth : Method) (c : Code) (D : va_G) (cy : Nat → ClassId) (B : Nat) (L : List Nat) (K : KT) (P : PT) (J : IT) (res : Int × IT) (f : IT → Nat → Int → Option (Int × IT)) : Prop := ∀ (I : IT) (a0 : Nat) (x1 : Int) (H : Heap) (locs : List Loc) (ls : Array Slot), K a0 = 8 → rg x1 → FS D cy B L K P J s.heap I H locs → lv_has ls 5 [(0, .ref a0), (1, iv x1)] → f I a0 x1 = some res → W p l e rm_X7_judge s m args below meth c H locs 0 0 (MQ below (QI D cy B L K P J res) args s 0 0 (fun q => B ≤ q)) (F0 m 76 ls [])
abbrev G_X7_judge_6 (p : Program) (l : Launch) (e : Env) (s : State) (m : MethodId) (args : Array Value) (below : List Frame) (meth : Method) (c : Code) (D : va_G) (cy : Nat → ClassId) (B : Nat) (L : List Nat) (K : KT) (P : PT) (J : IT) (res : Int × IT) (f : IT → Nat → Int → Int → Int → Option (Int × IT)) : Prop := ∀ (I : IT) (a0 : Nat) (x1 : Int) (x2 : Int) (x3 : Int) (H : Heap) (locs : List Loc) (ls : Array Slot), K a0 = 8 → rg x1 → rg x2 → rg x3 → FS D cy B L K P J s.heap I H locs → lv_has ls 5 [(0, .ref a0), (1, iv x1), (2, iv x2), (3, iv x3)] → f I a0 x1 x2 x3 = some res → W p l e rm_X7_judge s m args below meth c H locs 0 0 (MQ below (QI D cy B L K P J res) args s 0 0 (fun q => B ≤ q)) (F0 m 6 ls [])
set_option maxRecDepth 100000 in
set_option maxHeartbeats 4000000 in
theorem b_X7_judge_70 {p : Program} {l : Launch} {e : Env} {s : State} {m : MethodId} {args : Array Value} {below : List Frame} {meth : Method} {c : Code} {D : va_G} {cy : Nat → ClassId} {B : Nat} {L : List Nat} {K : KT} {P : PT} {J : IT} {res : Int × IT} (C0 : FC D cy B p s m meth c "RejudgeHall" cX7_judge 5) (hr : meth.sig.returnType = (some .int)) (hWT : WT K P) {k6 : IT → Nat → Int → Int → Int → Option (Int × IT)} (hk6 : G_X7_judge_6 p l e s m args below meth c D cy B L K P J res k6) : G_X7_judge_70 p l e s m args below meth c D cy B L K P J res (f_X7_judge_70 K P k6) := by
  intro I a0 x1 x2 x3 H locs ls ka0 rx1 rx2 rx3 hF hl hf
  unfold f_X7_judge_70 at hf
  refine fl_iinc (lv' := [(3, iv (wr (x3 + 1))), (0, .ref a0), (1, iv x1), (2, iv x2)]) C0 dX7_judge_70 hl (k := 3) rfl (by decide) rfl (fun ls hl => ?_)
  refine fl_goto (tgt := 6) C0 dX7_judge_73 (by decide) ?_
  exact hk6 I a0 x1 x2 ((wr (x3 + 1))) _ _ _ ka0 rx1 rx2 ((rg_wr _)) hF (lv_sub hl [1, 2, 3, 0] rfl) hf
set_option maxRecDepth 100000 in
set_option maxHeartbeats 4000000 in
theorem b_X7_judge_57 {p : Program} {l : Launch} {e : Env} {s : State} {m : MethodId} {args : Array Value} {below : List Frame} {meth : Method} {c : Code} {D : va_G} {cy : Nat → ClassId} {B : Nat} {L : List Nat} {K : KT} {P : PT} {J : IT} {res : Int × IT} (C0 : FC D cy B p s m meth c "RejudgeHall" cX7_judge 5) (hr : meth.sig.returnType = (some .int)) (hWT : WT K P) {k6 : IT → Nat → Int → Int → Int → Option (Int × IT)} (hk6 : G_X7_judge_6 p l e s m args below meth c D cy B L K P J res k6) : G_X7_judge_57 p l e s m args below meth c D cy B L K P J res (f_X7_judge_57 K P k6) := by
  intro I a0 x3 a4 H locs ls ka0 rx3 ka4 hF hl hf
  unfold f_X7_judge_57 at hf
  refine lv_iload_n C0.1 C0.2.1 dX7_judge_57 rfl (lv_at hl 1 rfl) ?_
  refine lv_istore_n (lv' := [(1, iv x3), (0, .ref a0), (3, iv x3), (4, .ref a4)]) C0.1 C0.2.1 dX7_judge_58 rfl hl (by decide) rfl (fun ls hl => ?_)
  refine lv_aload_n C0.1 C0.2.1 dX7_judge_59 rfl (lv_at hl 1 rfl) ?_
  refine fl_getr (k := 6) (t := 132) ck_8 C0 hF ka0 rfl (wt_at (k := 6) (t := 132) hWT ka0 rfl) rfl ⟨rfl, rfl⟩ aw_196 dX7_judge_60 ?_
  refine lv_aload C0.1 C0.2.1 dX7_judge_63 (lv_at hl 3 rfl) ?_
  refine fl_getiN (k := 0) ck_1 C0 hF ka4 rfl ⟨rfl, rfl⟩ aw_749 dX7_judge_65 ?_
  obtain ⟨hc, hf⟩ := ck_f hf
  refine fl_iald (n := 8) C0 hF (wt_at (k := 6) (t := 132) hWT ka0 rfl) (hF.rI _ _) hc dX7_judge_68 ?_
  refine lv_istore_n (lv' := [(2, iv (I ((P a0 6)) ((I a4 0) : Int).toNat)), (1, iv x3), (0, .ref a0), (3, iv x3), (4, .ref a4)]) C0.1 C0.2.1 dX7_judge_69 rfl hl (by decide) rfl (fun ls hl => ?_)
  exact b_X7_judge_70 C0 hr hWT hk6 I a0 x3 ((I ((P a0 6)) ((I a4 0) : Int).toNat)) x3 _ _ _ ka0 rx3 ((hF.rI _ _)) rx3 hF (lv_sub hl [2, 1, 0, 3] rfl) hf
set_option maxRecDepth 100000 in
set_option maxHeartbeats 4000000 in
theorem b_X7_judge_76 {p : Program} {l : Launch} {e : Env} {s : State} {m : MethodId} {args : Array Value} {below : List Frame} {meth : Method} {c : Code} {D : va_G} {cy : Nat → ClassId} {B : Nat} {L : List Nat} {K : KT} {P : PT} {J : IT} {res : Int × IT} (C0 : FC D cy B p s m meth c "RejudgeHall" cX7_judge 5) (hr : meth.sig.returnType = (some .int)) (hWT : WT K P) : G_X7_judge_76 p l e s m args below meth c D cy B L K P J res (f_X7_judge_76 K P ) := by
  intro I a0 x1 H locs ls ka0 rx1 hF hl hf
  unfold f_X7_judge_76 at hf
  refine lv_iload_n C0.1 C0.2.1 dX7_judge_76 rfl (lv_at hl 1 rfl) ?_
  refine fl_iconst C0 dX7_judge_77 ?_
  refine fl_icmp_eq (tgt := 96) C0 rx1 (rgk (-1) rfl) dX7_judge_78 (by decide) (fun c8 => ?_) (fun c8 => ?_)
  · replace hf := (if_pos c8).symm.trans hf
    refine lv_iload_n C0.1 C0.2.1 dX7_judge_96 rfl (lv_at hl 1 rfl) ?_
    cases hf
    exact fl_iret C0 hF hr rx1 rfl dX7_judge_97
  · replace hf := (if_neg c8).symm.trans hf
    refine lv_aload_n C0.1 C0.2.1 dX7_judge_81 rfl (lv_at hl 0 rfl) ?_
    refine lv_aload_n C0.1 C0.2.1 dX7_judge_82 rfl (lv_at hl 0 rfl) ?_
    refine fl_getr (k := 4) (t := 11) ck_8 C0 hF ka0 rfl (wt_at (k := 4) (t := 11) hWT ka0 rfl) rfl ⟨rfl, rfl⟩ aw_194 dX7_judge_83 ?_
    refine lv_iload_n C0.1 C0.2.1 dX7_judge_86 rfl (lv_at hl 1 rfl) ?_
    obtain ⟨r9, hq9, hf⟩ := bp_f hf
    have kr9 := lget_k hq9
    refine fl_rr hF (fl_runV (As := [iv x1]) (rest := [.ref a0]) C0 hF hl.1 ck_0 (wt_at (k := 4) (t := 11) hWT ka0 rfl) rfl (c_get l D cy B L K P J I ((P a0 4)) x1 11 1 (wt_at (k := 4) (t := 11) hWT ka0 rfl) rfl rx1 hq9) aw_348 aw_349 aw_350 aw_51 aw_351 rfl rfl pm_get rfl rfl ⟨Nat.le_of_ble_eq_true rfl, Nat.le_of_ble_eq_true rfl⟩ rfl (Nat.le_of_ble_eq_true rfl) dX7_judge_87 ⟨Nat.le_of_ble_eq_true rfl, Nat.le_of_ble_eq_true rfl⟩) (fun H locs hF9 => ?_)
    refine fl_cast ck_1 C0 hF9 kr9 rfl aw_362 dX7_judge_90 ?_
    obtain ⟨I10, hq10, hf⟩ := bp_f hf
    refine fl_rv hF9 (fl_runV (As := [.ref r9]) (rest := []) C0 hF9 hl.1 ck_8 ka0 rfl (c_X7_giveVerdict l D cy B L K P J hWT I a0 r9 ka0 kr9 hq10) aw_368 aw_370 aw_4 aw_45 aw_371 rfl rfl pm_X7_giveVerdict rfl rfl ⟨Nat.le_of_ble_eq_true rfl, Nat.le_of_ble_eq_true rfl⟩ rfl (Nat.le_of_ble_eq_true rfl) dX7_judge_93 ⟨Nat.le_of_ble_eq_true rfl, Nat.le_of_ble_eq_true rfl⟩) (fun H locs hF10 => ?_)
    refine lv_iload_n C0.1 C0.2.1 dX7_judge_96 rfl (lv_at hl 1 rfl) ?_
    cases hf
    exact fl_iret C0 hF10 hr rx1 rfl dX7_judge_97
set_option maxRecDepth 100000 in
set_option maxHeartbeats 4000000 in
theorem b_X7_judge_6 {p : Program} {l : Launch} {e : Env} {s : State} {m : MethodId} {args : Array Value} {below : List Frame} {meth : Method} {c : Code} {D : va_G} {cy : Nat → ClassId} {B : Nat} {L : List Nat} {K : KT} {P : PT} {J : IT} {res : Int × IT} (C0 : FC D cy B p s m meth c "RejudgeHall" cX7_judge 5) (hr : meth.sig.returnType = (some .int)) (hWT : WT K P) : ∀ n : Nat, G_X7_judge_6 p l e s m args below meth c D cy B L K P J res (f_X7_judge_6 K P  n)
  | 0 => by
    intro I a0 x1 x2 x3 H locs ls ka0 rx1 rx2 rx3 hF hl hf
    cases hf
  | n + 1 => by
    have ih : G_X7_judge_6 p l e s m args below meth c D cy B L K P J res (f_X7_judge_6 K P  n)  := b_X7_judge_6 C0 hr hWT  n
    intro I a0 x1 x2 x3 H locs ls ka0 rx1 rx2 rx3 hF hl hf
    rw [f_X7_judge_6] at hf
    refine lv_iload_n C0.1 C0.2.1 dX7_judge_6 rfl (lv_at hl 3 rfl) ?_
    refine lv_aload_n C0.1 C0.2.1 dX7_judge_7 rfl (lv_at hl 0 rfl) ?_
    refine fl_getr (k := 4) (t := 11) ck_8 C0 hF ka0 rfl (wt_at (k := 4) (t := 11) hWT ka0 rfl) rfl ⟨rfl, rfl⟩ aw_194 dX7_judge_8 ?_
    refine fl_ri hF (fl_runV (As := []) (rest := [iv x3]) C0 hF hl.1 ck_0 (wt_at (k := 4) (t := 11) hWT ka0 rfl) rfl (c_size l D cy B L K P J I ((P a0 4)) 11 (wt_at (k := 4) (t := 11) hWT ka0 rfl) rfl) aw_344 aw_345 aw_346 aw_51 aw_347 rfl rfl pm_size rfl rfl ⟨Nat.le_of_ble_eq_true rfl, Nat.le_of_ble_eq_true rfl⟩ rfl (Nat.le_of_ble_eq_true rfl) dX7_judge_11 ⟨Nat.le_of_ble_eq_true rfl, Nat.le_of_ble_eq_true rfl⟩) (fun H locs hF1 _ => ?_)
    refine fl_icmp_ge (tgt := 76) C0 rx3 (hF1.rI _ _) dX7_judge_14 (by decide) (fun c2 => ?_) (fun c2 => ?_)
    · replace hf := (if_pos c2).symm.trans hf
      exact b_X7_judge_76 C0 hr hWT  I a0 x1 _ _ _ ka0 rx1 hF1 (lv_sub hl [0, 1] rfl) hf
    · replace hf := (if_neg c2).symm.trans hf
      refine lv_aload_n C0.1 C0.2.1 dX7_judge_17 rfl (lv_at hl 0 rfl) ?_
      refine fl_getr (k := 4) (t := 11) ck_8 C0 hF1 ka0 rfl (wt_at (k := 4) (t := 11) hWT ka0 rfl) rfl ⟨rfl, rfl⟩ aw_194 dX7_judge_18 ?_
      refine lv_iload_n C0.1 C0.2.1 dX7_judge_21 rfl (lv_at hl 3 rfl) ?_
      obtain ⟨r3, hq3, hf⟩ := bp_f hf
      have kr3 := lget_k hq3
      refine fl_rr hF1 (fl_runV (As := [iv x3]) (rest := []) C0 hF1 hl.1 ck_0 (wt_at (k := 4) (t := 11) hWT ka0 rfl) rfl (c_get l D cy B L K P J I ((P a0 4)) x3 11 1 (wt_at (k := 4) (t := 11) hWT ka0 rfl) rfl rx3 hq3) aw_348 aw_349 aw_350 aw_51 aw_351 rfl rfl pm_get rfl rfl ⟨Nat.le_of_ble_eq_true rfl, Nat.le_of_ble_eq_true rfl⟩ rfl (Nat.le_of_ble_eq_true rfl) dX7_judge_22 ⟨Nat.le_of_ble_eq_true rfl, Nat.le_of_ble_eq_true rfl⟩) (fun H locs hF3 => ?_)
      refine fl_cast ck_1 C0 hF3 kr3 rfl aw_362 dX7_judge_25 ?_
      refine lv_astore (lv' := [(4, .ref r3), (0, .ref a0), (1, iv x1), (2, iv x2), (3, iv x3)]) C0.1 C0.2.1 dX7_judge_28 hl (by decide) rfl (fun ls hl => ?_)
      refine lv_aload C0.1 C0.2.1 dX7_judge_30 (lv_at hl 0 rfl) ?_
      obtain ⟨r4, hq4, hf⟩ := bp_f hf
      refine fl_ri hF3 (fl_runN (As := []) (rest := []) C0 hF3 hl.1 ck_1 kr3 rfl (c_X0_waits l D cy B L K P J hWT I r3 kr3 hq4) aw_363 aw_365 aw_3 aw_67 aw_367 rfl pm_X0_waits rfl rfl ⟨Nat.le_of_ble_eq_true rfl, Nat.le_of_ble_eq_true rfl⟩ rfl (Nat.le_of_ble_eq_true rfl) dX7_judge_32 ⟨Nat.le_of_ble_eq_true rfl, Nat.le_of_ble_eq_true rfl⟩) (fun H locs hF4 rr4 => ?_)
      refine fl_if_eq (tgt := 70) C0 rr4 dX7_judge_35 (by decide) (fun c5 => ?_) (fun c5 => ?_)
      · replace hf := (if_pos c5).symm.trans hf
        exact b_X7_judge_70 C0 hr hWT ih I a0 x1 x2 x3 _ _ _ ka0 rx1 rx2 rx3 hF4 (lv_sub hl [1, 2, 3, 4] rfl) hf
      · replace hf := (if_neg c5).symm.trans hf
        refine lv_iload_n C0.1 C0.2.1 dX7_judge_38 rfl (lv_at hl 2 rfl) ?_
        refine fl_iconst C0 dX7_judge_39 ?_
        refine fl_icmp_eq (tgt := 57) C0 rx1 (rgk (-1) rfl) dX7_judge_40 (by decide) (fun c6 => ?_) (fun c6 => ?_)
        · replace hf := (if_pos c6).symm.trans hf
          exact b_X7_judge_57 C0 hr hWT ih I a0 x3 r3 _ _ _ ka0 rx3 kr3 hF4 (lv_sub hl [1, 4, 0] rfl) hf
        · replace hf := (if_neg c6).symm.trans hf
          refine lv_aload_n C0.1 C0.2.1 dX7_judge_43 rfl (lv_at hl 1 rfl) ?_
          refine fl_getr (k := 6) (t := 132) ck_8 C0 hF4 ka0 rfl (wt_at (k := 6) (t := 132) hWT ka0 rfl) rfl ⟨rfl, rfl⟩ aw_196 dX7_judge_44 ?_
          refine lv_aload C0.1 C0.2.1 dX7_judge_47 (lv_at hl 0 rfl) ?_
          refine fl_getiN (k := 0) ck_1 C0 hF4 kr3 rfl ⟨rfl, rfl⟩ aw_749 dX7_judge_49 ?_
          obtain ⟨hc, hf⟩ := ck_f hf
          refine fl_iald (n := 8) C0 hF4 (wt_at (k := 6) (t := 132) hWT ka0 rfl) (hF4.rI _ _) hc dX7_judge_52 ?_
          refine lv_iload_n C0.1 C0.2.1 dX7_judge_53 rfl (lv_at hl 3 rfl) ?_
          refine fl_icmp_ge (tgt := 70) C0 (hF4.rI _ _) rx2 dX7_judge_54 (by decide) (fun c7 => ?_) (fun c7 => ?_)
          · replace hf := (if_pos c7).symm.trans hf
            exact b_X7_judge_70 C0 hr hWT ih I a0 x1 x2 x3 _ _ _ ka0 rx1 rx2 rx3 hF4 (lv_sub hl [1, 2, 3, 4] rfl) hf
          · replace hf := (if_neg c7).symm.trans hf
            exact b_X7_judge_57 C0 hr hWT ih I a0 x3 r3 _ _ _ ka0 rx3 kr3 hF4 (lv_sub hl [1, 4, 0] rfl) hf
theorem pm_X7_judge : plainM yX7_judge 0 := by decide +kernel
set_option maxRecDepth 100000 in
set_option maxHeartbeats 4000000 in
theorem c_X7_judge (l : Launch) (D : va_G) (cy : Nat → ClassId) (B : Nat) (L : List Nat) (K : KT) (P : PT) (J : IT) (hWT : WT K P) (I : IT) (a0 : Nat) (ka0 : K a0 = 8) {r : Int} {I' : IT} (hf : f_X7_judge K P I a0 = some (r, I')) : Met l yX7_judge [.code yX7_judge cX7_judge 5 (some .int)] rm_X7_judge (va_Pc [.ref a0] (FW D cy B L K P J I)) (QI D cy B L K P J (r, I')) 0 0 (fun q => B ≤ q) := by
  refine fl_body (own := "RejudgeHall") [.ref a0] (by decide) rfl (Nat.le_of_ble_eq_true rfl) ?_
  intro p e s m args below meth c ls C0 hr hF hl
  have hl : lv_has ls 5 [(0, .ref a0)] := hl
  unfold f_X7_judge at hf
  refine fl_iconst C0 dX7_judge_0 ?_
  refine lv_istore_n (lv' := [(1, iv (-1)), (0, .ref a0)]) C0.1 C0.2.1 dX7_judge_1 rfl hl (by decide) rfl (fun ls hl => ?_)
  refine fl_iconst C0 dX7_judge_2 ?_
  refine lv_istore_n (lv' := [(2, iv 0), (1, iv (-1)), (0, .ref a0)]) C0.1 C0.2.1 dX7_judge_3 rfl hl (by decide) rfl (fun ls hl => ?_)
  refine fl_iconst C0 dX7_judge_4 ?_
  refine lv_istore_n (lv' := [(3, iv 0), (2, iv 0), (1, iv (-1)), (0, .ref a0)]) C0.1 C0.2.1 dX7_judge_5 rfl hl (by decide) rfl (fun ls hl => ?_)
  exact b_X7_judge_6 C0 hr hWT  FU I a0 ((-1)) 0 0 _ _ _ ka0 ((rgk (-1) rfl)) ((rgk 0 rfl)) ((rgk 0 rfl)) hF (lv_sub hl [3, 2, 1, 0] rfl) hf
-- RejudgeHall.reveal()I
abbrev rm_X7_reveal : Room := { frames := 4, cells := 0, slots := 0, locals := 89 }
def f_X7_reveal_53 (K : KT) (P : PT) (k19 : IT → Nat → Int → Int → Option (Int × IT)) (I : IT) (a0 : Nat) (x1 : Int) (x2 : Int) : Option (Int × IT) := k19 I a0 x1 ((wr (x2 + 1)))
def f_X7_reveal_51 (K : KT) (P : PT) (k19 : IT → Nat → Int → Int → Option (Int × IT)) (I : IT) (a0 : Nat) (x2 : Int) : Option (Int × IT) := f_X7_reveal_53 K P k19 I a0 x2 x2
def f_X7_reveal_59 (K : KT) (P : PT) (I : IT) (a0 : Nat) (x1 : Int) : Option (Int × IT) := if x1 = (-1) then (some ((-1), I)) else (bp (f_X7_lowestHidden K P I a0 x1) fun r10 => bp (f_X7_pairOf K P I x1 r10) fun r11 => ck (0 ≤ r11 ∧ r11 < 48) <| bnd (up I ((P a0 8)) (r11 : Int).toNat 1) fun I12 => some ((wr ((wr (10 * x1)) + r10)), I12))
def f_X7_reveal_19 (K : KT) (P : PT) : Nat → IT → Nat → Int → Int → Option (Int × IT)
  | 0, _, _, _, _ => none
  | n + 1, I, a0, x1, x2 => if 8 ≤ x2 then (f_X7_reveal_59 K P  I a0 x1) else (bp (f_X7_lowestHidden K P I a0 x2) fun r4 => if r4 = (-1) then (f_X7_reveal_53 K P ((f_X7_reveal_19 K P  n)) I a0 x1 x2) else (if x1 = (-1) then (f_X7_reveal_51 K P ((f_X7_reveal_19 K P  n)) I a0 x2) else (bp (f_X5_isAhead K P I ((P a0 5)) x1 x2) fun r7 => if r7 = 0 then (f_X7_reveal_53 K P ((f_X7_reveal_19 K P  n)) I a0 x1 x2) else (f_X7_reveal_51 K P ((f_X7_reveal_19 K P  n)) I a0 x2))))
def f_X7_reveal (K : KT) (P : PT) (I : IT) (a0 : Nat) : Option (Int × IT) := if (I a0 11) = (-1) then (some ((-1), I)) else (bp (f_X7_countVerdicts K P I a0 1) fun I2 => f_X7_reveal_19 K P  FU I2 a0 ((-1)) 0)
abbrev G_X7_reveal_53 (p : Program) (l : Launch) (e : Env) (s : State) (m : MethodId) (args : Array Value) (below : List Frame) (meth : Method) (c : Code) (D : va_G) (cy : Nat → ClassId) (B : Nat) (L : List Nat) (K : KT) (P : PT) (J : IT) (res : Int × IT) (f : IT → Nat → Int → Int → Option (Int × IT)) : Prop := ∀ (I : IT) (a0 : Nat) (x1 : Int) (x2 : Int) (H : Heap) (locs : List Loc) (ls : Array Slot), K a0 = 8 → rg x1 → rg x2 → FS D cy B L K P J s.heap I H locs → lv_has ls 3 [(0, .ref a0), (1, iv x1), (2, iv x2)] → f I a0 x1 x2 = some res → W p l e rm_X7_reveal s m args below meth c H locs 0 0 (MQ below (QI D cy B L K P J res) args s 0 0 (fun q => B ≤ q)) (F0 m 53 ls [])
abbrev G_X7_reveal_51 (p : Program) (l : Launch) (e : Env) (s : State) (m : MethodId) (args : Array Value) (below : List Frame) (meth : Method) (c : Code) (D : va_G) (cy : Nat → ClassId) (B : Nat) (L : List Nat) (K : KT) (P : PT) (J : IT) (res : Int × IT) (f : IT → Nat → Int → Option (Int × IT)) : Prop := ∀ (I : IT) (a0 : Nat) (x2 : Int) (H : Heap) (locs : List Loc) (ls : Array Slot), K a0 = 8 → rg x2 → FS D cy B L K P J s.heap I H locs → lv_has ls 3 [(0, .ref a0), (2, iv x2)] → f I a0 x2 = some res → W p l e rm_X7_reveal s m args below meth c H locs 0 0 (MQ below (QI D cy B L K P J res) args s 0 0 (fun q => B ≤ q)) (F0 m 51 ls [])
abbrev G_X7_reveal_59 (p : Program) (l : Launch) (e : Env) (s : State) (m : MethodId) (args : Array Value) (below : List Frame) (meth : Method) (c : Code) (D : va_G) (cy : Nat → ClassId) (B : Nat) (L : List Nat) (K : KT) (P : PT) (J : IT) (res : Int × IT) (f : IT → Nat → Int → Option (Int × IT)) : Prop := ∀ (I : IT) (a0 : Nat) (x1 : Int) (H : Heap) (locs : List Loc) (ls : Array Slot), K a0 = 8 → rg x1 → FS D cy B L K P J s.heap I H locs → lv_has ls 3 [(0, .ref a0), (1, iv x1)] → f I a0 x1 = some res → W p l e rm_X7_reveal s m args below meth c H locs 0 0 (MQ below (QI D cy B L K P J res) args s 0 0 (fun q => B ≤ q)) (F0 m 59 ls [])
abbrev G_X7_reveal_19 (p : Program) (l : Launch) (e : Env) (s : State) (m : MethodId) (args : Array Value) (below : List Frame) (meth : Method) (c : Code) (D : va_G) (cy : Nat → ClassId) (B : Nat) (L : List Nat) (K : KT) (P : PT) (J : IT) (res : Int × IT) (f : IT → Nat → Int → Int → Option (Int × IT)) : Prop := ∀ (I : IT) (a0 : Nat) (x1 : Int) (x2 : Int) (H : Heap) (locs : List Loc) (ls : Array Slot), K a0 = 8 → rg x1 → rg x2 → FS D cy B L K P J s.heap I H locs → lv_has ls 3 [(0, .ref a0), (1, iv x1), (2, iv x2)] → f I a0 x1 x2 = some res → W p l e rm_X7_reveal s m args below meth c H locs 0 0 (MQ below (QI D cy B L K P J res) args s 0 0 (fun q => B ≤ q)) (F0 m 19 ls [])
set_option maxRecDepth 100000 in
set_option maxHeartbeats 4000000 in
theorem b_X7_reveal_53 {p : Program} {l : Launch} {e : Env} {s : State} {m : MethodId} {args : Array Value} {below : List Frame} {meth : Method} {c : Code} {D : va_G} {cy : Nat → ClassId} {B : Nat} {L : List Nat} {K : KT} {P : PT} {J : IT} {res : Int × IT} (C0 : FC D cy B p s m meth c "RejudgeHall" cX7_reveal 3) (hr : meth.sig.returnType = (some .int)) (hWT : WT K P) {k19 : IT → Nat → Int → Int → Option (Int × IT)} (hk19 : G_X7_reveal_19 p l e s m args below meth c D cy B L K P J res k19) : G_X7_reveal_53 p l e s m args below meth c D cy B L K P J res (f_X7_reveal_53 K P k19) := by
  intro I a0 x1 x2 H locs ls ka0 rx1 rx2 hF hl hf
  unfold f_X7_reveal_53 at hf
  refine fl_iinc (lv' := [(2, iv (wr (x2 + 1))), (0, .ref a0), (1, iv x1)]) C0 dX7_reveal_53 hl (k := 2) rfl (by decide) rfl (fun ls hl => ?_)
  refine fl_goto (tgt := 19) C0 dX7_reveal_56 (by decide) ?_
  exact hk19 I a0 x1 ((wr (x2 + 1))) _ _ _ ka0 rx1 ((rg_wr _)) hF (lv_sub hl [1, 2, 0] rfl) hf
set_option maxRecDepth 100000 in
set_option maxHeartbeats 4000000 in
theorem b_X7_reveal_51 {p : Program} {l : Launch} {e : Env} {s : State} {m : MethodId} {args : Array Value} {below : List Frame} {meth : Method} {c : Code} {D : va_G} {cy : Nat → ClassId} {B : Nat} {L : List Nat} {K : KT} {P : PT} {J : IT} {res : Int × IT} (C0 : FC D cy B p s m meth c "RejudgeHall" cX7_reveal 3) (hr : meth.sig.returnType = (some .int)) (hWT : WT K P) {k19 : IT → Nat → Int → Int → Option (Int × IT)} (hk19 : G_X7_reveal_19 p l e s m args below meth c D cy B L K P J res k19) : G_X7_reveal_51 p l e s m args below meth c D cy B L K P J res (f_X7_reveal_51 K P k19) := by
  intro I a0 x2 H locs ls ka0 rx2 hF hl hf
  unfold f_X7_reveal_51 at hf
  refine lv_iload_n C0.1 C0.2.1 dX7_reveal_51 rfl (lv_at hl 1 rfl) ?_
  refine lv_istore_n (lv' := [(1, iv x2), (0, .ref a0), (2, iv x2)]) C0.1 C0.2.1 dX7_reveal_52 rfl hl (by decide) rfl (fun ls hl => ?_)
  exact b_X7_reveal_53 C0 hr hWT hk19 I a0 x2 x2 _ _ _ ka0 rx2 rx2 hF (lv_sub hl [1, 0, 2] rfl) hf
set_option maxRecDepth 100000 in
set_option maxHeartbeats 4000000 in
theorem b_X7_reveal_59 {p : Program} {l : Launch} {e : Env} {s : State} {m : MethodId} {args : Array Value} {below : List Frame} {meth : Method} {c : Code} {D : va_G} {cy : Nat → ClassId} {B : Nat} {L : List Nat} {K : KT} {P : PT} {J : IT} {res : Int × IT} (C0 : FC D cy B p s m meth c "RejudgeHall" cX7_reveal 3) (hr : meth.sig.returnType = (some .int)) (hWT : WT K P) : G_X7_reveal_59 p l e s m args below meth c D cy B L K P J res (f_X7_reveal_59 K P ) := by
  intro I a0 x1 H locs ls ka0 rx1 hF hl hf
  unfold f_X7_reveal_59 at hf
  refine lv_iload_n C0.1 C0.2.1 dX7_reveal_59 rfl (lv_at hl 1 rfl) ?_
  refine fl_iconst C0 dX7_reveal_60 ?_
  refine fl_icmp_ne (tgt := 66) C0 rx1 (rgk (-1) rfl) dX7_reveal_61 (by decide) (fun c9 => ?_) (fun c9 => ?_)
  · replace hf := (if_neg c9).symm.trans hf
    refine lv_aload_n C0.1 C0.2.1 dX7_reveal_66 rfl (lv_at hl 0 rfl) ?_
    refine lv_iload_n C0.1 C0.2.1 dX7_reveal_67 rfl (lv_at hl 1 rfl) ?_
    obtain ⟨r10, hq10, hf⟩ := bp_f hf
    refine fl_ri hF (fl_runV (As := [iv x1]) (rest := []) C0 hF hl.1 ck_8 ka0 rfl (c_X7_lowestHidden l D cy B L K P J hWT I a0 x1 ka0 rx1 hq10) aw_533 aw_535 aw_30 aw_45 aw_536 rfl rfl pm_X7_lowestHidden rfl rfl ⟨Nat.le_of_ble_eq_true rfl, Nat.le_of_ble_eq_true rfl⟩ rfl (Nat.le_of_ble_eq_true rfl) dX7_reveal_68 ⟨Nat.le_of_ble_eq_true rfl, Nat.le_of_ble_eq_true rfl⟩) (fun H locs hF10 rr10 => ?_)
    refine lv_istore_n (lv' := [(2, iv r10), (0, .ref a0), (1, iv x1)]) C0.1 C0.2.1 dX7_reveal_71 rfl hl (by decide) rfl (fun ls hl => ?_)
    refine lv_aload_n C0.1 C0.2.1 dX7_reveal_72 rfl (lv_at hl 1 rfl) ?_
    refine fl_getr (k := 8) (t := 293) ck_8 C0 hF10 ka0 rfl (wt_at (k := 8) (t := 293) hWT ka0 rfl) rfl ⟨rfl, rfl⟩ aw_198 dX7_reveal_73 ?_
    refine lv_iload_n C0.1 C0.2.1 dX7_reveal_76 rfl (lv_at hl 2 rfl) ?_
    refine lv_iload_n C0.1 C0.2.1 dX7_reveal_77 rfl (lv_at hl 0 rfl) ?_
    obtain ⟨r11, hq11, hf⟩ := bp_f hf
    refine fl_ri hF10 (fl_runSG (As := [iv x1, iv r10]) (rest := [.ref (P a0 8)]) C0 hF10 hl.1 (c_X7_pairOf l D cy B L K P J hWT I x1 r10 rx1 rr10 hq11) aw_524 aw_525 aw_45 aw_526 rfl pm_X7_pairOf rfl rfl ⟨Nat.le_of_ble_eq_true rfl, Nat.le_of_ble_eq_true rfl⟩ rfl (Nat.le_of_ble_eq_true rfl) dX7_reveal_78 ⟨Nat.le_of_ble_eq_true rfl, Nat.le_of_ble_eq_true rfl⟩) (fun H locs hF11 rr11 => ?_)
    refine fl_iconst C0 dX7_reveal_81 ?_
    obtain ⟨hc, hf⟩ := ck_f hf
    refine fl_zast (n := 48) C0 hF11 (wt_at (k := 8) (t := 293) hWT ka0 rfl) rr11 (Or.inr rfl) hc dX7_reveal_82 (fun H locs hF12 => ?_)
    obtain ⟨I12, eI12, hf⟩ := bnd_f hf
    rw [eI12] at hF12
    refine fl_bipush C0 dX7_reveal_83 (by decide) ?_
    refine lv_iload_n C0.1 C0.2.1 dX7_reveal_85 rfl (lv_at hl 2 rfl) ?_
    refine fl_imul C0 dX7_reveal_86 ?_
    refine lv_iload_n C0.1 C0.2.1 dX7_reveal_87 rfl (lv_at hl 0 rfl) ?_
    refine fl_iadd C0 dX7_reveal_88 ?_
    cases hf
    exact fl_iret C0 hF12 hr (rg_wr _) rfl dX7_reveal_89
  · replace hf := (if_pos c9).symm.trans hf
    refine fl_iconst C0 dX7_reveal_64 ?_
    cases hf
    exact fl_iret C0 hF hr (rgk (-1) rfl) rfl dX7_reveal_65
set_option maxRecDepth 100000 in
set_option maxHeartbeats 4000000 in
theorem b_X7_reveal_19 {p : Program} {l : Launch} {e : Env} {s : State} {m : MethodId} {args : Array Value} {below : List Frame} {meth : Method} {c : Code} {D : va_G} {cy : Nat → ClassId} {B : Nat} {L : List Nat} {K : KT} {P : PT} {J : IT} {res : Int × IT} (C0 : FC D cy B p s m meth c "RejudgeHall" cX7_reveal 3) (hr : meth.sig.returnType = (some .int)) (hWT : WT K P) : ∀ n : Nat, G_X7_reveal_19 p l e s m args below meth c D cy B L K P J res (f_X7_reveal_19 K P  n)
  | 0 => by
    intro I a0 x1 x2 H locs ls ka0 rx1 rx2 hF hl hf
    cases hf
  | n + 1 => by
    have ih : G_X7_reveal_19 p l e s m args below meth c D cy B L K P J res (f_X7_reveal_19 K P  n)  := b_X7_reveal_19 C0 hr hWT  n
    intro I a0 x1 x2 H locs ls ka0 rx1 rx2 hF hl hf
    rw [f_X7_reveal_19] at hf
    refine lv_iload_n C0.1 C0.2.1 dX7_reveal_19 rfl (lv_at hl 2 rfl) ?_
    refine fl_bipush C0 dX7_reveal_20 (by decide) ?_
    refine fl_icmp_ge (tgt := 59) C0 rx2 (rgk 8 rfl) dX7_reveal_22 (by decide) (fun c3 => ?_) (fun c3 => ?_)
    · replace hf := (if_pos c3).symm.trans hf
      exact b_X7_reveal_59 C0 hr hWT  I a0 x1 _ _ _ ka0 rx1 hF (lv_sub hl [0, 1] rfl) hf
    · replace hf := (if_neg c3).symm.trans hf
      refine lv_aload_n C0.1 C0.2.1 dX7_reveal_25 rfl (lv_at hl 0 rfl) ?_
      refine lv_iload_n C0.1 C0.2.1 dX7_reveal_26 rfl (lv_at hl 2 rfl) ?_
      obtain ⟨r4, hq4, hf⟩ := bp_f hf
      refine fl_ri hF (fl_runV (As := [iv x2]) (rest := []) C0 hF hl.1 ck_8 ka0 rfl (c_X7_lowestHidden l D cy B L K P J hWT I a0 x2 ka0 rx2 hq4) aw_533 aw_535 aw_30 aw_45 aw_536 rfl rfl pm_X7_lowestHidden rfl rfl ⟨Nat.le_of_ble_eq_true rfl, Nat.le_of_ble_eq_true rfl⟩ rfl (Nat.le_of_ble_eq_true rfl) dX7_reveal_27 ⟨Nat.le_of_ble_eq_true rfl, Nat.le_of_ble_eq_true rfl⟩) (fun H locs hF4 rr4 => ?_)
      refine fl_iconst C0 dX7_reveal_30 ?_
      refine fl_icmp_eq (tgt := 53) C0 rr4 (rgk (-1) rfl) dX7_reveal_31 (by decide) (fun c5 => ?_) (fun c5 => ?_)
      · replace hf := (if_pos c5).symm.trans hf
        exact b_X7_reveal_53 C0 hr hWT ih I a0 x1 x2 _ _ _ ka0 rx1 rx2 hF4 (lv_sub hl [0, 1, 2] rfl) hf
      · replace hf := (if_neg c5).symm.trans hf
        refine lv_iload_n C0.1 C0.2.1 dX7_reveal_34 rfl (lv_at hl 1 rfl) ?_
        refine fl_iconst C0 dX7_reveal_35 ?_
        refine fl_icmp_eq (tgt := 51) C0 rx1 (rgk (-1) rfl) dX7_reveal_36 (by decide) (fun c6 => ?_) (fun c6 => ?_)
        · replace hf := (if_pos c6).symm.trans hf
          exact b_X7_reveal_51 C0 hr hWT ih I a0 x2 _ _ _ ka0 rx2 hF4 (lv_sub hl [0, 2] rfl) hf
        · replace hf := (if_neg c6).symm.trans hf
          refine lv_aload_n C0.1 C0.2.1 dX7_reveal_39 rfl (lv_at hl 0 rfl) ?_
          refine fl_getr (k := 5) (t := 6) ck_8 C0 hF4 ka0 rfl (wt_at (k := 5) (t := 6) hWT ka0 rfl) rfl ⟨rfl, rfl⟩ aw_195 dX7_reveal_40 ?_
          refine lv_iload_n C0.1 C0.2.1 dX7_reveal_43 rfl (lv_at hl 1 rfl) ?_
          refine lv_iload_n C0.1 C0.2.1 dX7_reveal_44 rfl (lv_at hl 2 rfl) ?_
          obtain ⟨r7, hq7, hf⟩ := bp_f hf
          refine fl_ri hF4 (fl_runN (As := [iv x1, iv x2]) (rest := []) C0 hF4 hl.1 ck_6 (wt_at (k := 5) (t := 6) hWT ka0 rfl) rfl (c_X5_isAhead l D cy B L K P J hWT I ((P a0 5)) x1 x2 ((wt_at (k := 5) (t := 6) hWT ka0 rfl)) rx1 rx2 hq7) aw_537 aw_539 aw_31 aw_52 aw_540 rfl pm_X5_isAhead rfl rfl ⟨Nat.le_of_ble_eq_true rfl, Nat.le_of_ble_eq_true rfl⟩ rfl (Nat.le_of_ble_eq_true rfl) dX7_reveal_45 ⟨Nat.le_of_ble_eq_true rfl, Nat.le_of_ble_eq_true rfl⟩) (fun H locs hF7 rr7 => ?_)
          refine fl_if_eq (tgt := 53) C0 rr7 dX7_reveal_48 (by decide) (fun c8 => ?_) (fun c8 => ?_)
          · replace hf := (if_pos c8).symm.trans hf
            exact b_X7_reveal_53 C0 hr hWT ih I a0 x1 x2 _ _ _ ka0 rx1 rx2 hF7 (lv_sub hl [0, 1, 2] rfl) hf
          · replace hf := (if_neg c8).symm.trans hf
            exact b_X7_reveal_51 C0 hr hWT ih I a0 x2 _ _ _ ka0 rx2 hF7 (lv_sub hl [0, 2] rfl) hf
theorem pm_X7_reveal : plainM yX7_reveal 0 := by decide +kernel
set_option maxRecDepth 100000 in
set_option maxHeartbeats 4000000 in
theorem c_X7_reveal (l : Launch) (D : va_G) (cy : Nat → ClassId) (B : Nat) (L : List Nat) (K : KT) (P : PT) (J : IT) (hWT : WT K P) (I : IT) (a0 : Nat) (ka0 : K a0 = 8) {r : Int} {I' : IT} (hf : f_X7_reveal K P I a0 = some (r, I')) : Met l yX7_reveal [.code yX7_reveal cX7_reveal 3 (some .int)] rm_X7_reveal (va_Pc [.ref a0] (FW D cy B L K P J I)) (QI D cy B L K P J (r, I')) 0 0 (fun q => B ≤ q) := by
  refine fl_body (own := "RejudgeHall") [.ref a0] (by decide) rfl (Nat.le_of_ble_eq_true rfl) ?_
  intro p e s m args below meth c ls C0 hr hF hl
  have hl : lv_has ls 3 [(0, .ref a0)] := hl
  unfold f_X7_reveal at hf
  refine lv_aload_n C0.1 C0.2.1 dX7_reveal_0 rfl (lv_at hl 0 rfl) ?_
  refine fl_geti (k := 11) ck_8 C0 hF ka0 rfl ⟨rfl, rfl⟩ aw_201 dX7_reveal_1 ?_
  refine fl_iconst C0 dX7_reveal_4 ?_
  refine fl_icmp_ne (tgt := 10) C0 (hF.rI _ _) (rgk (-1) rfl) dX7_reveal_5 (by decide) (fun c1 => ?_) (fun c1 => ?_)
  · replace hf := (if_neg c1).symm.trans hf
    refine lv_aload_n C0.1 C0.2.1 dX7_reveal_10 rfl (lv_at hl 0 rfl) ?_
    refine fl_iconst C0 dX7_reveal_11 ?_
    obtain ⟨I2, hq2, hf⟩ := bp_f hf
    refine fl_rv hF (fl_runV (As := [iv 1]) (rest := []) C0 hF hl.1 ck_8 ka0 rfl (c_X7_countVerdicts l D cy B L K P J hWT I a0 1 ka0 ((rgk 1 rfl)) hq2) aw_507 aw_509 aw_25 aw_45 aw_510 rfl rfl pm_X7_countVerdicts rfl rfl ⟨Nat.le_of_ble_eq_true rfl, Nat.le_of_ble_eq_true rfl⟩ rfl (Nat.le_of_ble_eq_true rfl) dX7_reveal_12 ⟨Nat.le_of_ble_eq_true rfl, Nat.le_of_ble_eq_true rfl⟩) (fun H locs hF2 => ?_)
    refine fl_iconst C0 dX7_reveal_15 ?_
    refine lv_istore_n (lv' := [(1, iv (-1)), (0, .ref a0)]) C0.1 C0.2.1 dX7_reveal_16 rfl hl (by decide) rfl (fun ls hl => ?_)
    refine fl_iconst C0 dX7_reveal_17 ?_
    refine lv_istore_n (lv' := [(2, iv 0), (1, iv (-1)), (0, .ref a0)]) C0.1 C0.2.1 dX7_reveal_18 rfl hl (by decide) rfl (fun ls hl => ?_)
    exact b_X7_reveal_19 C0 hr hWT  FU I2 a0 ((-1)) 0 _ _ _ ka0 ((rgk (-1) rfl)) ((rgk 0 rfl)) hF2 (lv_sub hl [2, 1, 0] rfl) hf
  · replace hf := (if_pos c1).symm.trans hf
    refine fl_iconst C0 dX7_reveal_8 ?_
    cases hf
    exact fl_iret C0 hF hr (rgk (-1) rfl) rfl dX7_reveal_9
