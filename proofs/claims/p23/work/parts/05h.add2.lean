section MOD
variable {p : Program} {l : Launch} {e : Env} {R : Room} {s : State} {m : MethodId} {args : Array Value} {below : List Frame} {meth : Method} {c : Code} {H : Heap} {locs : List Loc} {cells slots : Nat} {Q : State → Prop}
variable {D : va_G} {cy : Nat → ClassId} {B : Nat} {L : List Nat} {K : KT} {P : PT} {J I : IT} {cc : ByteArray} {nL pc : Nat} {ls : Array Slot} {rest : List Value} {H0 : Heap} {a co : Nat} {x : Int}
theorem fl_getmod (C0 : FC D cy B p s m meth c "java/util/ArrayList" cc nL) (hF : FS D cy B L K P J H0 I H locs) (h : K a = co) (ho : gok co 0 0 false = true) (hdg : decode cc pc = .ok (.getfield 63, 3))
    (kk : W p l e R s m args below meth c H locs cells slots Q (F0 m (pc + 3) ls (iv (I a 0) :: rest))) : W p l e R s m args below meth c H locs cells slots Q (F0 m pc ls (.ref a :: rest)) := by
  obtain ⟨h1, h2, h3, h4, h5⟩ := gok_of ho
  subst h
  obtain ⟨hx, hb, -, hown, -, hFK, -⟩ := C0
  obtain ⟨k0, hk0⟩ := hF.get h1
  rw [fcell_obj h2 h3] at hk0
  exact va_get hx hb hFK.use ck_0.2.1 hown hFK.1 hF.1 k0 hk0 ck_0.1 0 h4 (hFK.use _ aw_155) (u_same (args := args) (hFK.use _ aw_156)) (by rw [fobj_at _ _ _ _ _ _ h4]; simp [fval, h5]) hdg kk
theorem fl_putmod (C0 : FC D cy B p s m meth c "java/util/ArrayList" cc nL) (hF : FS D cy B L K P J H0 I H locs) (h : K a = co) (ho : gok co 0 0 false = true) (hrx : rg x) (hdg : decode cc pc = .ok (.putfield 63, 3))
    (kk : ∀ (H1 : Heap) (locs1 : List Loc), FS D cy B L K P J H0 (up I a 0 x) H1 locs1 → W p l e R s m args below meth c H1 locs1 cells slots Q (F0 m (pc + 3) ls rest)) : W p l e R s m args below meth c H locs cells slots Q (F0 m pc ls (iv x :: .ref a :: rest)) := by
  obtain ⟨h1, h2, h3, h4, h5⟩ := gok_of ho
  subst h
  obtain ⟨hx, hb, -, hown, -, hFK, -⟩ := C0
  obtain ⟨k0, hk0⟩ := hF.get h1
  have hk1 := hk0
  rw [fcell_obj h2 h3] at hk0
  refine va_put hx hb hFK.use ck_0.2.1 _ ck_0.2.2.1 ck_0.2.2.2 hown hFK.1 hF.1 hF.2.1 hF.2.2.1 k0 hk0 ck_0.1 0 h4 (hFK.use _ aw_155) (u_same (args := args) (hFK.use _ aw_156)) rfl (ty := .int) rfl rfl rfl (by rw [fobj_len]; exact h4) hdg ?_
  intro H1 locs1 g1 g2 g3
  have hset : (fobj cy P I 0 a).set 0 (iv x) = fobj cy P (up I a 0 x) 0 a := fobj_set h4 (by simp [fval, h5, up_s]) (fun j hj => by simp [fval, up_k I a a x hj])
  have he := fl_set (g := fcell cy K P J (up I a 0 x)) hF.2.1 (hF.2.2.2.1 a h1) hk1 (fcell_obj h2 h3) (fun b hb => fcell_up hb)
  rw [hset, he] at g1 g2
  exact kk H1 locs1 ⟨g1, g2, g3, hF.2.2.2.1, hF.2.2.2.2.1, hF.2.2.2.2.2.1, rgI_up hF.2.2.2.2.2.2 a 0 hrx⟩
end MOD
section ADD3
variable (l : Launch) (D : va_G) (cy : Nat → ClassId) (B : Nat) (L : List Nat) (K : KT) (P : PT) (J : IT) (I : IT)
/-- what a list's next place is made of: a row with room, the first row, or a larger one -/
def grows (L : List Nat) (K : KT) (P : PT) (I : IT) (a t : Nat) (n0 : Nat) : Prop := K (P a 1) = 102 + 4 * n0 ∧ 2 ≤ n0 ∧ n0 ≤ 1000 ∧ I a 2 = n0 ∧ ∀ j, j < n0 → P (P a 1) j = 0 ∨ K (P (P a 1) j) = t
theorem c_grow0F (a co : Nat) (ka : K a = co) (ho : cok co 0 = true) (h1 : P a 1 = 1) (hI : I a 2 = 0) :
    Met l yJx4a65c_grow_d5877 [.code yJx4a65c_grow_d5877 cJx4a65c_grow_d5877 1 (some (.array (.object "java/lang/Object")))] { frames := 4, cells := 1, slots := 2000, locals := 120 } (va_Pc [.ref a] (FW D cy B L K P J I)) (QN D cy B L J (fun q => (va_up K q 142, up (clrN P q) a 1 q, clr I q))) 1 2000 (fun q => B ≤ q) := by
  refine fl_body (own := "java/util/ArrayList") [.ref a] (by decide) rfl (Nat.le_of_ble_eq_true rfl) ?_
  intro p e s m args below meth c ls C0 hr hF hl
  have hl : lv_has ls 1 [(0, .ref a)] := hl
  refine lv_aload_n C0.1 C0.2.1 dJx4a65c_grow_d5877_0 rfl (lv_at hl 0 rfl) ?_
  refine lv_aload_n C0.1 C0.2.1 dJx4a65c_grow_d5877_1 rfl (lv_at hl 0 rfl) ?_
  refine fl_geti (k := 2) ck_0 C0 hF ka (g2_of ho) ⟨rfl, rfl⟩ aw_153 dJx4a65c_grow_d5877_2 ?_
  refine fl_iconst C0 dJx4a65c_grow_d5877_5 ?_
  refine fl_iadd C0 dJx4a65c_grow_d5877_6 ?_
  have e1 : wr (I a 2 + 1) = 1 := by rw [hI]; rfl
  rw [e1]
  refine fl_rn hF (fl_runV (As := [iv 1]) (rest := []) C0 hF hl.1 ck_0 ka ho (c_growF l D cy B L K P J I a co ka ho h1 1 (rgk 1 rfl) (by decide)) aw_632 aw_634 aw_37 aw_51 aw_635 rfl rfl pm_grow rfl rfl ⟨Nat.le_of_ble_eq_true rfl, Nat.le_of_ble_eq_true rfl⟩ rfl (Nat.le_of_ble_eq_true rfl) dJx4a65c_grow_d5877_7 ⟨Nat.le_of_ble_eq_true rfl, Nat.le_of_ble_eq_true rfl⟩) (fun q H locs hq h1q hF => ?_)
  exact fl_nret (g := fun q => (va_up K q 142, up (clrN P q) a 1 q, clr I q)) C0 hF hr hq h1q dJx4a65c_grow_d5877_10 (Nat.le_of_ble_eq_true rfl) (Nat.le_of_ble_eq_true rfl)
theorem pm_grow0 : plainM yJx4a65c_grow_d5877 0 := by decide +kernel
theorem c_grow0M (a co n0 t civ : Nat) (Cv : String) (Tv : u_T) (tyv : Nat → FieldType) (hE : Elt t civ Cv Tv tyv) (ka : K a = co) (ho : cok co 0 = true) (hg : grows L K P I a t n0) :
    Met l yJx4a65c_grow_d5877 [.code yJx4a65c_grow_d5877 cJx4a65c_grow_d5877 1 (some (.array (.object "java/lang/Object")))] { frames := 4, cells := 1, slots := 2000, locals := 120 } (va_Pc [.ref a] (FW D cy B L K P J I)) (QN D cy B L J (fun q => (va_up K q (102 + 4 * (n0 + n0 / 2)), up (cpyP (clrN P q) (P a 1) q 0 0 n0) a 1 q, clr I q))) 1 2000 (fun q => B ≤ q) := by
  obtain ⟨k0, hn1, hn2, hI, hel⟩ := hg
  refine fl_body (own := "java/util/ArrayList") [.ref a] (by decide) rfl (Nat.le_of_ble_eq_true rfl) ?_
  intro p e s m args below meth c ls C0 hr hF hl
  have hl : lv_has ls 1 [(0, .ref a)] := hl
  refine lv_aload_n C0.1 C0.2.1 dJx4a65c_grow_d5877_0 rfl (lv_at hl 0 rfl) ?_
  refine lv_aload_n C0.1 C0.2.1 dJx4a65c_grow_d5877_1 rfl (lv_at hl 0 rfl) ?_
  refine fl_geti (k := 2) ck_0 C0 hF ka (g2_of ho) ⟨rfl, rfl⟩ aw_153 dJx4a65c_grow_d5877_2 ?_
  refine fl_iconst C0 dJx4a65c_grow_d5877_5 ?_
  refine fl_iadd C0 dJx4a65c_grow_d5877_6 ?_
  have e1 : wr (I a 2 + 1) = (n0 : Int) + 1 := by rw [hI]; exact wr_id (by omega) (by omega)
  rw [e1]
  refine fl_rn hF (fl_runV (As := [iv ((n0 : Int) + 1)]) (rest := []) C0 hF hl.1 ck_0 ka ho (c_growM l D cy B L K P J I a co n0 t civ Cv Tv tyv hE ka ho k0 ⟨hn1, hn2⟩ hel) aw_632 aw_634 aw_37 aw_51 aw_635 rfl rfl pm_grow rfl rfl ⟨Nat.le_of_ble_eq_true rfl, Nat.le_of_ble_eq_true rfl⟩ rfl (Nat.le_of_ble_eq_true rfl) dJx4a65c_grow_d5877_7 ⟨Nat.le_of_ble_eq_true rfl, Nat.le_of_ble_eq_true rfl⟩) (fun q H locs hq h1q hF => ?_)
  exact fl_nret (g := fun q => (va_up K q (102 + 4 * (n0 + n0 / 2)), up (cpyP (clrN P q) (P a 1) q 0 0 n0) a 1 q, clr I q)) C0 hF hr hq h1q dJx4a65c_grow_d5877_10 (Nat.le_of_ble_eq_true rfl) (Nat.le_of_ble_eq_true rfl)
/-- the list's state behind add(e), as one of three -/
def addW3 (L : List Nat) (K : KT) (P : PT) (I : IT) (a t v : Nat) (post : PO) : Prop :=
  (∃ n0 : Nat, K (P a 1) = 102 + 4 * n0 ∧ 0 ≤ I a 2 ∧ I a 2 < n0 ∧ n0 ≤ 100000 ∧ post L K (up P (P a 1) (I a 2).toNat v) (up I a 2 (wr (I a 2 + 1))))
  ∨ (P a 1 = 1 ∧ I a 2 = 0 ∧ ∀ q, q ∉ L → 1 < q → post (L ++ [q]) (va_up K q 142) (up (up (clrN P q) a 1 q) q 0 v) (up (clr I q) a 2 1))
  ∨ (∃ n0 : Nat, grows L K P I a t n0 ∧ ∀ q, q ∉ L → 1 < q → post (L ++ [q]) (va_up K q (102 + 4 * (n0 + n0 / 2))) (up (up (cpyP (clrN P q) (P a 1) q 0 0 n0) a 1 q) q n0 v) (up (clr I q) a 2 ((n0 : Int) + 1)))
def addW (L : List Nat) (K : KT) (P : PT) (I : IT) (a t v : Nat) (post : PO) : Prop := addW3 L K P (up I a 0 (wr (I a 0 + 1))) a t v post
abbrev AV0 (D : va_G) (cy : Nat → ClassId) (B : Nat) (J : IT) (K : KT) (post : PO) : Array Value → State → Outcome → State → Prop := AVm D cy B J K post
theorem wtarr {K : KT} {P : PT} (hWT : WT K P) {arr n0 j v : Nat} (h : K arr = 102 + 4 * n0) (hn : n0 ≤ 100000) : WT K (up P arr j v) := by
  refine wu hWT h (fun k => ?_)
  have : 102 + 4 * n0 ≠ 1 ∧ 102 + 4 * n0 ≠ 2 ∧ 102 + 4 * n0 ≠ 3 ∧ 102 + 4 * n0 ≠ 4 ∧ 102 + 4 * n0 ≠ 5 ∧ 102 + 4 * n0 ≠ 6 ∧ 102 + 4 * n0 ≠ 7 ∧ 102 + 4 * n0 ≠ 8 ∧ 102 + 4 * n0 ≠ 9 := by omega
  unfold tt
  split <;> first | omega | rfl
theorem tt_arr (n : Nat) (h : 10 ≤ n) (k : Nat) : tt n k = 0 := by
  unfold tt
  split <;> first | omega | rfl
abbrev rm_add3 : Room := { frames := 5, cells := 1, slots := 2000, locals := 150 }
theorem c_add3R (hWT : WT K P) (a co v t civ n0 : Nat) (Cv : String) (Tv : u_T) (tyv : Nat → FieldType) (hE : Elt t civ Cv Tv tyv) (ka : K a = co) (ho : cok co 0 = true) (kv : K v = t) (post : PO) (h1 : K (P a 1) = 102 + 4 * n0) (h2 : 0 ≤ I a 2) (h3 : I a 2 < n0) (h4 : n0 ≤ 100000) (hf : post L K (up P (P a 1) (I a 2).toNat v) (up I a 2 (wr (I a 2 + 1)))) :
    Met l yJx4a65c_add_72be8 [.code yJx4a65c_add_72be8 cJx4a65c_add_72be8 4 none] rm_add3 (va_Pc [.ref a, .ref v, .ref (P a 1), iv (I a 2)] (FW D cy B L K P J I)) (AVm D cy B J K post) 1 2000 (fun q => B ≤ q) := by
  refine fl_body (own := "java/util/ArrayList") [.ref a, .ref v, .ref (P a 1), iv (I a 2)] (by decide) rfl (Nat.le_of_ble_eq_true rfl) ?_
  intro p e s m args below meth c ls C0 hr hF hl
  have hl : lv_has ls 4 [(0, .ref a), (1, .ref v), (2, .ref (P a 1)), (3, iv (I a 2))] := hl
  refine lv_iload_n C0.1 C0.2.1 dJx4a65c_add_72be8_0 rfl (lv_at hl 3 rfl) ?_
  refine lv_aload_n C0.1 C0.2.1 dJx4a65c_add_72be8_1 rfl (lv_at hl 2 rfl) ?_
  refine fl_alen (n := n0) (kd := 2) C0 hF (by omega) (by decide) dJx4a65c_add_72be8_2 ?_
  refine fl_icmp_ne (tgt := 11) C0 (hF.rI _ _) ⟨by omega, by omega⟩ dJx4a65c_add_72be8_3 (by decide) (fun c1 => ?_) (fun c1 => absurd c1 (by omega))
  refine lv_aload_n C0.1 C0.2.1 dJx4a65c_add_72be8_11 rfl (lv_at hl 2 rfl) ?_
  refine lv_iload_n C0.1 C0.2.1 dJx4a65c_add_72be8_12 rfl (lv_at hl 3 rfl) ?_
  refine lv_aload_n C0.1 C0.2.1 dJx4a65c_add_72be8_13 rfl (lv_at hl 1 rfl) ?_
  refine fl_aast (n := n0) hE.1 C0 hF h1 (hF.rI _ _) ⟨h2, h3⟩ kv hE.2.1 hE.2.2 dJx4a65c_add_72be8_14 (fun H locs hF => ?_)
  refine lv_aload_n C0.1 C0.2.1 dJx4a65c_add_72be8_15 rfl (lv_at hl 0 rfl) ?_
  refine lv_iload_n C0.1 C0.2.1 dJx4a65c_add_72be8_16 rfl (lv_at hl 3 rfl) ?_
  refine fl_iconst C0 dJx4a65c_add_72be8_17 ?_
  refine fl_iadd C0 dJx4a65c_add_72be8_18 ?_
  refine fl_puti (k := 2) ck_0 C0 hF ka (g2_of ho) (rg_wr _) ⟨rfl, rfl, rfl⟩ aw_153 dJx4a65c_add_72be8_19 (fun H locs hF => ?_)
  exact fl_vretM C0 hF hr hf (wtarr hWT h1 h4) EK.rf dJx4a65c_add_72be8_22 (Nat.le_of_ble_eq_true rfl) (Nat.le_of_ble_eq_true rfl)
theorem ekq {s : State} {H : Heap} {locs : List Loc} {L : List Nat} {K : KT} {P : PT} {J I : IT} {q t : Nat} {D : va_G} {cy : Nat → ClassId} {B : Nat} {H0 : Heap} (hF : FS D cy B L K P J H0 I H locs) (hq : q ∉ L) : EK K (va_up K q t) := by
  intro b hb
  have h1 : b ∈ L := hF.2.2.2.1 b hb
  have h2 : b ≠ q := fun e => hq (e ▸ h1)
  rw [va_up_ne _ _ h2]
theorem c_add3F (hWT : WT K P) (a co v t civ : Nat) (Cv : String) (Tv : u_T) (tyv : Nat → FieldType) (hE : Elt t civ Cv Tv tyv) (ka : K a = co) (ho : cok co 0 = true) (hco : 10 ≤ co) (kv : K v = t) (post : PO) (h1 : P a 1 = 1) (h2 : I a 2 = 0) (hf : ∀ q, q ∉ L → 1 < q → post (L ++ [q]) (va_up K q 142) (up (up (clrN P q) a 1 q) q 0 v) (up (clr I q) a 2 1)) :
    Met l yJx4a65c_add_72be8 [.code yJx4a65c_add_72be8 cJx4a65c_add_72be8 4 none] rm_add3 (va_Pc [.ref a, .ref v, .ref (cy 7), iv 0] (FW D cy B L K P J I)) (AVm D cy B J K post) 1 2000 (fun q => B ≤ q) := by
  refine fl_body (own := "java/util/ArrayList") [.ref a, .ref v, .ref (cy 7), iv 0] (by decide) rfl (Nat.le_of_ble_eq_true rfl) ?_
  intro p e s m args below meth c ls C0 hr hF hl
  have hl : lv_has ls 4 [(0, .ref a), (1, .ref v), (2, .ref (cy 7)), (3, iv 0)] := hl
  have hF00 := hF
  refine lv_iload_n C0.1 C0.2.1 dJx4a65c_add_72be8_0 rfl (lv_at hl 3 rfl) ?_
  refine lv_aload_n C0.1 C0.2.1 dJx4a65c_add_72be8_1 rfl (lv_at hl 2 rfl) ?_
  refine va_tlen C0.1 C0.2.1 C0.2.2.2.2.2.2.2.2 hF.2.2.1 (v := Int32.ofInt 0) rfl dJx4a65c_add_72be8_2 ?_
  refine fl_icmp_ne (tgt := 11) C0 (rgk 0 rfl) (rgk 0 rfl) dJx4a65c_add_72be8_3 (by decide) (fun c1 => absurd rfl c1) (fun c1 => ?_)
  refine lv_aload_n C0.1 C0.2.1 dJx4a65c_add_72be8_6 rfl (lv_at hl 0 rfl) ?_
  refine fl_rn hF (fl_runV (As := []) (rest := []) C0 hF hl.1 ck_0 ka ho (c_grow0F l D cy B L K P J I a co ka ho h1 h2) aw_628 aw_630 aw_36 aw_51 aw_631 rfl rfl pm_grow0 rfl rfl ⟨Nat.le_of_ble_eq_true rfl, Nat.le_of_ble_eq_true rfl⟩ rfl (Nat.le_of_ble_eq_true rfl) dJx4a65c_add_72be8_7 ⟨Nat.le_of_ble_eq_true rfl, Nat.le_of_ble_eq_true rfl⟩) (fun q H locs hq h1q hF => ?_)
  have kaq : va_up K q 142 a = co := kn hF00 hq ka (cne ho)
  obtain ⟨ht0, -, -⟩ := cok_of hE.2.1
  have kvq : va_up K q 142 v = t := kn hF00 hq kv (by rw [bne_iff_ne]; exact ht0)
  refine lv_astore_n (lv' := [(2, .ref q), (0, .ref a), (1, .ref v), (3, iv 0)]) C0.1 C0.2.1 dJx4a65c_add_72be8_10 rfl hl (by decide) rfl (fun ls hl => ?_)
  refine lv_aload_n C0.1 C0.2.1 dJx4a65c_add_72be8_11 rfl (lv_at hl 0 rfl) ?_
  refine lv_iload_n C0.1 C0.2.1 dJx4a65c_add_72be8_12 rfl (lv_at hl 3 rfl) ?_
  refine lv_aload_n C0.1 C0.2.1 dJx4a65c_add_72be8_13 rfl (lv_at hl 2 rfl) ?_
  refine fl_aast (n := 10) hE.1 C0 hF (va_up_self _ _ _) (rgk 0 rfl) ⟨by decide, by decide⟩ kvq hE.2.1 hE.2.2 dJx4a65c_add_72be8_14 (fun H locs hF => ?_)
  refine lv_aload_n C0.1 C0.2.1 dJx4a65c_add_72be8_15 rfl (lv_at hl 1 rfl) ?_
  refine lv_iload_n C0.1 C0.2.1 dJx4a65c_add_72be8_16 rfl (lv_at hl 3 rfl) ?_
  refine fl_iconst C0 dJx4a65c_add_72be8_17 ?_
  refine fl_iadd C0 dJx4a65c_add_72be8_18 ?_
  have e1 : wr ((0 : Int) + 1) = 1 := rfl
  rw [e1]
  refine fl_puti (k := 2) ck_0 C0 hF kaq (g2_of ho) (rgk 1 rfl) ⟨rfl, rfl, rfl⟩ aw_153 dJx4a65c_add_72be8_19 (fun H locs hF => ?_)
  exact fl_vretM C0 hF hr (hf q hq h1q) (wtarr (n0 := 10) (wu (wn hF00 hq hWT (fun k => tt_arr 142 (by decide) k)) kaq (fun k => tt_arr co hco k)) (va_up_self _ _ _) (by decide)) (ekq (s := s) hF00 hq) dJx4a65c_add_72be8_22 (Nat.le_of_ble_eq_true rfl) (Nat.le_of_ble_eq_true rfl)
theorem c_add3M (hWT : WT K P) (a co v t civ n0 : Nat) (Cv : String) (Tv : u_T) (tyv : Nat → FieldType) (hE : Elt t civ Cv Tv tyv) (ka : K a = co) (ho : cok co 0 = true) (hco : 10 ≤ co) (kv : K v = t) (post : PO) (hg : grows L K P I a t n0) (hf : ∀ q, q ∉ L → 1 < q → post (L ++ [q]) (va_up K q (102 + 4 * (n0 + n0 / 2))) (up (up (cpyP (clrN P q) (P a 1) q 0 0 n0) a 1 q) q n0 v) (up (clr I q) a 2 ((n0 : Int) + 1))) :
    Met l yJx4a65c_add_72be8 [.code yJx4a65c_add_72be8 cJx4a65c_add_72be8 4 none] rm_add3 (va_Pc [.ref a, .ref v, .ref (P a 1), iv (n0 : Int)] (FW D cy B L K P J I)) (AVm D cy B J K post) 1 2000 (fun q => B ≤ q) := by
  refine fl_body (own := "java/util/ArrayList") [.ref a, .ref v, .ref (P a 1), iv (n0 : Int)] (by decide) rfl (Nat.le_of_ble_eq_true rfl) ?_
  intro p e s m args below meth c ls C0 hr hF hl
  have hl : lv_has ls 4 [(0, .ref a), (1, .ref v), (2, .ref (P a 1)), (3, iv (n0 : Int))] := hl
  have hF00 := hF
  have hgg := hg
  obtain ⟨k0, hn1, hn2, hI, hel⟩ := hg
  have rn : rg (n0 : Int) := ⟨by omega, by omega⟩
  refine lv_iload_n C0.1 C0.2.1 dJx4a65c_add_72be8_0 rfl (lv_at hl 3 rfl) ?_
  refine lv_aload_n C0.1 C0.2.1 dJx4a65c_add_72be8_1 rfl (lv_at hl 2 rfl) ?_
  refine fl_alen (n := n0) (kd := 2) C0 hF (by omega) (by decide) dJx4a65c_add_72be8_2 ?_
  refine fl_icmp_ne (tgt := 11) C0 rn rn dJx4a65c_add_72be8_3 (by decide) (fun c1 => absurd rfl c1) (fun c1 => ?_)
  refine lv_aload_n C0.1 C0.2.1 dJx4a65c_add_72be8_6 rfl (lv_at hl 0 rfl) ?_
  refine fl_rn hF (fl_runV (As := []) (rest := []) C0 hF hl.1 ck_0 ka ho (c_grow0M l D cy B L K P J I a co n0 t civ Cv Tv tyv hE ka ho hgg) aw_628 aw_630 aw_36 aw_51 aw_631 rfl rfl pm_grow0 rfl rfl ⟨Nat.le_of_ble_eq_true rfl, Nat.le_of_ble_eq_true rfl⟩ rfl (Nat.le_of_ble_eq_true rfl) dJx4a65c_add_72be8_7 ⟨Nat.le_of_ble_eq_true rfl, Nat.le_of_ble_eq_true rfl⟩) (fun q H locs hq h1q hF => ?_)
  have kaq : va_up K q (102 + 4 * (n0 + n0 / 2)) a = co := kn hF00 hq ka (cne ho)
  obtain ⟨ht0, -, -⟩ := cok_of hE.2.1
  have kvq : va_up K q (102 + 4 * (n0 + n0 / 2)) v = t := kn hF00 hq kv (by rw [bne_iff_ne]; exact ht0)
  refine lv_astore_n (lv' := [(2, .ref q), (0, .ref a), (1, .ref v), (3, iv (n0 : Int))]) C0.1 C0.2.1 dJx4a65c_add_72be8_10 rfl hl (by decide) rfl (fun ls hl => ?_)
  refine lv_aload_n C0.1 C0.2.1 dJx4a65c_add_72be8_11 rfl (lv_at hl 0 rfl) ?_
  refine lv_iload_n C0.1 C0.2.1 dJx4a65c_add_72be8_12 rfl (lv_at hl 3 rfl) ?_
  refine lv_aload_n C0.1 C0.2.1 dJx4a65c_add_72be8_13 rfl (lv_at hl 2 rfl) ?_
  refine fl_aast (n := n0 + n0 / 2) hE.1 C0 hF (va_up_self _ _ _) rn ⟨by omega, by omega⟩ kvq hE.2.1 hE.2.2 dJx4a65c_add_72be8_14 (fun H locs hF => ?_)
  rw [Int.toNat_natCast] at hF
  refine lv_aload_n C0.1 C0.2.1 dJx4a65c_add_72be8_15 rfl (lv_at hl 1 rfl) ?_
  refine lv_iload_n C0.1 C0.2.1 dJx4a65c_add_72be8_16 rfl (lv_at hl 3 rfl) ?_
  refine fl_iconst C0 dJx4a65c_add_72be8_17 ?_
  refine fl_iadd C0 dJx4a65c_add_72be8_18 ?_
  have e1 : wr ((n0 : Int) + 1) = (n0 : Int) + 1 := wr_id (by omega) (by omega)
  rw [e1]
  refine fl_puti (k := 2) ck_0 C0 hF kaq (g2_of ho) ⟨by omega, by omega⟩ ⟨rfl, rfl, rfl⟩ aw_153 dJx4a65c_add_72be8_19 (fun H locs hF => ?_)
  have hWT1 : WT (va_up K q (102 + 4 * (n0 + n0 / 2))) (cpyP (clrN P q) (P a 1) q 0 0 n0) := by
    intro b k hb
    have hw := wn hF00 hq hWT (t := 102 + 4 * (n0 + n0 / 2)) (fun k => tt_arr _ (by omega) k)
    have hbq : b ≠ q := by
      intro e
      subst e
      rw [va_up_self] at hb
      exact hb (tt_arr _ (by omega) k)
    have e9 : cpyP (clrN P q) (P a 1) q 0 0 n0 b k = clrN P q b k := by simp [cpyP, hbq]
    rw [e9]
    exact hw b k hb
  exact fl_vretM C0 hF hr (hf q hq h1q) (wtarr (n0 := n0 + n0 / 2) (wu hWT1 kaq (fun k => tt_arr co hco k)) (va_up_self _ _ _) (by omega)) (ekq (s := s) hF00 hq) dJx4a65c_add_72be8_22 (Nat.le_of_ble_eq_true rfl) (Nat.le_of_ble_eq_true rfl)
theorem pm_add3 : plainM yJx4a65c_add_72be8 3 := by decide +kernel
abbrev rm_add : Room := { frames := 6, cells := 1, slots := 2000, locals := 180 }
theorem c_add (hWT : WT K P) (a co v t civ : Nat) (Cv : String) (Tv : u_T) (tyv : Nat → FieldType) (hE : Elt t civ Cv Tv tyv) (ka : K a = co) (ho : cok co 0 = true) (hco : 10 ≤ co) (kv : K v = t) (post : PO) (hf : addW L K P I a t v post) :
    Met l yJx4a65c_add_9ea2d [.code yJx4a65c_add_9ea2d cJx4a65c_add_9ea2d 2 (some .boolean)] rm_add (va_Pc [.ref a, .ref v] (FW D cy B L K P J I)) (AIm D cy B J K (fun _ => post)) 1 2000 (fun q => B ≤ q) := by
  refine fl_body (own := "java/util/ArrayList") [.ref a, .ref v] (by decide) rfl (Nat.le_of_ble_eq_true rfl) ?_
  intro p e s m args below meth c ls C0 hr hF hl
  have hl : lv_has ls 2 [(0, .ref a), (1, .ref v)] := hl
  refine lv_aload_n C0.1 C0.2.1 dJx4a65c_add_9ea2d_0 rfl (lv_at hl 0 rfl) ?_
  refine lv_dup C0.1 C0.2.1 dJx4a65c_add_9ea2d_1 rfl ?_
  refine fl_getmod C0 hF ka (g0_of ho) dJx4a65c_add_9ea2d_2 ?_
  refine fl_iconst C0 dJx4a65c_add_9ea2d_5 ?_
  refine fl_iadd C0 dJx4a65c_add_9ea2d_6 ?_
  refine fl_putmod C0 hF ka (g0_of ho) (rg_wr _) dJx4a65c_add_9ea2d_7 (fun H locs hF => ?_)
  unfold addW at hf
  generalize up I a 0 (wr (I a 0 + 1)) = I1 at hf hF
  refine lv_aload_n C0.1 C0.2.1 dJx4a65c_add_9ea2d_10 rfl (lv_at hl 0 rfl) ?_
  refine lv_aload_n C0.1 C0.2.1 dJx4a65c_add_9ea2d_11 rfl (lv_at hl 1 rfl) ?_
  refine lv_aload_n C0.1 C0.2.1 dJx4a65c_add_9ea2d_12 rfl (lv_at hl 0 rfl) ?_
  have fin : ∀ (H : Heap) (locs : List Loc) (L1 : List Nat) (K1 : KT) (P1 : PT) (I2 : IT), FS D cy B L1 K1 P1 J s.heap I2 H locs → post L1 K1 P1 I2 → WT K1 P1 → EK K K1 → W p l e rm_add s m args below meth c H locs (0 + 1) (0 + 2000) (MQ below (AIm D cy B J K (fun _ => post)) args s 1 2000 (fun q => B ≤ q)) (F0 m 23 ls []) := by
    intro H locs L1 K1 P1 I2 hF h1 h2 h3
    refine fl_iconst C0 dJx4a65c_add_9ea2d_23 ?_
    exact fl_zretM C0 hF hr (rgk 1 rfl) (Or.inr rfl) h1 h2 h3 dJx4a65c_add_9ea2d_24 (Nat.le_of_ble_eq_true rfl) (Nat.le_of_ble_eq_true rfl)
  rcases hf with ⟨n0, h1, h2, h3, h4, hf⟩ | ⟨h1, h2, hf⟩ | ⟨n0, hg, hf⟩
  · refine fl_getr (k := 1) (t := K (P a 1)) ck_0 C0 hF ka (g1_of ho) rfl (by simp only [bne_iff_ne]; omega) ⟨rfl, rfl⟩ aw_152 dJx4a65c_add_9ea2d_13 ?_
    refine lv_aload_n C0.1 C0.2.1 dJx4a65c_add_9ea2d_16 rfl (lv_at hl 0 rfl) ?_
    refine fl_geti (k := 2) ck_0 C0 hF ka (g2_of ho) ⟨rfl, rfl⟩ aw_153 dJx4a65c_add_9ea2d_17 ?_
    refine fl_avm hF (fl_runV (As := [.ref v, .ref (P a 1), iv (I1 a 2)]) (rest := []) C0 hF hl.1 ck_0 ka ho (c_add3R l D cy B L K P J I1 hWT a co v t civ n0 Cv Tv tyv hE ka ho kv post h1 h2 h3 h4 hf) aw_624 aw_626 aw_35 aw_51 aw_627 rfl rfl pm_add3 rfl rfl ⟨Nat.le_of_ble_eq_true rfl, Nat.le_of_ble_eq_true rfl⟩ rfl (Nat.le_of_ble_eq_true rfl) dJx4a65c_add_9ea2d_20 ⟨Nat.le_of_ble_eq_true rfl, Nat.le_of_ble_eq_true rfl⟩) (fun L1 K1 P1 I2 H locs hF h1 h2 h3 => ?_)
    exact fin H locs L1 K1 P1 I2 hF h1 h2 h3
  · refine fl_getr1 (k := 1) ck_0 C0 hF ka (g1_of ho) h1 ⟨rfl, rfl⟩ aw_152 dJx4a65c_add_9ea2d_13 ?_
    refine lv_aload_n C0.1 C0.2.1 dJx4a65c_add_9ea2d_16 rfl (lv_at hl 0 rfl) ?_
    refine fl_geti (k := 2) ck_0 C0 hF ka (g2_of ho) ⟨rfl, rfl⟩ aw_153 dJx4a65c_add_9ea2d_17 ?_
    rw [h2]
    refine fl_avm hF (fl_runV (As := [.ref v, .ref (cy 7), iv 0]) (rest := []) C0 hF hl.1 ck_0 ka ho (c_add3F l D cy B L K P J I1 hWT a co v t civ Cv Tv tyv hE ka ho hco kv post h1 h2 hf) aw_624 aw_626 aw_35 aw_51 aw_627 rfl rfl pm_add3 rfl rfl ⟨Nat.le_of_ble_eq_true rfl, Nat.le_of_ble_eq_true rfl⟩ rfl (Nat.le_of_ble_eq_true rfl) dJx4a65c_add_9ea2d_20 ⟨Nat.le_of_ble_eq_true rfl, Nat.le_of_ble_eq_true rfl⟩) (fun L1 K1 P1 I2 H locs hF h1 h2 h3 => ?_)
    exact fin H locs L1 K1 P1 I2 hF h1 h2 h3
  · have hI := hg.2.2.2.1
    refine fl_getr (k := 1) (t := K (P a 1)) ck_0 C0 hF ka (g1_of ho) rfl (by have := hg.1; simp only [bne_iff_ne]; omega) ⟨rfl, rfl⟩ aw_152 dJx4a65c_add_9ea2d_13 ?_
    refine lv_aload_n C0.1 C0.2.1 dJx4a65c_add_9ea2d_16 rfl (lv_at hl 0 rfl) ?_
    refine fl_geti (k := 2) ck_0 C0 hF ka (g2_of ho) ⟨rfl, rfl⟩ aw_153 dJx4a65c_add_9ea2d_17 ?_
    rw [hI]
    refine fl_avm hF (fl_runV (As := [.ref v, .ref (P a 1), iv (n0 : Int)]) (rest := []) C0 hF hl.1 ck_0 ka ho (c_add3M l D cy B L K P J I1 hWT a co v t civ n0 Cv Tv tyv hE ka ho hco kv post hg hf) aw_624 aw_626 aw_35 aw_51 aw_627 rfl rfl pm_add3 rfl rfl ⟨Nat.le_of_ble_eq_true rfl, Nat.le_of_ble_eq_true rfl⟩ rfl (Nat.le_of_ble_eq_true rfl) dJx4a65c_add_9ea2d_20 ⟨Nat.le_of_ble_eq_true rfl, Nat.le_of_ble_eq_true rfl⟩) (fun L1 K1 P1 I2 H locs hF h1 h2 h3 => ?_)
    exact fin H locs L1 K1 P1 I2 hF h1 h2 h3
theorem pm_add : plainM yJx4a65c_add_9ea2d 1 := by decide +kernel
end ADD3
