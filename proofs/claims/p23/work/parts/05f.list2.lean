section FL2
variable {p : Program} {l : Launch} {e : Env} {R : Room} {s : State} {m : MethodId} {args : Array Value} {below : List Frame} {meth : Method} {c : Code} {H : Heap} {locs : List Loc} {cells slots : Nat} {Q : State → Prop}
variable {D : va_G} {cy : Nat → ClassId} {B : Nat} {L : List Nat} {K : KT} {P : PT} {J I : IT} {own : String} {cc : ByteArray} {nL pc : Nat} {ls : Array Slot} {rest : List Value} {H0 : Heap}
variable {ci k a co idx n : Nat} {C nm ds : String} {T : u_T} {ty : Nat → FieldType} {i : Int}
theorem fl_getr1 (hC : Cls ci C T ty) (C0 : FC D cy B p s m meth c own cc nL) (hF : FS D cy B L K P J H0 I H locs) (h : K a = co) (ho : gok co ci k true = true) (hz : P a k = 1) (hT : (T k).2.1 = nm ∧ (T k).2.2.1 = ds) (hw : Cond.fieldLink own idx (T k).1 nm ds ∈ AW) (hdg : decode cc pc = .ok (.getfield idx, 3))
    (kk : W p l e R s m args below meth c H locs cells slots Q (F0 m (pc + 3) ls (.ref (cy 7) :: rest))) : W p l e R s m args below meth c H locs cells slots Q (F0 m pc ls (.ref a :: rest)) := by
  obtain ⟨h1, h2, h3, h4, h5⟩ := gok_of ho
  subst h
  exact fl_get hC C0 hF h1 h2 h3 h4 (by simp only [fval, h5, if_true, hz, rfo_1]) hT hw hdg kk
theorem fl_putr1 (hC : Cls ci C T ty) (C0 : FC D cy B p s m meth c own cc nL) (hF : FS D cy B L K P J H0 I H locs) (h : K a = co) (ho : gok co ci k true = true) (hT : (T k).2.2.2 = false ∧ (T k).2.1 = nm ∧ (T k).2.2.1 = ds) (hfit : ∀ v, narrow (ty k) (.ref v) = .ref v ∧ fits (ty k) (.ref v) = true) (hw : Cond.fieldLink own idx (T k).1 nm ds ∈ AW) (hdg : decode cc pc = .ok (.putfield idx, 3))
    (kk : ∀ (H1 : Heap) (locs1 : List Loc), FS D cy B L K (up P a k 1) J H0 I H1 locs1 → W p l e R s m args below meth c H1 locs1 cells slots Q (F0 m (pc + 3) ls rest)) : W p l e R s m args below meth c H locs cells slots Q (F0 m pc ls (.ref (cy 7) :: .ref a :: rest)) := by
  obtain ⟨h1, h2, h3, h4, h5⟩ := gok_of ho
  subst h
  obtain ⟨hx, hb, -, hown, -, hFK, -⟩ := C0
  obtain ⟨k0, hk0⟩ := hF.get h1
  have hk1 := hk0
  rw [fcell_obj h2 h3] at hk0
  obtain ⟨hfin, rfl, rfl⟩ := hT
  refine va_put hx hb hFK.use hC.2.1 ty hC.2.2.1 hC.2.2.2 hown hFK.1 hF.1 hF.2.1 hF.2.2.1 k0 hk0 hC.1 k h4 (hFK.use _ hw) (fun _ h => h) hfin (hC.2.2.1 k h4) (hfit _).1 (hfit _).2 (by rw [fobj_len]; exact h4) hdg ?_
  intro H1 locs1 g1 g2 g3
  have hset : (fobj cy P I ci a).set k (.ref (cy 7)) = fobj cy (up P a k 1) I ci a := fobj_set h4 (by simp only [fval, h5, if_true, up_s, rfo_1]) (fun j hj => by simp [fval, up_k P a a 1 hj])
  have he := fl_set (g := fcell cy K (up P a k 1) J I) hF.2.1 (hF.2.2.2.1 a h1) hk1 (fcell_obj h2 h3) (fun b hb => fcell_upP hb)
  rw [hset, he] at g1 g2
  exact kk H1 locs1 ⟨g1, g2, g3, hF.2.2.2⟩
theorem fl_aast {v cv civ : Nat} {Cv : String} {Tv : u_T} {tyv : Nat → FieldType} (hCv : Cls civ Cv Tv tyv) (C0 : FC D cy B p s m meth c own cc nL) (hF : FS D cy B L K P J H0 I H locs) (hka : K a = 102 + 4 * n) (hri : rg i) (hi : 0 ≤ i ∧ i < n) (hv : K v = cv) (hov : cok cv civ = true) (hca : Cond.castable Cv "java/lang/Object" ∈ AW) (hdg : decode cc pc = .ok (.aastore, 1))
    (kk : ∀ (H1 : Heap) (locs1 : List Loc), FS D cy B L K (up P a i.toNat v) J H0 I H1 locs1 → W p l e R s m args below meth c H1 locs1 cells slots Q (F0 m (pc + 1) ls rest)) : W p l e R s m args below meth c H locs cells slots Q (F0 m pc ls (.ref v :: iv i :: .ref a :: rest)) := by
  obtain ⟨v1, v2, v3⟩ := cok_of hov
  subst hv
  obtain ⟨hx, hb, -, hown, -, hFK, -⟩ := C0
  obtain ⟨k0, hk0⟩ := hF.get (a := a) (by omega)
  obtain ⟨kv, hkv⟩ := hF.get v1
  rw [fcell_obj v2 v3] at hkv
  have hk1 := hk0
  have hcell : ∀ P' : PT, fcell cy K P' J I a = .inl (cy 2, (n, .inr (.inr (.inr (.inr (fun j => rfo cy (P' a j))))))) := fun P' => by rw [fcell_arr (kd := 2) (n := n) (by omega) (by decide), farr_ref]
  rw [hcell] at hk0
  refine va_astqO hx hb hFK.1 hF.1 hF.2.1 hF.2.2.1 k0 2 kv civ hk0 rfl (hFK.2.1 _ hca) hkv hCv.1 (of_in hri hi) hdg ?_
  intro H1 locs1 h1 h2 h3
  have he := fl_set (g := fcell cy K (up P a i.toNat v) J I) hF.2.1 (hF.2.2.2.1 a (by omega)) hk1 (hcell _) (fun b hb => fcell_upP hb)
  have hf : (va_up (fun j => rfo cy (P a j)) (Int32.ofInt i).toNatClampNeg (some v)) = fun j => rfo cy (up P a i.toNat v a j) := by
    funext j
    rw [of_clamp hri]
    have hv1 := hF.ne0 v1
    by_cases hj : j = i.toNat
    · subst hj
      rw [va_up_self, up_s]
      have q1 : v ≠ 0 := by omega
      have q2 : v ≠ 1 := by omega
      simp [rfo, q1, q2]
    · rw [va_up_ne _ _ hj, up_k P a a v hj]
  rw [hf, he] at h1 h2
  exact kk H1 locs1 ⟨h1, h2, h3, hF.2.2.2⟩
theorem fl_acopyq {a0 n0 n1 t civ : Nat} {Cv : String} {Tv : u_T} {tyv : Nat → FieldType} {N : Int} (hCv : Cls civ Cv Tv tyv) (C0 : FC D cy B p s m meth c own cc nL) (hF : FS D cy B L K P J s.heap I H locs) (hsz : ls.size = nL) (h0 : K a0 = 102 + 4 * n0) (h1 : K a = 102 + 4 * n1) (rN : rg N) (hN : 0 ≤ N ∧ N ≤ n0 ∧ N ≤ n1) (hel : ∀ j, j < n0 → P a0 j = 0 ∨ K (P a0 j) = t) (hot : cok t civ = true) (hca : Cond.castable Cv "java/lang/Object" ∈ AW)
    (w1 : Cond.methodLink own idx arraycopyName ∈ AW) (w2 : Cond.native arraycopyName ∈ AW) (w3 : Cond.static arraycopyName ∈ AW) (w4 : Cond.initialized "java/lang/System" ∈ AW) (hframes : 1 ≤ R.frames) (hlocals : (rest.map fun v => v.category).sum + (nativeFrameWords "java/lang/System" "arraycopy" 5 + 11) ≤ R.locals) (hdg : decode cc pc = .ok (.invokestatic idx, 3))
    (kk : ∀ (H1 : Heap) (locs1 : List Loc), FS D cy B L K (cpyP P a0 a 0 0 N.toNat) J s.heap I H1 locs1 → W p l e R s m args below meth c H1 locs1 cells slots Q (F0 m (pc + 3) ls rest)) : W p l e R s m args below meth c H locs cells slots Q (F0 m pc ls (iv N :: iv 0 :: .ref a :: iv 0 :: .ref a0 :: rest)) := by
  have C1 := C0
  obtain ⟨hx, hb, hml, hown, -, hFK, hFZ⟩ := C0
  obtain ⟨v1, v2, v3⟩ := cok_of hot
  obtain ⟨k0, hk0⟩ := hF.get (a := a0) (by omega)
  obtain ⟨k1, hk1⟩ := hF.get (a := a) (by omega)
  have hk2 := hk1
  have hcell : ∀ (P' : PT) (b n : Nat), K b = 102 + 4 * n → fcell cy K P' J I b = .inl (cy 2, (n, .inr (.inr (.inr (.inr (fun j => rfo cy (P' b j))))))) := fun P' b n h => by rw [fcell_arr (kd := 2) (n := n) (by omega) (by decide), farr_ref]
  rw [hcell P a0 n0 h0] at hk0
  rw [hcell P a n1 h1] at hk1
  have r0 : rg 0 := ⟨by decide, by decide⟩
  have nn : ∀ {z : Int}, rg z → 0 ≤ z → ¬ Int32.ofInt z < 0 := fun {z} hz h => by
    have h9 : Int32.ofInt z < Int32.ofInt 0 ↔ z < 0 := of_lt hz ⟨by decide, by decide⟩
    intro q
    have := h9.mp q
    omega
  have e0 : (Int32.ofInt 0).toNatClampNeg = 0 := of_clamp r0
  refine va_copyq (C := Cv) hx hb (hml.trans hsz.symm) hown (hFK.use _ w1) (hFK.use _ w2) (hFK.use _ w3) (hFK.use _ w4) hFK.1 hF.1 hF.2.1 hF.2.2.1 k0 k1 2 2 hk0 hk1 rfl rfl (nn r0 (by decide)) (nn r0 (by decide)) (nn rN hN.1) (by rw [e0, of_clamp rN]; omega) (by rw [e0, of_clamp rN]; omega) ?_ (fun comp c0 g1 g2 => vb_asgC (hFK.2.1 _ hca) comp c0 g1 g2) hframes hlocals hdg ?_
  · intro j hj y hy
    rw [e0, Nat.zero_add] at hy
    rw [of_clamp rN] at hj
    rcases hel j (by omega) with h | h
    · rw [h] at hy
      cases hy
    · have hne := hF.ne0 (a := P a0 j) (by rw [h]; exact v1)
      have q1 : P a0 j ≠ 0 := by omega
      have q2 : P a0 j ≠ 1 := by omega
      simp only [rfo, q1, q2, if_false] at hy
      cases hy
      exact hF.recv hCv hFK (by rw [h]; exact v1) (by rw [h]; exact v2) (by rw [h]; exact v3)
  · intro H1 locs1 g1 g2 g3
    have hcp : ∀ b, b ≠ a → fcell cy K (cpyP P a0 a 0 0 N.toNat) J I b = fcell cy K P J I b := by
      intro b hb3
      have q1 : ∀ j, cpyP P a0 a 0 0 N.toNat b j = P b j := fun j => by simp [cpyP, hb3]
      have q2 : fobj cy (cpyP P a0 a 0 0 N.toNat) I (kci (K b)) b = fobj cy P I (kci (K b)) b := by
        unfold fobj
        apply List.map_congr_left
        intro j _
        simp only [fval, q1]
      have q3 : farr cy (cpyP P a0 a 0 0 N.toNat) J I (K b % 4) b = farr cy P J I (K b % 4) b := by
        unfold farr
        simp only [q1]
      simp only [fcell, q2, q3]
    have he := fl_set (g := fcell cy K (cpyP P a0 a 0 0 N.toNat) J I) hF.2.1 (hF.2.2.2.1 a (by omega)) hk2 (hcell _ a n1 h1) hcp
    have hf : va_cpy (fun j => rfo cy (P a0 j)) (fun j => rfo cy (P a j)) (Int32.ofInt 0).toNatClampNeg (Int32.ofInt 0).toNatClampNeg (Int32.ofInt N).toNatClampNeg = fun j => rfo cy (cpyP P a0 a 0 0 N.toNat a j) := by
      funext j
      rw [e0, of_clamp rN]
      unfold va_cpy cpyP
      by_cases hj : 0 ≤ j ∧ j < 0 + N.toNat
      · rw [if_pos hj, if_pos ⟨rfl, hj⟩]
      · rw [if_neg hj, if_neg (fun q => hj q.2)]
    rw [hf, he] at g1 g2
    exact kk H1 locs1 ⟨g1, g2, g3, hF.2.2.2⟩
end FL2
section LS2
variable (l : Launch) (D : va_G) (cy : Nat → ClassId) (B : Nat) (L : List Nat) (K : KT) (P : PT) (J : IT) (I : IT)
abbrev two0 (R rm : Room) (maxL : Nat) : Prop := rooms R rm maxL
theorem c_acinit (a co : Nat) : Met l yJxa1e45_init_da8c8 [.code yJxa1e45_init_da8c8 cJxa1e45_init_da8c8 1 none] { frames := 1, cells := 0, slots := 0, locals := 20 } (va_Pc [.ref a] (FW D cy B L K P J I)) (QV D cy B L K P J I) 0 0 (fun q => B ≤ q) := by
  refine fl_body (own := "java/util/AbstractCollection") [.ref a] (by decide) rfl (Nat.le_of_ble_eq_true rfl) ?_
  intro p e s m args below meth c ls C0 hr hF hl
  have hl : lv_has ls 1 [(0, .ref a)] := hl
  refine lv_aload_n C0.1 C0.2.1 dJxa1e45_init_da8c8_0 rfl (lv_at hl 0 rfl) ?_
  refine fl_objInit (nm0 := yJxa1e45_init_da8c8) C0 hl.1 aw_149 aw_74 aw_75 dJxa1e45_init_da8c8_1 (Nat.le_of_ble_eq_true rfl) (Nat.le_of_ble_eq_true rfl) ?_
  exact fl_vret C0 hF hr rfl dJxa1e45_init_da8c8_4
theorem pm_acinit : plainM yJxa1e45_init_da8c8 0 := by decide +kernel
theorem c_alinit (a : Nat) (ka : K a = 20) : Met l yJxc12de_init_da8c8 [.code yJxc12de_init_da8c8 cJxc12de_init_da8c8 1 none] { frames := 2, cells := 0, slots := 0, locals := 40 } (va_Pc [.ref a] (FW D cy B L K P J I)) (QV D cy B L K P J (up I a 0 0)) 0 0 (fun q => B ≤ q) := by
  refine fl_body (own := "java/util/AbstractList") [.ref a] (by decide) rfl (Nat.le_of_ble_eq_true rfl) ?_
  intro p e s m args below meth c ls C0 hr hF hl
  have hl : lv_has ls 1 [(0, .ref a)] := hl
  refine lv_aload_n C0.1 C0.2.1 dJxc12de_init_da8c8_0 rfl (lv_at hl 0 rfl) ?_
  refine fl_rv hF (fl_runI (As := []) (rest := []) C0 hF hl.1 (c_acinit l D cy B L K P J I a 20) aw_146 aw_147 aw_49 aw_148 rfl rfl pm_acinit rfl rfl ⟨Nat.le_of_ble_eq_true rfl, Nat.le_of_ble_eq_true rfl⟩ rfl (Nat.le_of_ble_eq_true rfl) dJxc12de_init_da8c8_1 ⟨Nat.le_of_ble_eq_true rfl, Nat.le_of_ble_eq_true rfl⟩) (fun H locs hF => ?_)
  refine lv_aload_n C0.1 C0.2.1 dJxc12de_init_da8c8_4 rfl (lv_at hl 0 rfl) ?_
  refine fl_iconst C0 dJxc12de_init_da8c8_5 ?_
  refine fl_puti (k := 0) ck_0 C0 hF ka rfl (rgk 0 rfl) ⟨rfl, rfl, rfl⟩ aw_154 dJxc12de_init_da8c8_6 (fun H locs hF => ?_)
  exact fl_vret C0 hF hr rfl dJxc12de_init_da8c8_9
theorem pm_alinit : plainM yJxc12de_init_da8c8 0 := by decide +kernel
abbrev rm_linit : Room := { frames := 3, cells := 0, slots := 0, locals := 60 }
theorem c_linit (hWT : WT K P) (a t : Nat) (ka : K a = 20) (ht : cok t 0 = true) (htt : ∀ k, tt t k = 0) (post : PO) (hf : post L (va_up K a t) (up P a 1 1) (up I a 0 0)) : Met l yJx4a65c_init_da8c8 [.code yJx4a65c_init_da8c8 cJx4a65c_init_da8c8 1 none] rm_linit (va_Pc [.ref a] (FW D cy B L K P J I)) (AVc D cy B J K P a t post) 0 0 (fun q => B ≤ q) := by
  refine fl_body (own := "java/util/ArrayList") [.ref a] (by decide) rfl (Nat.le_of_ble_eq_true rfl) ?_
  intro p e s m args below meth c ls C0 hr hF hl
  have hl : lv_has ls 1 [(0, .ref a)] := hl
  refine lv_aload_n C0.1 C0.2.1 dJx4a65c_init_da8c8_0 rfl (lv_at hl 0 rfl) ?_
  refine fl_rv hF (fl_runI (As := []) (rest := []) C0 hF hl.1 (c_alinit l D cy B L K P J I a ka) aw_143 aw_144 aw_50 aw_145 rfl rfl pm_alinit rfl rfl ⟨Nat.le_of_ble_eq_true rfl, Nat.le_of_ble_eq_true rfl⟩ rfl (Nat.le_of_ble_eq_true rfl) dJx4a65c_init_da8c8_1 ⟨Nat.le_of_ble_eq_true rfl, Nat.le_of_ble_eq_true rfl⟩) (fun H locs hF => ?_)
  refine lv_aload_n C0.1 C0.2.1 dJx4a65c_init_da8c8_4 rfl (lv_at hl 0 rfl) ?_
  refine va_gets C0.1 C0.2.1 C0.2.2.2.2.2.2.2.1 hF.2.2.1 C0.2.2.2.1 (C0.2.2.2.2.2.1.use _ aw_150) (fun _ h => h) dJx4a65c_init_da8c8_5 ?_
  refine fl_putr1 (k := 1) ck_0 C0 hF ka rfl ⟨rfl, rfl, rfl⟩ (fun _ => ⟨rfl, rfl⟩) aw_152 dJx4a65c_init_da8c8_8 (fun H locs hF => ?_)
  exact fl_vretC C0 (hF.done (co2 := t) ka rfl ht) hr hf (wd (wu hWT ka (fun _ => rfl)) ka (fun k hk => absurd (htt k) hk) (wraw (wu hWT ka (fun _ => rfl)) ka rfl)) (ked (eu EX.rf) ka) (va_up_self _ _ _) dJx4a65c_init_da8c8_11 (Nat.le_refl _) (Nat.le_refl _)
theorem pm_linit : plainM yJx4a65c_init_da8c8 0 := by decide +kernel
end LS2
