section FL
variable {p : Program} {l : Launch} {e : Env} {R : Room} {s : State} {m : MethodId} {args : Array Value} {below : List Frame} {meth : Method} {c : Code} {H : Heap} {locs : List Loc} {cells slots : Nat} {Q : State → Prop}
variable {D : va_G} {cy : Nat → ClassId} {B : Nat} {L : List Nat} {K : KT} {P : PT} {J I : IT} {own : String} {cc : ByteArray} {nL pc : Nat} {ls : Array Slot} {rest st0 As : List Value} {H0 : Heap}
variable {a n co ci idx mc ms maxL : Nat} {i : Int} {y : MethodName} {bytes : ByteArray} {ret : Option FieldType} {rm : Room} {Qc : Array Value → State → Outcome → State → Prop} {C : String} {T : u_T} {ty : Nat → FieldType}
theorem fl_aald (C0 : FC D cy B p s m meth c own cc nL) (hF : FS D cy B L K P J H0 I H locs) (hka : K a = 102 + 4 * n) (hri : rg i) (hi : 0 ≤ i ∧ i < n) (hz : K (P a i.toNat) ≠ 0) (hdg : decode cc pc = .ok (.aaload, 1))
    (kk : W p l e R s m args below meth c H locs cells slots Q (F0 m (pc + 1) ls (.ref (P a i.toNat) :: rest))) : W p l e R s m args below meth c H locs cells slots Q (F0 m pc ls (iv i :: .ref a :: rest)) := by
  obtain ⟨hx, hb, -, hown, -, hFK, -⟩ := C0
  obtain ⟨k0, hk0⟩ := hF.get (a := a) (by omega)
  rw [fcell_arr (kd := 2) (n := n) (by omega) (by decide), farr_ref] at hk0
  refine va_aldq hx hb hFK.1 hF.1 k0 2 hk0 rfl (of_in hri hi) hdg ?_
  rw [of_clamp hri, rfo_ne (hF.ne0 hz)]
  exact kk
theorem fl_cast (hC : Cls ci C T ty) (C0 : FC D cy B p s m meth c own cc nL) (hF : FS D cy B L K P J s.heap I H locs) (h : K a = co) (ho : cok co ci = true) (hw : Cond.classLink own idx C ∈ AW) (hdg : decode cc pc = .ok (.checkcast idx, 3))
    (kk : W p l e R s m args below meth c H locs cells slots Q (F0 m (pc + 3) ls (.ref a :: rest))) : W p l e R s m args below meth c H locs cells slots Q (F0 m pc ls (.ref a :: rest)) := by
  obtain ⟨h1, h2, h3⟩ := cok_of ho
  subst h
  obtain ⟨hx, hb, -, hown, -, hFK, -⟩ := C0
  exact va_castS hx hb hown (hFK.use _ hw) (hFK.1.1 ci _ hC.1).2 (hF.recv hC hFK h1 h2 h3) hdg kk
theorem fl_acopy {a0 n0 n1 : Nat} {sp dp k : Int} (C0 : FC D cy B p s m meth c own cc nL) (hF : FS D cy B L K P J H0 I H locs) (hsz : ls.size = nL) (h0 : K a0 = 100 + 4 * n0) (h1 : K a = 100 + 4 * n1) (r0 : rg sp) (r1 : rg dp) (r2 : rg k) (hb2 : 0 ≤ sp ∧ 0 ≤ dp ∧ 0 ≤ k ∧ sp + k ≤ n0 ∧ dp + k ≤ n1)
    (w1 : Cond.methodLink own idx arraycopyName ∈ AW) (w2 : Cond.native arraycopyName ∈ AW) (w3 : Cond.static arraycopyName ∈ AW) (w4 : Cond.initialized "java/lang/System" ∈ AW) (hframes : 1 ≤ R.frames) (hlocals : (rest.map fun v => v.category).sum + (nativeFrameWords "java/lang/System" "arraycopy" 5 + 11) ≤ R.locals) (hdg : decode cc pc = .ok (.invokestatic idx, 3))
    (kk : ∀ (H1 : Heap) (locs1 : List Loc), FS D cy B L K P J H0 (cpy I a0 a sp.toNat dp.toNat k.toNat) H1 locs1 → W p l e R s m args below meth c H1 locs1 cells slots Q (F0 m (pc + 3) ls rest)) : W p l e R s m args below meth c H locs cells slots Q (F0 m pc ls (iv k :: iv dp :: .ref a :: iv sp :: .ref a0 :: rest)) := by
  obtain ⟨hx, hb, hml, hown, -, hFK, -⟩ := C0
  obtain ⟨k0, hk0⟩ := hF.get (a := a0) (by omega)
  obtain ⟨k1, hk1⟩ := hF.get (a := a) (by omega)
  have hk2 := hk1
  have hcell : ∀ (I' : IT) (b n : Nat), K b = 100 + 4 * n → fcell cy K P J I' b = .inl (cy 0, (n, .inl (fun j => Int32.ofInt (I' b j)))) := fun I' b n h => by rw [fcell_arr (kd := 0) h (by decide), farr_int]
  rw [hcell I a0 n0 h0] at hk0
  rw [hcell I a n1 h1] at hk1
  have nn : ∀ {z : Int}, rg z → 0 ≤ z → ¬ Int32.ofInt z < 0 := fun {z} hz h => by
    have h9 : Int32.ofInt z < Int32.ofInt 0 ↔ z < 0 := of_lt hz ⟨by decide, by decide⟩
    intro q
    have := h9.mp q
    omega
  refine va_copyi hx hb (hml.trans hsz.symm) hown (hFK.use _ w1) (hFK.use _ w2) (hFK.use _ w3) (hFK.use _ w4) hFK.1 hF.1 hF.2.1 hF.2.2.1 k0 k1 0 0 hk0 hk1 rfl rfl rfl (nn r0 hb2.1) (nn r1 hb2.2.1) (nn r2 hb2.2.2.1) (by rw [of_clamp r0, of_clamp r2]; omega) (by rw [of_clamp r1, of_clamp r2]; omega) (fun _ _ => rfl) hframes hlocals hdg ?_
  intro H1 locs1 g1 g2 g3
  have hcp : ∀ b, b ≠ a → fcell cy K P J (cpy I a0 a sp.toNat dp.toNat k.toNat) b = fcell cy K P J I b := by
    intro b hb3
    have q1 : ∀ j, cpy I a0 a sp.toNat dp.toNat k.toNat b j = I b j := fun j => by simp [cpy, hb3]
    have q2 : fobj cy P (cpy I a0 a sp.toNat dp.toNat k.toNat) (kci (K b)) b = fobj cy P I (kci (K b)) b := by
      unfold fobj
      apply List.map_congr_left
      intro j _
      simp only [fval, q1]
    have q3 : farr cy P J (cpy I a0 a sp.toNat dp.toNat k.toNat) (K b % 4) b = farr cy P J I (K b % 4) b := by
      unfold farr
      simp only [q1]
    simp only [fcell, q2, q3]
  have he := fl_set (g := fcell cy K P J (cpy I a0 a sp.toNat dp.toNat k.toNat)) hF.2.1 (hF.2.2.2.1 a (by omega)) hk2 (hcell _ a n1 h1) hcp
  have hf : va_cpy (fun j => Int32.ofInt (I a0 j)) (fun j => Int32.ofInt (I a j)) (Int32.ofInt sp).toNatClampNeg (Int32.ofInt dp).toNatClampNeg (Int32.ofInt k).toNatClampNeg = fun j => Int32.ofInt (cpy I a0 a sp.toNat dp.toNat k.toNat a j) := by
    funext j
    rw [of_clamp r0, of_clamp r1, of_clamp r2]
    unfold va_cpy cpy
    by_cases hj : dp.toNat ≤ j ∧ j < dp.toNat + k.toNat
    · rw [if_pos hj, if_pos ⟨rfl, hj⟩]
    · rw [if_neg hj, if_neg (fun q => hj q.2)]
  rw [hf, he] at g1 g2
  exact kk H1 locs1 ⟨g1, g2, g3, hF.2.2.2.1, hF.2.2.2.2.1, hF.2.2.2.2.2.1, rgI_cpy hF.2.2.2.2.2.2 _ _ _ _ _⟩
theorem fl_runSG (C0 : FC D cy B p s m meth c own cc nL) (hF : FS D cy B L K P J s.heap I H locs) (hsz : ls.size = nL)
    (hM : Met l y [.code y bytes maxL ret] rm (va_Pc As (FW D cy B L K P J I)) Qc mc ms (fun q => B ≤ q)) (w1 : Cond.methodLink own idx y ∈ AW) (w2 : Cond.static y ∈ AW) (w4 : Cond.initialized y.cls ∈ AW) (w5 : Cond.code y bytes maxL ret ∈ AW)
    (hn : As.length = n) (hd : plainM y n) (hrc : rm.cells = mc) (hrs : rm.slots = ms) (hR : rooms R rm maxL) (hst : st0 = As.reverse ++ rest) (hW : (rest.map fun v => v.category).sum ≤ 8) (hdg : decode cc pc = .ok (.invokestatic idx, 3)) (hf : cells + mc ≤ R.cells ∧ slots + ms ≤ R.slots) :
    va_Run p l e R s m args below meth c H locs cells slots mc ms (F0 m pc ls st0) rest (Qc As.toArray) (fun q => B ≤ q) := by
  obtain ⟨hx, hb, hml, hown, -, hFK, hFZ⟩ := C0
  exact va_runS (Ts := AW) ⟨hx, hb, hml, hown, hFK.use⟩ hM ⟨callB_of n hFK.use (gi_1 w5 rfl) rfl hrc hrs (hFK.use _ w4) (hFK.use _ w1) hd hR, hFK.use _ w2⟩ ⟨FW.blind, hF.pre hFK hFZ _⟩ rfl hn hsz hst (lv_room hW) hdg hf
theorem fl_runSN {host : String} (C0 : FC D cy B p s m meth c own cc nL) (hF : FS D cy B L K P J s.heap I H locs) (hsz : ls.size = nL)
    (hM : Met l y [.code y bytes maxL ret] rm (va_Pc As (FW D cy B L K P J I)) Qc mc ms (fun q => B ≤ q)) (w1 : Cond.methodLinkNest own idx y host ∈ AW) (w2 : Cond.static y ∈ AW) (w4 : Cond.initialized y.cls ∈ AW) (w5 : Cond.code y bytes maxL ret ∈ AW)
    (hn : As.length = n) (hd : plainM y n) (hrc : rm.cells = mc) (hrs : rm.slots = ms) (hR : rooms R rm maxL) (hst : st0 = As.reverse ++ rest) (hW : (rest.map fun v => v.category).sum ≤ 8) (hdg : decode cc pc = .ok (.invokestatic idx, 3)) (hf : cells + mc ≤ R.cells ∧ slots + ms ≤ R.slots) :
    va_Run p l e R s m args below meth c H locs cells slots mc ms (F0 m pc ls st0) rest (Qc As.toArray) (fun q => B ≤ q) := by
  obtain ⟨hx, hb, hml, hown, -, hFK, hFZ⟩ := C0
  exact va_runSN (Ts := AW) ⟨hx, hb, hml, hown, hFK.use⟩ hM ⟨va_cnB n hFK.use (gi_1 w5 rfl) rfl hrc hrs (hFK.2.1 _ w1) (hFK.use _ w4) hd hR, hFK.use _ w2, trivial⟩ ⟨FW.blind, hF.pre hFK hFZ _⟩ rfl hn hsz hst (lv_room hW) hdg hf
def imax (x y : Int) : Int := if x < y then y else x
def imin (x y : Int) : Int := if y < x then y else x
def iabs (x : Int) : Int := if 0 ≤ x then x else wr (0 - x)
theorem rg_imax {x y : Int} (hx : rg x) (hy : rg y) : rg (imax x y) := by unfold imax; split <;> assumption
theorem rg_imin {x y : Int} (hx : rg x) (hy : rg y) : rg (imin x y) := by unfold imin; split <;> assumption
theorem rg_iabs {x : Int} (hx : rg x) : rg (iabs x) := by
  unfold iabs
  split
  · exact hx
  · exact rg_wr _
theorem fl_max {x z : Int} (C0 : FC D cy B p s m meth c own cc nL) (hsz : ls.size = nL) (rx : rg x) (rz : rg z) (w1 : Cond.methodLink own idx yJ9_max_7cf53 ∈ AW) (hfr : 1 ≤ R.frames) (hlo : (rest.map fun v => v.category).sum + 13 ≤ R.locals) (hc : cells ≤ R.cells) (hs : slots ≤ R.slots) (hdg : decode cc pc = .ok (.invokestatic idx, 3))
    (kk : W p l e R s m args below meth c H locs cells slots Q (F0 m (pc + 3) ls (iv (imax x z) :: rest))) : W p l e R s m args below meth c H locs cells slots Q (F0 m pc ls (iv z :: iv x :: rest)) := by
  obtain ⟨hx, hb, hml, hown, -, hFK, -⟩ := C0
  refine va_mmax hx hb (hml.trans hsz.symm) hown (hFK.use _ w1) (hFK.use _ aw_486) (hFK.use _ aw_62) (hFK.use _ aw_487) hfr hlo hc hs hdg ?_
  have h : (if Int32.ofInt x < Int32.ofInt z then Int32.ofInt z else Int32.ofInt x) = Int32.ofInt (imax x z) := by
    unfold imax
    by_cases q : x < z
    · rw [if_pos ((of_lt rx rz).mpr q), if_pos q]
    · rw [if_neg (fun h => q ((of_lt rx rz).mp h)), if_neg q]
  rw [h]
  exact kk
theorem fl_min {x z : Int} (C0 : FC D cy B p s m meth c own cc nL) (hsz : ls.size = nL) (rx : rg x) (rz : rg z) (w1 : Cond.methodLink own idx yJ9_min_7cf53 ∈ AW) (hfr : 1 ≤ R.frames) (hlo : (rest.map fun v => v.category).sum + 13 ≤ R.locals) (hc : cells ≤ R.cells) (hs : slots ≤ R.slots) (hdg : decode cc pc = .ok (.invokestatic idx, 3))
    (kk : W p l e R s m args below meth c H locs cells slots Q (F0 m (pc + 3) ls (iv (imin x z) :: rest))) : W p l e R s m args below meth c H locs cells slots Q (F0 m pc ls (iv z :: iv x :: rest)) := by
  obtain ⟨hx, hb, hml, hown, -, hFK, -⟩ := C0
  refine va_mmin hx hb (hml.trans hsz.symm) hown (hFK.use _ w1) (hFK.use _ aw_501) (hFK.use _ aw_62) (hFK.use _ aw_502) hfr hlo hc hs hdg ?_
  have h : (if Int32.ofInt z < Int32.ofInt x then Int32.ofInt z else Int32.ofInt x) = Int32.ofInt (imin x z) := by
    unfold imin
    by_cases q : z < x
    · rw [if_pos ((of_lt rz rx).mpr q), if_pos q]
    · rw [if_neg (fun h => q ((of_lt rz rx).mp h)), if_neg q]
  rw [h]
  exact kk
theorem fl_abs {x : Int} (C0 : FC D cy B p s m meth c own cc nL) (hsz : ls.size = nL) (rx : rg x) (w1 : Cond.methodLink own idx yJ9_abs_0f7a4 ∈ AW) (hfr : 1 ≤ R.frames) (hlo : (rest.map fun v => v.category).sum + 13 ≤ R.locals) (hc : cells ≤ R.cells) (hs : slots ≤ R.slots) (hdg : decode cc pc = .ok (.invokestatic idx, 3))
    (kk : W p l e R s m args below meth c H locs cells slots Q (F0 m (pc + 3) ls (iv (iabs x) :: rest))) : W p l e R s m args below meth c H locs cells slots Q (F0 m pc ls (iv x :: rest)) := by
  obtain ⟨hx, hb, hml, hown, -, hFK, -⟩ := C0
  refine va_mabs hx hb (hml.trans hsz.symm) hown (hFK.use _ w1) (hFK.use _ aw_434) (hFK.use _ aw_62) (hFK.use _ aw_435) hfr hlo hc hs hdg ?_
  have r0 : rg 0 := ⟨by decide, by decide⟩
  have e0 : (0 : Int32) = Int32.ofInt 0 := rfl
  have h : (if 0 ≤ Int32.ofInt x then Int32.ofInt x else 0 - Int32.ofInt x) = Int32.ofInt (iabs x) := by
    unfold iabs
    rw [e0]
    by_cases q : 0 ≤ x
    · rw [if_pos ((of_le r0 rx).mpr q), if_pos q]
    · rw [if_neg (fun h => q ((of_le r0 rx).mp h)), if_neg q, of_sub]
  rw [h]
  exact kk
end FL
/-- an element of a list, of the code t -/
def lgetf (K : KT) (P : PT) (I : IT) (a : Nat) (i : Int) (t : Nat) : Option Nat :=
  ck (0 ≤ i ∧ i < I a 2 ∧ 100 ≤ K (P a 1) ∧ K (P a 1) % 4 = 2 ∧ i < (((K (P a 1) - 100) / 4 : Nat) : Int) ∧ K (P (P a 1) i.toNat) = t ∧ t ≠ 0) (some (P (P a 1) i.toNat))
section LST
variable (l : Launch) (D : va_G) (cy : Nat → ClassId) (B : Nat) (L : List Nat) (K : KT) (P : PT) (J : IT) (I : IT)
theorem c_chk3 (i n : Int) (ri : rg i) (rn : rg n) (h : 0 ≤ i ∧ i < n) : Met l yJ3_checkIndex_8e157 [.code yJ3_checkIndex_8e157 cJ3_checkIndex_8e157 3 (some .int)] { frames := 0, cells := 0, slots := 0, locals := 0 } (va_Pc [iv i, iv n, .null] (FW D cy B L K P J I)) (QI D cy B L K P J (i, I)) 0 0 (fun q => B ≤ q) := by
  refine fl_body (own := "jdk/internal/util/Preconditions") [iv i, iv n, .null] (by decide) rfl (Nat.le_of_ble_eq_true rfl) ?_
  intro p e s m args below meth c ls C0 hr hF hl
  have hl : lv_has ls 3 [(0, iv i), (1, iv n), (2, .null)] := hl
  refine lv_iload_n C0.1 C0.2.1 dJ3_checkIndex_8e157_0 rfl (lv_at hl 0 rfl) ?_
  refine fl_if_lt (tgt := 9) C0 ri dJ3_checkIndex_8e157_1 (by decide) (fun c1 => absurd c1 (by omega)) (fun c1 => ?_)
  refine lv_iload_n C0.1 C0.2.1 dJ3_checkIndex_8e157_4 rfl (lv_at hl 0 rfl) ?_
  refine lv_iload_n C0.1 C0.2.1 dJ3_checkIndex_8e157_5 rfl (lv_at hl 1 rfl) ?_
  refine fl_icmp_lt (tgt := 16) C0 ri rn dJ3_checkIndex_8e157_6 (by decide) (fun c1 => ?_) (fun c1 => absurd h.2 c1)
  refine lv_iload_n C0.1 C0.2.1 dJ3_checkIndex_8e157_16 rfl (lv_at hl 0 rfl) ?_
  exact fl_iret C0 hF hr ri rfl dJ3_checkIndex_8e157_17
theorem pm_chk3 : plainM yJ3_checkIndex_8e157 3 := by decide +kernel
theorem c_chk15 (i n : Int) (ri : rg i) (rn : rg n) (h : 0 ≤ i ∧ i < n) : Met l yJ15_checkIndex_7cf53 [.code yJ15_checkIndex_7cf53 cJ15_checkIndex_7cf53 2 (some .int)] { frames := 1, cells := 0, slots := 0, locals := 22 } (va_Pc [iv i, iv n] (FW D cy B L K P J I)) (QI D cy B L K P J (i, I)) 0 0 (fun q => B ≤ q) := by
  refine fl_body (own := "java/util/Objects") [iv i, iv n] (by decide) rfl (Nat.le_of_ble_eq_true rfl) ?_
  intro p e s m args below meth c ls C0 hr hF hl
  have hl : lv_has ls 2 [(0, iv i), (1, iv n)] := hl
  refine lv_iload_n C0.1 C0.2.1 dJ15_checkIndex_7cf53_0 rfl (lv_at hl 0 rfl) ?_
  refine lv_iload_n C0.1 C0.2.1 dJ15_checkIndex_7cf53_1 rfl (lv_at hl 1 rfl) ?_
  refine lv_null C0.1 C0.2.1 dJ15_checkIndex_7cf53_2 ?_
  refine fl_ri hF (fl_runSG (As := [iv i, iv n, .null]) (rest := []) C0 hF hl.1 (c_chk3 l D cy B L K P J I i n ri rn h) aw_355 aw_356 aw_65 aw_357 rfl pm_chk3 rfl rfl ⟨Nat.le_of_ble_eq_true rfl, Nat.le_of_ble_eq_true rfl⟩ rfl (Nat.le_of_ble_eq_true rfl) dJ15_checkIndex_7cf53_3 ⟨Nat.le_of_ble_eq_true rfl, Nat.le_of_ble_eq_true rfl⟩) (fun H locs hF rr => ?_)
  exact fl_iret C0 hF hr ri rfl dJ15_checkIndex_7cf53_6
theorem pm_chk15 : plainM yJ15_checkIndex_7cf53 2 := by decide +kernel
theorem c_ed (a : Nat) (i : Int) (co : Nat) (ka : K a = co) (ho : gok co 0 1 true = true) (ri : rg i) (h1 : 100 ≤ K (P a 1)) (h2 : K (P a 1) % 4 = 2) (h3 : 0 ≤ i ∧ i < (((K (P a 1) - 100) / 4 : Nat) : Int)) (h4 : K (P (P a 1) i.toNat) ≠ 0) : Met l yJx4a65c_elementData_915e3 [.code yJx4a65c_elementData_915e3 cJx4a65c_elementData_915e3 2 (some (.object "java/lang/Object"))] { frames := 0, cells := 0, slots := 0, locals := 0 } (va_Pc [.ref a, iv i] (FW D cy B L K P J I)) (QR D cy B L K P J (P (P a 1) i.toNat, I)) 0 0 (fun q => B ≤ q) := by
  refine fl_body (own := "java/util/ArrayList") [.ref a, iv i] (by decide) rfl (Nat.le_of_ble_eq_true rfl) ?_
  intro p e s m args below meth c ls C0 hr hF hl
  have hl : lv_has ls 2 [(0, .ref a), (1, iv i)] := hl
  refine lv_aload_n C0.1 C0.2.1 dJx4a65c_elementData_915e3_0 rfl (lv_at hl 0 rfl) ?_
  refine fl_getr (k := 1) (t := K (P a 1)) ck_0 C0 hF ka ho rfl (by simp only [bne_iff_ne]; omega) ⟨rfl, rfl⟩ aw_152 dJx4a65c_elementData_915e3_1 ?_
  refine lv_iload_n C0.1 C0.2.1 dJx4a65c_elementData_915e3_4 rfl (lv_at hl 1 rfl) ?_
  refine fl_aald (n := (K (P a 1) - 100) / 4) C0 hF (by omega) ri h3 h4 dJx4a65c_elementData_915e3_5 ?_
  exact fl_aret C0 hF hr rfl dJx4a65c_elementData_915e3_6
theorem pm_ed : plainM yJx4a65c_elementData_915e3 1 := by decide +kernel
abbrev rm_get : Room := { frames := 2, cells := 0, slots := 0, locals := 43 }
theorem c_get (a : Nat) (i : Int) (co t : Nat) (ka : K a = co) (ho : cok co 0 = true) (ri : rg i) {r : Nat} (hf : lgetf K P I a i t = some r) : Met l yJx4a65c_get_915e3 [.code yJx4a65c_get_915e3 cJx4a65c_get_915e3 2 (some (.object "java/lang/Object"))] rm_get (va_Pc [.ref a, iv i] (FW D cy B L K P J I)) (QR D cy B L K P J (r, I)) 0 0 (fun q => B ≤ q) := by
  refine fl_body (own := "java/util/ArrayList") [.ref a, iv i] (by decide) rfl (Nat.le_of_ble_eq_true rfl) ?_
  intro p e s m args below meth c ls C0 hr hF hl
  have hl : lv_has ls 2 [(0, .ref a), (1, iv i)] := hl
  obtain ⟨⟨h1, h2, h3, h4, h5, h6, h7⟩, hf⟩ := ck_f hf
  cases hf
  have g1 : gok co 0 1 true = true := by
    obtain ⟨q1, q2, q3⟩ := cok_of ho
    simp only [gok, Bool.and_eq_true, bne_iff_ne, decide_eq_true_eq, beq_iff_eq]
    exact ⟨⟨⟨⟨q1, q2⟩, q3⟩, by decide⟩, rfl⟩
  have g2 : gok co 0 2 false = true := by
    obtain ⟨q1, q2, q3⟩ := cok_of ho
    simp only [gok, Bool.and_eq_true, bne_iff_ne, decide_eq_true_eq, beq_iff_eq]
    exact ⟨⟨⟨⟨q1, q2⟩, q3⟩, by decide⟩, rfl⟩
  refine lv_iload_n C0.1 C0.2.1 dJx4a65c_get_915e3_0 rfl (lv_at hl 1 rfl) ?_
  refine lv_aload_n C0.1 C0.2.1 dJx4a65c_get_915e3_1 rfl (lv_at hl 0 rfl) ?_
  refine fl_geti (k := 2) ck_0 C0 hF ka g2 ⟨rfl, rfl⟩ aw_153 dJx4a65c_get_915e3_2 ?_
  refine fl_ri hF (fl_runSG (As := [iv i, iv (I a 2)]) (rest := []) C0 hF hl.1 (c_chk15 l D cy B L K P J I i (I a 2) ri (hF.rI _ _) ⟨h1, h2⟩) aw_352 aw_353 aw_64 aw_354 rfl pm_chk15 rfl rfl ⟨Nat.le_of_ble_eq_true rfl, Nat.le_of_ble_eq_true rfl⟩ rfl (Nat.le_of_ble_eq_true rfl) dJx4a65c_get_915e3_5 ⟨Nat.le_of_ble_eq_true rfl, Nat.le_of_ble_eq_true rfl⟩) (fun H locs hF rr => ?_)
  refine lv_pop C0.1 C0.2.1 dJx4a65c_get_915e3_8 rfl ?_
  refine lv_aload_n C0.1 C0.2.1 dJx4a65c_get_915e3_9 rfl (lv_at hl 0 rfl) ?_
  refine lv_iload_n C0.1 C0.2.1 dJx4a65c_get_915e3_10 rfl (lv_at hl 1 rfl) ?_
  refine fl_rr hF (fl_runV (As := [iv i]) (rest := []) C0 hF hl.1 ck_0 ka ho (c_ed l D cy B L K P J I a i co ka g1 ri h3 h4 ⟨h1, h5⟩ (by rw [h6]; exact h7)) aw_358 aw_359 aw_360 aw_51 aw_361 rfl rfl pm_ed rfl rfl ⟨Nat.le_of_ble_eq_true rfl, Nat.le_of_ble_eq_true rfl⟩ rfl (Nat.le_of_ble_eq_true rfl) dJx4a65c_get_915e3_11 ⟨Nat.le_of_ble_eq_true rfl, Nat.le_of_ble_eq_true rfl⟩) (fun H locs hF => ?_)
  exact fl_aret C0 hF hr rfl dJx4a65c_get_915e3_14
theorem pm_get : plainM yJx4a65c_get_915e3 1 := by decide +kernel
theorem lget_k {K : KT} {P : PT} {I : IT} {a t r : Nat} {i : Int} (h : lgetf K P I a i t = some r) : K r = t := by
  obtain ⟨⟨-, -, -, -, -, h6, -⟩, hf⟩ := ck_f h
  cases hf
  exact h6
abbrev rm_size : Room := { frames := 0, cells := 0, slots := 0, locals := 0 }
theorem c_size (a co : Nat) (ka : K a = co) (ho : cok co 0 = true) : Met l yJx4a65c_size_8abf5 [.code yJx4a65c_size_8abf5 cJx4a65c_size_8abf5 1 (some .int)] rm_size (va_Pc [.ref a] (FW D cy B L K P J I)) (QI D cy B L K P J (I a 2, I)) 0 0 (fun q => B ≤ q) := by
  refine fl_body (own := "java/util/ArrayList") [.ref a] (by decide) rfl (Nat.le_of_ble_eq_true rfl) ?_
  intro p e s m args below meth c ls C0 hr hF hl
  have hl : lv_has ls 1 [(0, .ref a)] := hl
  have g2 : gok co 0 2 false = true := by
    obtain ⟨q1, q2, q3⟩ := cok_of ho
    simp only [gok, Bool.and_eq_true, bne_iff_ne, decide_eq_true_eq, beq_iff_eq]
    exact ⟨⟨⟨⟨q1, q2⟩, q3⟩, by decide⟩, rfl⟩
  refine lv_aload_n C0.1 C0.2.1 dJx4a65c_size_8abf5_0 rfl (lv_at hl 0 rfl) ?_
  refine fl_geti (k := 2) ck_0 C0 hF ka g2 ⟨rfl, rfl⟩ aw_153 dJx4a65c_size_8abf5_1 ?_
  exact fl_iret C0 hF hr (hF.rI _ _) rfl dJx4a65c_size_8abf5_4
theorem pm_size : plainM yJx4a65c_size_8abf5 0 := by decide +kernel
end LST
