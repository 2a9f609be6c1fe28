section LADD
variable (l : Launch) (D : va_G) (cy : Nat → ClassId) (B : Nat) (L : List Nat) (K : KT) (P : PT) (J : IT) (I : IT)
/-- newLength, where it stays in range -/
theorem c_newlen (o g h : Int) (ro : rg o) (rgg : rg g) (rh : rg h) (h1 : 0 < wr (o + imax g h)) (h2 : wr (o + imax g h) ≤ 2147483639) : Met l yJ8_newLength_cabcc [.code yJ8_newLength_cabcc cJ8_newLength_cabcc 4 (some .int)] { frames := 1, cells := 0, slots := 0, locals := 21 } (va_Pc [iv o, iv g, iv h] (FW D cy B L K P J I)) (QI D cy B L K P J (wr (o + imax g h), I)) 0 0 (fun q => B ≤ q) := by
  refine fl_body (own := "jdk/internal/util/ArraysSupport") [iv o, iv g, iv h] (by decide) rfl (Nat.le_of_ble_eq_true rfl) ?_
  intro p e s m args below meth c ls C0 hr hF hl
  have hl : lv_has ls 4 [(0, iv o), (1, iv g), (2, iv h)] := hl
  refine lv_iload_n C0.1 C0.2.1 dJ8_newLength_cabcc_0 rfl (lv_at hl 0 rfl) ?_
  refine lv_iload_n C0.1 C0.2.1 dJ8_newLength_cabcc_1 rfl (lv_at hl 1 rfl) ?_
  refine lv_iload_n C0.1 C0.2.1 dJ8_newLength_cabcc_2 rfl (lv_at hl 2 rfl) ?_
  refine fl_max C0 hl.1 rgg rh aw_639 (Nat.le_of_ble_eq_true rfl) (Nat.le_of_ble_eq_true rfl) (Nat.le_of_ble_eq_true rfl) (Nat.le_of_ble_eq_true rfl) dJ8_newLength_cabcc_3 ?_
  refine fl_iadd C0 dJ8_newLength_cabcc_6 ?_
  refine lv_istore_n (lv' := [(3, iv (wr (o + imax g h))), (0, iv o), (1, iv g), (2, iv h)]) C0.1 C0.2.1 dJ8_newLength_cabcc_7 rfl hl (by decide) rfl (fun ls hl => ?_)
  refine fl_iconst C0 dJ8_newLength_cabcc_8 ?_
  refine lv_iload_n C0.1 C0.2.1 dJ8_newLength_cabcc_9 rfl (lv_at hl 0 rfl) ?_
  refine fl_icmp_ge (tgt := 21) C0 (rgk 0 rfl) (rg_wr _) dJ8_newLength_cabcc_10 (by decide) (fun c1 => absurd c1 (by omega)) (fun c1 => ?_)
  refine lv_iload_n C0.1 C0.2.1 dJ8_newLength_cabcc_13 rfl (lv_at hl 0 rfl) ?_
  refine fl_ldc (n := 2147483639) C0 aw_640 rfl dJ8_newLength_cabcc_14 ?_
  refine fl_icmp_gt (tgt := 21) C0 (rg_wr _) (rgk _ rfl) dJ8_newLength_cabcc_16 (by decide) (fun c1 => absurd c1 (by omega)) (fun c1 => ?_)
  refine lv_iload_n C0.1 C0.2.1 dJ8_newLength_cabcc_19 rfl (lv_at hl 0 rfl) ?_
  exact fl_iret C0 hF hr (rg_wr _) rfl dJ8_newLength_cabcc_20
theorem pm_newlen : plainM yJ8_newLength_cabcc 3 := by decide +kernel
/-- an answer that is a new row: its address q -/
abbrev QN (D : va_G) (cy : Nat → ClassId) (B : Nat) (L : List Nat) (J : IT) (g : Nat → KT × PT × IT) : Array Value → State → Outcome → State → Prop := va_Qr (fun (q : Nat) => q ∉ L ∧ 1 < q) (fun q a t => a = q ∧ FW D cy B (L ++ [q]) (g q).1 (g q).2.1 J (g q).2.2 t) (fun q => B ≤ q)
end LADD
section LRN
variable {p : Program} {l : Launch} {e : Env} {R : Room} {s : State} {m : MethodId} {args : Array Value} {below : List Frame} {meth : Method} {c : Code} {H : Heap} {locs : List Loc} {cells slots mc ms : Nat} {Q : State → Prop}
variable {D : va_G} {cy : Nat → ClassId} {B : Nat} {L : List Nat} {K : KT} {P : PT} {J I : IT} {own : String} {cc : ByteArray} {nL pc : Nat} {ls : Array Slot} {rest st0 : List Value}
theorem fl_rn {g : Nat → KT × PT × IT} {a : Array Value} (hF : FS D cy B L K P J s.heap I H locs) (hr : va_Run p l e R s m args below meth c H locs cells slots mc ms (F0 m pc ls st0) rest (QN D cy B L J g a) (fun q => B ≤ q))
    (kk : ∀ (q : Nat) (H1 : Heap) (locs1 : List Loc), q ∉ L → 1 < q → FS D cy B (L ++ [q]) (g q).1 (g q).2.1 J s.heap (g q).2.2 H1 locs1 → W p l e R s m args below meth c H1 locs1 (cells + mc) (slots + ms) Q (F0 m (pc + 3) ls (.ref q :: rest))) : W p l e R s m args below meth c H locs cells slots Q (F0 m pc ls st0) :=
  va_callr hr hF.2.2.1 (fun _ _ h => h) (fun _ h => h) (fun u ra t H1 locs1 ht _ hp hw _ _ hS => by obtain ⟨rfl, hw⟩ := hw; exact kk ra H1 locs1 hp.1 hp.2 (hF.afterA ht hS hw.1))
theorem fl_nret {g : Nat → KT × PT × IT} {q : Nat} {ty : FieldType} (C0 : FC D cy B p s m meth c own cc nL) (hF : FS D cy B (L ++ [q]) (g q).1 (g q).2.1 J s.heap (g q).2.2 H locs) (hr : meth.sig.returnType = some (.array ty)) (hq : q ∉ L) (h1 : 1 < q) (hdg : decode cc pc = .ok (.areturn, 1)) (hmc : cells ≤ mc) (hms : slots ≤ ms) : W p l e R s m args below meth c H locs cells slots (MQ below (QN D cy B L J g) args s mc ms (fun q => B ≤ q)) (F0 m pc ls [.ref q]) := by
  obtain ⟨hx, hb, -, -, hlocks, hFK, hFZ⟩ := C0
  exact W.widen hmc hms (W.aret hx hb hr (Or.inr ⟨_, rfl⟩) (Or.inr ⟨_, rfl⟩) (fun t ht hW => ⟨⟨q, q, rfl, ⟨hq, h1⟩, rfl, hF.world hFK hFZ ht hW⟩, hF.2.2.1.F ht⟩) (fun q hq => hF.2.2.1.2.2 q hq) hdg (hlocks := hlocks))
end LRN
section LADD2
variable (l : Launch) (D : va_G) (cy : Nat → ClassId) (B : Nat) (L : List Nat) (K : KT) (P : PT) (J : IT) (I : IT)
/-- a class's objects may lie in a list: the code's class, castable -/
def Elt (t civ : Nat) (Cv : String) (Tv : u_T) (tyv : Nat → FieldType) : Prop := Cls civ Cv Tv tyv ∧ cok t civ = true ∧ Cond.castable Cv "java/lang/Object" ∈ AW
theorem c_copy3 (arr n0 t civ mi : Nat) (Cv : String) (Tv : u_T) (tyv : Nat → FieldType) (hE : Elt t civ Cv Tv tyv) (N : Int) (rN : rg N) (k0 : K arr = 102 + 4 * n0) (hN : (n0 : Int) ≤ N ∧ N ≤ 2000) (hel : ∀ j, j < n0 → P arr j = 0 ∨ K (P arr j) = t) :
    Met l yJ7_copyOf_6403c [.code yJ7_copyOf_6403c cJ7_copyOf_6403c 4 (some (.array (.object "java/lang/Object")))] { frames := 1, cells := 1, slots := 2000, locals := 30 } (va_Pc [.ref arr, iv N, .ref mi] (fun U => FW D cy B L K P J I U ∧ va_Mi "[Ljava/lang/Object;" mi U)) (QN D cy B L J (fun q => (va_up K q (102 + 4 * N.toNat), cpyP (clrN P q) arr q 0 0 n0, clr I q))) 1 2000 (fun q => B ≤ q) := by
  refine Met.ofW (cc := cJ7_copyOf_6403c) (maxL := 4) (ret := some (.array (.object "java/lang/Object"))) (by decide) rfl ?_
  intro p e s m args below meth c s₁ B0 hml hv
  obtain ⟨rfl, ⟨hF, hFK, hFZ⟩, hMi⟩ := hv
  have hF00 := hF
  have hl := lv_entry [.ref arr, iv N, .ref mi] (n := 4) (Nat.le_of_ble_eq_true rfl)
  rw [lg_entry_eq]
  generalize (lg_sl [.ref arr, iv N, .ref mi] ++ List.replicate (4 - (lg_sl [.ref arr, iv N, .ref mi]).length) Slot.unset).toArray = ls at hl ⊢
  have C0 : FC D cy B p s m meth c "java/util/Arrays" cJ7_copyOf_6403c 4 := FC.ofB B0 hml hFK hFZ
  have hr := B0.returns
  have hl : lv_has ls 4 [(0, .ref arr), (1, iv N), (2, .ref mi)] := hl
  refine lv_aload_n C0.1 C0.2.1 dJ7_copyOf_6403c_0 rfl (lv_at hl 2 rfl) ?_
  refine va_ldcM C0.1 C0.2.1 C0.2.2.2.1 (hFK.use _ aw_666) hMi dJ7_copyOf_6403c_1 ?_
  refine lv_acmp_ne (rx := some mi) (ry := some mi) (tgt := 13) C0.1 C0.2.1 dJ7_copyOf_6403c_3 (by decide) (fun h => absurd rfl h) (fun _ => ?_)
  refine lv_iload_n C0.1 C0.2.1 dJ7_copyOf_6403c_6 rfl (lv_at hl 1 rfl) ?_
  refine fl_newr C0 hF rN (by omega) (by omega) aw_668 (Nat.le_of_ble_eq_true rfl) (by show 0 + N.toNat ≤ 2000; omega) dJ7_copyOf_6403c_7 (fun q H hq hF => ?_)
  have h1q : 1 < q := hF.ne0 (by rw [va_up_self]; omega)
  have hne : arr ≠ q := nn hF00 hq k0 (by simp only [bne_iff_ne]; omega)
  refine fl_goto (tgt := 24) C0 dJ7_copyOf_6403c_10 (by decide) ?_
  refine lv_astore_n (lv' := [(3, .ref q), (0, .ref arr), (1, iv N), (2, .ref mi)]) C0.1 C0.2.1 dJ7_copyOf_6403c_24 rfl hl (by decide) rfl (fun ls hl => ?_)
  refine lv_aload_n C0.1 C0.2.1 dJ7_copyOf_6403c_25 rfl (lv_at hl 1 rfl) ?_
  refine fl_iconst C0 dJ7_copyOf_6403c_26 ?_
  refine lv_aload_n C0.1 C0.2.1 dJ7_copyOf_6403c_27 rfl (lv_at hl 0 rfl) ?_
  refine fl_iconst C0 dJ7_copyOf_6403c_28 ?_
  refine lv_aload_n C0.1 C0.2.1 dJ7_copyOf_6403c_29 rfl (lv_at hl 1 rfl) ?_
  have k0' : va_up K q (102 + 4 * N.toNat) arr = 102 + 4 * n0 := by rw [va_up_ne _ _ hne, k0]
  refine fl_alen (n := n0) (kd := 2) C0 hF (by rw [k0']; omega) (by decide) dJ7_copyOf_6403c_30 ?_
  refine lv_iload_n C0.1 C0.2.1 dJ7_copyOf_6403c_31 rfl (lv_at hl 2 rfl) ?_
  have rn0 : rg (n0 : Int) := ⟨by omega, by omega⟩
  refine fl_min C0 hl.1 rn0 rN aw_669 (Nat.le_of_ble_eq_true rfl) (Nat.le_of_ble_eq_true rfl) (Nat.le_of_ble_eq_true rfl) (by show 0 + N.toNat ≤ 2000; omega) dJ7_copyOf_6403c_32 ?_
  have hmin : imin (n0 : Int) N = n0 := by unfold imin; rw [if_neg (by omega)]
  rw [hmin]
  refine fl_acopyq (N := (n0 : Int)) (n0 := n0) (n1 := N.toNat) (t := t) hE.1 C0 hF hl.1 k0' (va_up_self _ _ _) rn0 ⟨by omega, by omega, by omega⟩ ?_ hE.2.1 hE.2.2 aw_670 aw_619 aw_618 aw_60 (Nat.le_of_ble_eq_true rfl) (Nat.le_of_ble_eq_true rfl) dJ7_copyOf_6403c_35 (fun H locs hF => ?_)
  · intro j hj
    have e1 : clrN P q arr j = P arr j := by simp [clrN, hne]
    rw [e1]
    rcases hel j hj with h | h
    · exact Or.inl h
    · refine Or.inr ?_
      obtain ⟨g1, -, -⟩ := cok_of hE.2.1
      exact kn hF00 hq h (by rw [bne_iff_ne]; exact g1)
  · refine lv_aload_n C0.1 C0.2.1 dJ7_copyOf_6403c_38 rfl (lv_at hl 0 rfl) ?_
    rw [Int.toNat_natCast] at hF
    exact fl_nret (g := fun q => (va_up K q (102 + 4 * N.toNat), cpyP (clrN P q) arr q 0 0 n0, clr I q)) C0 hF hr hq h1q dJ7_copyOf_6403c_39 (Nat.le_refl _) (by omega)
theorem pm_copy3 : plainM yJ7_copyOf_6403c 3 := by decide +kernel
theorem c_copy2 (arr n0 t civ : Nat) (Cv : String) (Tv : u_T) (tyv : Nat → FieldType) (hE : Elt t civ Cv Tv tyv) (N : Int) (rN : rg N) (k0 : K arr = 102 + 4 * n0) (hN : (n0 : Int) ≤ N ∧ N ≤ 2000) (hel : ∀ j, j < n0 → P arr j = 0 ∨ K (P arr j) = t) :
    Met l yJ7_copyOf_1904c [.code yJ7_copyOf_1904c cJ7_copyOf_1904c 2 (some (.array (.object "java/lang/Object")))] { frames := 2, cells := 1, slots := 2000, locals := 60 } (va_Pc [.ref arr, iv N] (FW D cy B L K P J I)) (QN D cy B L J (fun q => (va_up K q (102 + 4 * N.toNat), cpyP (clrN P q) arr q 0 0 n0, clr I q))) 1 2000 (fun q => B ≤ q) := by
  refine fl_body (own := "java/util/Arrays") [.ref arr, iv N] (by decide) rfl (Nat.le_of_ble_eq_true rfl) ?_
  intro p e s m args below meth c ls C0 hr hF hl
  have hl : lv_has ls 2 [(0, .ref arr), (1, iv N)] := hl
  obtain ⟨mi, hMi⟩ := C0.2.2.2.2.2.1.2.2.2.2
  obtain ⟨ka, hka⟩ := hF.get (a := arr) (by omega)
  rw [fcell_arr (kd := 2) (n := n0) (by omega) (by decide), farr_ref] at hka
  have hnm : s.vm.findClass "[Ljava/lang/Object;" = some (cy 2) := va_nmO (C0.2.2.2.2.2.1.1.2 2 _ rfl).2 (by decide)
  refine lv_aload_n C0.1 C0.2.1 dJ7_copyOf_1904c_0 rfl (lv_at hl 0 rfl) ?_
  refine lv_iload_n C0.1 C0.2.1 dJ7_copyOf_1904c_1 rfl (lv_at hl 1 rfl) ?_
  refine lv_aload_n C0.1 C0.2.1 dJ7_copyOf_1904c_2 rfl (lv_at hl 0 rfl) ?_
  refine va_getC C0.1 C0.2.1 (C0.2.2.1.trans hl.1.symm) C0.2.2.2.1 (C0.2.2.2.2.2.1.use _ aw_647) (C0.2.2.2.2.2.1.use _ aw_854) (C0.2.2.2.2.2.1.use _ aw_853) (C0.2.2.2.2.2.1.use _ aw_648) (C0.2.2.2.2.2.1.use _ aw_662) hMi ⟨_, hF.1 ka _ hka, rfl, hnm⟩ (Nat.le_of_ble_eq_true rfl) (Nat.le_of_ble_eq_true rfl) dJ7_copyOf_1904c_3 ?_
  have C1 := C0
  obtain ⟨hx, hb, hml, hown, -, hFK, hFZ⟩ := C1
  refine fl_rn hF (va_runS (Ts := AW) (As := [.ref arr, iv N, .ref mi]) (rest := []) ⟨hx, hb, hml, hown, hFK.use⟩ (c_copy3 l D cy B L K P J I arr n0 t civ mi Cv Tv tyv hE N rN k0 hN hel) ⟨callB_of 3 hFK.use (gi_1 aw_665 rfl) rfl rfl rfl (hFK.use _ aw_59) (hFK.use _ aw_663) pm_copy3 ⟨Nat.le_of_ble_eq_true rfl, Nat.le_of_ble_eq_true rfl⟩, hFK.use _ aw_664⟩ ⟨fun a U g mk h => ⟨h.1, (FW.blind (av := a.toList) a U g mk ⟨by simp, h.2.1⟩).2, va_Mi.moved (u := U) (U := U.calling g mk a) (Vm.Alike.refl U.vm) h.2.2⟩, fun U hU hW => ⟨rfl, hF.world hFK hFZ hU hW, va_Mi.moved hW.alike hMi⟩⟩ rfl rfl hl.1 rfl (lv_room (Nat.le_of_ble_eq_true rfl)) dJ7_copyOf_1904c_6 ⟨Nat.le_of_ble_eq_true rfl, Nat.le_of_ble_eq_true rfl⟩) (fun q H locs hq h1q hF => ?_)
  exact fl_nret (g := fun q => (va_up K q (102 + 4 * N.toNat), cpyP (clrN P q) arr q 0 0 n0, clr I q)) C0 hF hr hq h1q dJ7_copyOf_1904c_9 (Nat.le_refl _) (Nat.le_refl _)
theorem pm_copy2 : plainM yJ7_copyOf_1904c 2 := by decide +kernel
theorem g1_of {co : Nat} (ho : cok co 0 = true) : gok co 0 1 true = true := by
  obtain ⟨q1, q2, q3⟩ := cok_of ho
  simp only [gok, Bool.and_eq_true, bne_iff_ne, decide_eq_true_eq, beq_iff_eq]
  exact ⟨⟨⟨⟨q1, q2⟩, q3⟩, by decide⟩, rfl⟩
theorem g2_of {co : Nat} (ho : cok co 0 = true) : gok co 0 2 false = true := by
  obtain ⟨q1, q2, q3⟩ := cok_of ho
  simp only [gok, Bool.and_eq_true, bne_iff_ne, decide_eq_true_eq, beq_iff_eq]
  exact ⟨⟨⟨⟨q1, q2⟩, q3⟩, by decide⟩, rfl⟩
theorem g0_of {co : Nat} (ho : cok co 0 = true) : gok co 0 0 false = true := by
  obtain ⟨q1, q2, q3⟩ := cok_of ho
  simp only [gok, Bool.and_eq_true, bne_iff_ne, decide_eq_true_eq, beq_iff_eq]
  exact ⟨⟨⟨⟨q1, q2⟩, q3⟩, by decide⟩, rfl⟩
theorem cne {co : Nat} (ho : cok co 0 = true) : (co != 0) = true := by
  obtain ⟨q1, -, -⟩ := cok_of ho
  rw [bne_iff_ne]; exact q1
/-- the first row of a list: ten places -/
theorem c_growF (a co : Nat) (ka : K a = co) (ho : cok co 0 = true) (h1 : P a 1 = 1) (N : Int) (rN : rg N) (hN : N ≤ 10) :
    Met l yJx4a65c_grow_92f84 [.code yJx4a65c_grow_92f84 cJx4a65c_grow_92f84 4 (some (.array (.object "java/lang/Object")))] { frames := 3, cells := 1, slots := 2000, locals := 90 } (va_Pc [.ref a, iv N] (FW D cy B L K P J I)) (QN D cy B L J (fun q => (va_up K q 142, up (clrN P q) a 1 q, clr I q))) 1 2000 (fun q => B ≤ q) := by
  refine fl_body (own := "java/util/ArrayList") [.ref a, iv N] (by decide) rfl (Nat.le_of_ble_eq_true rfl) ?_
  intro p e s m args below meth c ls C0 hr hF hl
  have hl : lv_has ls 4 [(0, .ref a), (1, iv N)] := hl
  have hF00 := hF
  refine lv_aload_n C0.1 C0.2.1 dJx4a65c_grow_92f84_0 rfl (lv_at hl 0 rfl) ?_
  refine fl_getr1 (k := 1) ck_0 C0 hF ka (g1_of ho) h1 ⟨rfl, rfl⟩ aw_152 dJx4a65c_grow_92f84_1 ?_
  refine va_tlen C0.1 C0.2.1 C0.2.2.2.2.2.2.2.2 hF.2.2.1 (v := Int32.ofInt 0) rfl dJx4a65c_grow_92f84_4 ?_
  refine lv_istore_n (lv' := [(2, iv 0), (0, .ref a), (1, iv N)]) C0.1 C0.2.1 dJx4a65c_grow_92f84_5 rfl hl (by decide) rfl (fun ls hl => ?_)
  refine lv_iload_n C0.1 C0.2.1 dJx4a65c_grow_92f84_6 rfl (lv_at hl 0 rfl) ?_
  refine fl_if_gt (tgt := 20) C0 (rgk 0 rfl) dJx4a65c_grow_92f84_7 (by decide) (fun c1 => absurd c1 (by decide)) (fun c1 => ?_)
  refine lv_aload_n C0.1 C0.2.1 dJx4a65c_grow_92f84_10 rfl (lv_at hl 1 rfl) ?_
  refine fl_getr1 (k := 1) ck_0 C0 hF ka (g1_of ho) h1 ⟨rfl, rfl⟩ aw_152 dJx4a65c_grow_92f84_11 ?_
  refine va_gets C0.1 C0.2.1 C0.2.2.2.2.2.2.2.1 hF.2.2.1 C0.2.2.2.1 (C0.2.2.2.2.2.1.use _ aw_150) (fun _ h => h) dJx4a65c_grow_92f84_14 ?_
  refine lv_acmp_eq (rx := some (cy 7)) (ry := some (cy 7)) (tgt := 45) C0.1 C0.2.1 dJx4a65c_grow_92f84_17 (by decide) (fun _ => ?_) (fun h => absurd rfl h)
  refine lv_aload_n C0.1 C0.2.1 dJx4a65c_grow_92f84_45 rfl (lv_at hl 1 rfl) ?_
  refine fl_bipush C0 dJx4a65c_grow_92f84_46 (by decide) ?_
  refine lv_iload_n C0.1 C0.2.1 dJx4a65c_grow_92f84_48 rfl (lv_at hl 2 rfl) ?_
  refine fl_max C0 hl.1 (rgk 10 rfl) rN aw_671 (Nat.le_of_ble_eq_true rfl) (Nat.le_of_ble_eq_true rfl) (Nat.le_of_ble_eq_true rfl) (Nat.le_of_ble_eq_true rfl) dJx4a65c_grow_92f84_49 ?_
  have hmx : imax 10 N = 10 := by unfold imax; rw [if_neg (by omega)]
  rw [hmx]
  refine fl_newr C0 hF (rgk 10 rfl) (by decide) (by decide) aw_672 (Nat.le_of_ble_eq_true rfl) (Nat.le_of_ble_eq_true rfl) dJx4a65c_grow_92f84_52 (fun q H hq hF => ?_)
  have h1q : 1 < q := hF.ne0 (by rw [va_up_self]; decide)
  refine lv_dup_x1 C0.1 C0.2.1 dJx4a65c_grow_92f84_55 rfl rfl ?_
  refine fl_putr (k := 1) ck_0 C0 hF (kn hF00 hq ka (cne ho)) (g1_of ho) h1q ⟨rfl, rfl, rfl⟩ ⟨rfl, rfl⟩ aw_152 dJx4a65c_grow_92f84_56 (fun H locs hF => ?_)
  exact fl_nret (g := fun q => (va_up K q 142, up (clrN P q) a 1 q, clr I q)) C0 hF hr hq h1q dJx4a65c_grow_92f84_59 (Nat.le_of_ble_eq_true rfl) (Nat.le_of_ble_eq_true rfl)
theorem pm_grow : plainM yJx4a65c_grow_92f84 1 := by decide +kernel
/-- a full row gives way to one of half as many places more -/
theorem c_growM (a co n0 t civ : Nat) (Cv : String) (Tv : u_T) (tyv : Nat → FieldType) (hE : Elt t civ Cv Tv tyv) (ka : K a = co) (ho : cok co 0 = true) (k0 : K (P a 1) = 102 + 4 * n0) (hn : 2 ≤ n0 ∧ n0 ≤ 1000) (hel : ∀ j, j < n0 → P (P a 1) j = 0 ∨ K (P (P a 1) j) = t) :
    Met l yJx4a65c_grow_92f84 [.code yJx4a65c_grow_92f84 cJx4a65c_grow_92f84 4 (some (.array (.object "java/lang/Object")))] { frames := 3, cells := 1, slots := 2000, locals := 90 } (va_Pc [.ref a, iv ((n0 : Int) + 1)] (FW D cy B L K P J I)) (QN D cy B L J (fun q => (va_up K q (102 + 4 * (n0 + n0 / 2)), up (cpyP (clrN P q) (P a 1) q 0 0 n0) a 1 q, clr I q))) 1 2000 (fun q => B ≤ q) := by
  refine fl_body (own := "java/util/ArrayList") [.ref a, iv ((n0 : Int) + 1)] (by decide) rfl (Nat.le_of_ble_eq_true rfl) ?_
  intro p e s m args below meth c ls C0 hr hF hl
  have hl : lv_has ls 4 [(0, .ref a), (1, iv ((n0 : Int) + 1))] := hl
  have hF00 := hF
  have rn : rg (n0 : Int) := ⟨by omega, by omega⟩
  have rn1 : rg ((n0 : Int) + 1) := ⟨by omega, by omega⟩
  have hz : (K (P a 1) != 0) = true := by simp only [bne_iff_ne]; omega
  refine lv_aload_n C0.1 C0.2.1 dJx4a65c_grow_92f84_0 rfl (lv_at hl 0 rfl) ?_
  refine fl_getr (k := 1) (t := K (P a 1)) ck_0 C0 hF ka (g1_of ho) rfl hz ⟨rfl, rfl⟩ aw_152 dJx4a65c_grow_92f84_1 ?_
  refine fl_alen (n := n0) (kd := 2) C0 hF (by omega) (by decide) dJx4a65c_grow_92f84_4 ?_
  refine lv_istore_n (lv' := [(2, iv (n0 : Int)), (0, .ref a), (1, iv ((n0 : Int) + 1))]) C0.1 C0.2.1 dJx4a65c_grow_92f84_5 rfl hl (by decide) rfl (fun ls hl => ?_)
  refine lv_iload_n C0.1 C0.2.1 dJx4a65c_grow_92f84_6 rfl (lv_at hl 0 rfl) ?_
  refine fl_if_gt (tgt := 20) C0 rn dJx4a65c_grow_92f84_7 (by decide) (fun c1 => ?_) (fun c1 => absurd (show (0 : Int) < n0 by omega) c1)
  refine lv_iload_n C0.1 C0.2.1 dJx4a65c_grow_92f84_20 rfl (lv_at hl 0 rfl) ?_
  refine lv_iload_n C0.1 C0.2.1 dJx4a65c_grow_92f84_21 rfl (lv_at hl 2 rfl) ?_
  refine lv_iload_n C0.1 C0.2.1 dJx4a65c_grow_92f84_22 rfl (lv_at hl 0 rfl) ?_
  refine fl_isub C0 dJx4a65c_grow_92f84_23 ?_
  refine lv_iload_n C0.1 C0.2.1 dJx4a65c_grow_92f84_24 rfl (lv_at hl 0 rfl) ?_
  refine fl_iconst C0 dJx4a65c_grow_92f84_25 ?_
  refine fl_ishr C0 dJx4a65c_grow_92f84_26 ?_
  have e1 : wr ((n0 : Int) + 1 - n0) = 1 := by rw [show (n0 : Int) + 1 - n0 = 1 by omega]; rfl
  have e2 : bsr (n0 : Int) 1 = (n0 / 2 : Nat) := by
    unfold bsr
    have h9 := pk_shrN (n := n0) (by omega) ((1 : Int32) &&& 31) 1 (by decide)
    rw [Nat.pow_one] at h9
    have h8 : Int32.ofInt (n0 : Int) = nI n0 := by simp [Int32.ofInt, nI, Int32.ofNat]
    rw [h8, show Int32.ofInt 1 = (1 : Int32) from rfl, h9, nI_toInt (by omega)]
  rw [e1, e2]
  have e3 : imax 1 ((n0 / 2 : Nat) : Int) = (n0 / 2 : Nat) := by
    unfold imax
    by_cases h : (1 : Int) < (n0 / 2 : Nat)
    · rw [if_pos h]
    · rw [if_neg h]; omega
  have e4 : wr ((n0 : Int) + imax 1 ((n0 / 2 : Nat) : Int)) = ((n0 + n0 / 2 : Nat) : Int) := by
    rw [e3, wr_id (by omega) (by omega)]; omega
  have rh : rg ((n0 / 2 : Nat) : Int) := ⟨by omega, by omega⟩
  refine fl_ri hF (fl_runSG (As := [iv (n0 : Int), iv 1, iv ((n0 / 2 : Nat) : Int)]) (rest := []) C0 hF hl.1 (c_newlen l D cy B L K P J I (n0 : Int) 1 ((n0 / 2 : Nat) : Int) rn (rgk 1 rfl) rh (by rw [e4]; omega) (by rw [e4]; omega)) aw_636 aw_637 aw_61 aw_638 rfl pm_newlen rfl rfl ⟨Nat.le_of_ble_eq_true rfl, Nat.le_of_ble_eq_true rfl⟩ rfl (Nat.le_of_ble_eq_true rfl) dJx4a65c_grow_92f84_27 ⟨Nat.le_of_ble_eq_true rfl, Nat.le_of_ble_eq_true rfl⟩) (fun H locs hF rr => ?_)
  rw [e4] at rr ⊢
  refine lv_istore_n (lv' := [(3, iv ((n0 + n0 / 2 : Nat) : Int)), (2, iv (n0 : Int)), (0, .ref a), (1, iv ((n0 : Int) + 1))]) C0.1 C0.2.1 dJx4a65c_grow_92f84_30 rfl hl (by decide) rfl (fun ls hl => ?_)
  refine lv_aload_n C0.1 C0.2.1 dJx4a65c_grow_92f84_31 rfl (lv_at hl 2 rfl) ?_
  refine lv_aload_n C0.1 C0.2.1 dJx4a65c_grow_92f84_32 rfl (lv_at hl 2 rfl) ?_
  refine fl_getr (k := 1) (t := K (P a 1)) ck_0 C0 hF ka (g1_of ho) rfl hz ⟨rfl, rfl⟩ aw_152 dJx4a65c_grow_92f84_33 ?_
  refine lv_iload_n C0.1 C0.2.1 dJx4a65c_grow_92f84_36 rfl (lv_at hl 0 rfl) ?_
  refine fl_rn hF (fl_runSG (As := [.ref (P a 1), iv ((n0 + n0 / 2 : Nat) : Int)]) (rest := [.ref a]) C0 hF hl.1 (c_copy2 l D cy B L K P J I (P a 1) n0 t civ Cv Tv tyv hE _ rr k0 ⟨by omega, by omega⟩ hel) aw_644 aw_645 aw_59 aw_646 rfl pm_copy2 rfl rfl ⟨Nat.le_of_ble_eq_true rfl, Nat.le_of_ble_eq_true rfl⟩ rfl (Nat.le_of_ble_eq_true rfl) dJx4a65c_grow_92f84_37 ⟨Nat.le_of_ble_eq_true rfl, Nat.le_of_ble_eq_true rfl⟩) (fun q H locs hq h1q hF => ?_)
  rw [Int.toNat_natCast] at hF
  refine lv_dup_x1 C0.1 C0.2.1 dJx4a65c_grow_92f84_40 rfl rfl ?_
  refine fl_putr (k := 1) ck_0 C0 hF (kn hF00 hq ka (cne ho)) (g1_of ho) h1q ⟨rfl, rfl, rfl⟩ ⟨rfl, rfl⟩ aw_152 dJx4a65c_grow_92f84_41 (fun H locs hF => ?_)
  exact fl_nret (g := fun q => (va_up K q (102 + 4 * (n0 + n0 / 2)), up (cpyP (clrN P q) (P a 1) q 0 0 n0) a 1 q, clr I q)) C0 hF hr hq h1q dJx4a65c_grow_92f84_44 (Nat.le_of_ble_eq_true rfl) (Nat.le_of_ble_eq_true rfl)
end LADD2
