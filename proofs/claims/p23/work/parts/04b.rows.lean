/-- the whole of what stands between calls: the pool L holds what K, P, J, I tell; its cells are all B or above -/
def FS (D : va_G) (cy : Nat → ClassId) (B : Nat) (L : List Nat) (K : KT) (P : PT) (J : IT) (H0 : Heap) (I : IT) (H : Heap) (locs : List Loc) : Prop :=
  va_P D vwCl (va_pl L (fcell cy K P J I)) H ∧ va_D (fun q : Nat => B ≤ q) (va_pl L (fcell cy K P J I)) ∧ va_S (fun q : Nat => B ≤ q) H0 H locs ∧ (∀ a, K a ≠ 0 → a ∈ L) ∧ 1 < B ∧ B ≤ H0.size ∧ rgI I
/-- a state that a method finds or leaves -/
def FW (D : va_G) (cy : Nat → ClassId) (B : Nat) (L : List Nat) (K : KT) (P : PT) (J I : IT) (U : State) : Prop :=
  FS D cy B L K P J U.heap I U.heap [] ∧ FK D cy U ∧ FZ cy B U U.heap
/-- what a method's walk stands on -/
def FC (D : va_G) (cy : Nat → ClassId) (B : Nat) (p : Program) (s : State) (m : MethodId) (meth : Method) (c : Code) (own : String) (cc : ByteArray) (nL : Nat) : Prop :=
  p.tables.exec = Jvm.exec ∧ c.code = cc ∧ c.maxLocals = nL ∧ s.vm.findClass own = some m.cls ∧ meth.locks = false ∧ FK D cy s ∧ FZ cy B s s.heap
def Cls (ci : Nat) (C : String) (T : u_T) (ty : Nat → FieldType) : Prop :=
  vwCl[ci]? = some (C, T, knf ci) ∧ (∀ w ∈ u_ws C T (knf ci), w ∈ AW) ∧ (∀ k, k < knf ci → parseFieldDescriptor (T k).2.2.1 = some (ty k)) ∧ (∀ a, a < knf ci → ∀ b, b < knf ci → a ≠ b → (T a).2.1 ≠ (T b).2.1)
theorem fobj_at (cy : Nat → ClassId) (P : PT) (I : IT) (i a k : Nat) (hk : k < knf i) : (fobj cy P I i a)[k]? = some (fval cy P I i a k) := by
  simp [fobj, hk]
theorem fobj_len (cy : Nat → ClassId) (P : PT) (I : IT) (i a : Nat) : (fobj cy P I i a).length = knf i := by simp [fobj]
theorem fcell_obj {cy : Nat → ClassId} {K : KT} {P : PT} {J I : IT} {a ci : Nat} (h : K a < 100) (hc : kci (K a) = ci) : fcell cy K P J I a = .inr (ci, fobj cy P I ci a) := by
  subst hc
  simp [fcell, h]
theorem fcell_arr {cy : Nat → ClassId} {K : KT} {P : PT} {J I : IT} {a n kd : Nat} (h : K a = 100 + 4 * n + kd) (hk : kd < 4) : fcell cy K P J I a = .inl (cy kd, (n, farr cy P J I kd a)) := by
  have h1 : ¬ K a < 100 := by omega
  have h2 : K a % 4 = kd := by omega
  have h3 : (K a - 100) / 4 = n := by omega
  simp only [fcell, if_neg h1, h2, h3]
theorem fobj_set {cy : Nat → ClassId} {P P' : PT} {I I' : IT} {i a k : Nat} {v : Value} (hk : k < knf i) (hv : fval cy P' I' i a k = v) (ho : ∀ j, j ≠ k → fval cy P' I' i a j = fval cy P I i a j) : (fobj cy P I i a).set k v = fobj cy P' I' i a := by
  apply List.ext_getElem?
  intro j
  rw [List.getElem?_set]
  by_cases hj : k = j
  · subst hj
    rw [if_pos rfl, fobj_len, if_pos hk, fobj_at _ _ _ _ _ _ hk, hv]
  · rw [if_neg hj]
    simp only [fobj, List.getElem?_map]
    cases h : (List.range (knf i))[j]? with
    | none => rfl
    | some x =>
      have : x = j := by
        have h' := List.getElem?_eq_some_iff.mp h
        obtain ⟨h1, h2⟩ := h'
        rw [List.getElem_range] at h2
        exact h2.symm
      subst this
      simp [ho x (Ne.symm hj)]
section FR
variable {p : Program} {l : Launch} {e : Env} {R : Room} {s : State} {m : MethodId} {args : Array Value} {below : List Frame} {meth : Method} {c : Code} {H : Heap} {locs : List Loc} {cells slots : Nat} {Q : State → Prop}
variable {D : va_G} {cy : Nat → ClassId} {B : Nat} {L : List Nat} {K : KT} {P : PT} {J I : IT} {own : String} {cc : ByteArray} {nL pc : Nat} {ls : Array Slot} {rest : List Value} {H0 : Heap}
theorem FS.get (hF : FS D cy B L K P J H0 I H locs) {a : Nat} (hk : K a ≠ 0) : ∃ k : Nat, (va_pl L (fcell cy K P J I))[k]? = some (a, fcell cy K P J I a) := by
  have h := va_pl_get (X := []) (f := fcell cy K P J I) (hF.2.2.2.1 a hk)
  rw [List.nil_append] at h
  exact h
theorem fl_set {A : Nat → Prop} {f g : Nat → va_E} {a k : Nat} {e : va_E} (hD : va_D A (va_pl L f)) (h : a ∈ L) (hk : (va_pl L f)[k]? = some (a, f a)) (he : g a = e) (ho : ∀ b, b ≠ a → g b = f b) : (va_pl L f).set k (a, e) = va_pl L g := by
  have h1 := va_pl_set (X := []) (e := e) (by rw [List.nil_append]; exact hD) h (by rw [List.nil_append]; exact hk)
  rw [List.nil_append, List.nil_append] at h1
  rw [h1]
  apply va_pl_congr
  intro b
  by_cases hb : b = a
  · subst hb
    rw [va_up_self, he]
  · rw [va_up_ne _ _ hb, ho b hb]
theorem fl_get {ci k : Nat} {C : String} {T : u_T} {ty : Nat → FieldType} {a idx : Nat} {nm ds : String} {v : Value} (hC : Cls ci C T ty) (C0 : FC D cy B p s m meth c own cc nL) (hF : FS D cy B L K P J H0 I H locs)
    (hka : K a ≠ 0) (hlt : K a < 100) (hci : kci (K a) = ci) (hk : k < knf ci) (hv : fval cy P I ci a k = v) (hT : (T k).2.1 = nm ∧ (T k).2.2.1 = ds) (hw : Cond.fieldLink own idx (T k).1 nm ds ∈ AW) (hdg : decode cc pc = .ok (.getfield idx, 3))
    (kk : W p l e R s m args below meth c H locs cells slots Q (F0 m (pc + 3) ls (v :: rest))) : W p l e R s m args below meth c H locs cells slots Q (F0 m pc ls (.ref a :: rest)) := by
  obtain ⟨hx, hb, -, hown, -, hFK, -⟩ := C0
  obtain ⟨k0, hk0⟩ := hF.get hka
  rw [fcell_obj hlt hci] at hk0
  obtain ⟨rfl, rfl⟩ := hT
  exact va_get hx hb hFK.use hC.2.1 hown hFK.1 hF.1 k0 hk0 hC.1 k hk (hFK.use _ hw) (fun _ h => h) (by rw [fobj_at _ _ _ _ _ _ hk, hv]) hdg kk
theorem fl_getN {ci k : Nat} {C : String} {T : u_T} {ty : Nat → FieldType} {a idx : Nat} {nm ds host : String} {v : Value} (hC : Cls ci C T ty) (C0 : FC D cy B p s m meth c own cc nL) (hF : FS D cy B L K P J H0 I H locs)
    (hka : K a ≠ 0) (hlt : K a < 100) (hci : kci (K a) = ci) (hk : k < knf ci) (hv : fval cy P I ci a k = v) (hT : (T k).2.1 = nm ∧ (T k).2.2.1 = ds) (hw : Cond.fieldLinkNest own idx (T k).1 nm ds host ∈ AW) (hdg : decode cc pc = .ok (.getfield idx, 3))
    (kk : W p l e R s m args below meth c H locs cells slots Q (F0 m (pc + 3) ls (v :: rest))) : W p l e R s m args below meth c H locs cells slots Q (F0 m pc ls (.ref a :: rest)) := by
  obtain ⟨hx, hb, -, hown, -, hFK, -⟩ := C0
  obtain ⟨k0, hk0⟩ := hF.get hka
  rw [fcell_obj hlt hci] at hk0
  obtain ⟨rfl, rfl⟩ := hT
  exact va_getN hx hb hFK.use hC.2.1 hown hFK.1 hF.1 k0 hk0 hC.1 k hk (hFK.use _ hw) (fun _ h => h) (by rw [fobj_at _ _ _ _ _ _ hk, hv]) hdg kk
/-- the pool after a number of an object, or of a row, has changed -/
theorem fcell_up {a k b : Nat} {x : Int} (h : b ≠ a) : fcell cy K P J (up I a k x) b = fcell cy K P J I b := by
  have h1 : ∀ j, up I a k x b j = I b j := fun j => up_a I k j x h
  have h2 : fobj cy P (up I a k x) (kci (K b)) b = fobj cy P I (kci (K b)) b := by
    unfold fobj
    apply List.map_congr_left
    intro j _
    simp only [fval, h1]
  have h3 : farr cy P J (up I a k x) (K b % 4) b = farr cy P J I (K b % 4) b := by
    unfold farr
    simp only [h1]
  simp only [fcell, h2, h3]
theorem fl_put {ci k : Nat} {C : String} {T : u_T} {ty : Nat → FieldType} {a idx : Nat} {nm ds : String} {x : Int} (hC : Cls ci C T ty) (C0 : FC D cy B p s m meth c own cc nL) (hF : FS D cy B L K P J H0 I H locs)
    (hka : K a ≠ 0) (hlt : K a < 100) (hci : kci (K a) = ci) (hk : k < knf ci) (hr : krf ci k = false) (hrx : rg x) (hfin : (T k).2.2.2 = false) (hT : (T k).2.1 = nm ∧ (T k).2.2.1 = "I" ∧ ds = "I") (hw : Cond.fieldLink own idx (T k).1 nm ds ∈ AW) (hdg : decode cc pc = .ok (.putfield idx, 3))
    (kk : ∀ (H1 : Heap) (locs1 : List Loc), FS D cy B L K P J H0 (up I a k x) H1 locs1 → W p l e R s m args below meth c H1 locs1 cells slots Q (F0 m (pc + 3) ls rest)) : W p l e R s m args below meth c H locs cells slots Q (F0 m pc ls (iv x :: .ref a :: rest)) := by
  obtain ⟨hx, hb, -, hown, -, hFK, -⟩ := C0
  obtain ⟨k0, hk0⟩ := hF.get hka
  have hk1 := hk0
  rw [fcell_obj hlt hci] at hk0
  obtain ⟨rfl, hds, rfl⟩ := hT
  refine va_put hx hb hFK.use hC.2.1 ty hC.2.2.1 hC.2.2.2 hown hFK.1 hF.1 hF.2.1 hF.2.2.1 k0 hk0 hC.1 k hk (by rw [hds]; exact hFK.use _ hw) (fun _ h => h) hfin (ty := .int) (by rw [hds]; rfl) rfl rfl (by rw [fobj_len]; exact hk) hdg ?_
  intro H1 locs1 h1 h2 h3
  have hset : (fobj cy P I ci a).set k (iv x) = fobj cy P (up I a k x) ci a := fobj_set hk (by simp [fval, hr, up_s]) (fun j hj => by simp [fval, up_k I a a x hj])
  have he := fl_set (g := fcell cy K P J (up I a k x)) hF.2.1 (hF.2.2.2.1 a hka) hk1 (fcell_obj hlt hci) (fun b hb => fcell_up hb)
  rw [hset, he] at h1 h2
  exact kk H1 locs1 ⟨h1, h2, h3, hF.2.2.2.1, hF.2.2.2.2.1, hF.2.2.2.2.2.1, rgI_up hF.2.2.2.2.2.2 a k hrx⟩
theorem fl_putN {ci k : Nat} {C : String} {T : u_T} {ty : Nat → FieldType} {a idx : Nat} {nm ds host : String} {x : Int} (hC : Cls ci C T ty) (C0 : FC D cy B p s m meth c own cc nL) (hF : FS D cy B L K P J H0 I H locs)
    (hka : K a ≠ 0) (hlt : K a < 100) (hci : kci (K a) = ci) (hk : k < knf ci) (hr : krf ci k = false) (hrx : rg x) (hfin : (T k).2.2.2 = false) (hT : (T k).2.1 = nm ∧ (T k).2.2.1 = "I" ∧ ds = "I") (hw : Cond.fieldLinkNest own idx (T k).1 nm ds host ∈ AW) (hdg : decode cc pc = .ok (.putfield idx, 3))
    (kk : ∀ (H1 : Heap) (locs1 : List Loc), FS D cy B L K P J H0 (up I a k x) H1 locs1 → W p l e R s m args below meth c H1 locs1 cells slots Q (F0 m (pc + 3) ls rest)) : W p l e R s m args below meth c H locs cells slots Q (F0 m pc ls (iv x :: .ref a :: rest)) := by
  obtain ⟨hx, hb, -, hown, -, hFK, -⟩ := C0
  obtain ⟨k0, hk0⟩ := hF.get hka
  have hk1 := hk0
  rw [fcell_obj hlt hci] at hk0
  obtain ⟨rfl, hds, rfl⟩ := hT
  refine va_putN hx hb hFK.use hC.2.1 ty hC.2.2.1 hC.2.2.2 hown hFK.1 hF.1 hF.2.1 hF.2.2.1 k0 hk0 hC.1 k hk (by rw [hds]; exact hFK.use _ hw) (fun _ h => h) hfin (ty := .int) (by rw [hds]; rfl) rfl rfl (by rw [fobj_len]; exact hk) hdg ?_
  intro H1 locs1 h1 h2 h3
  have hset : (fobj cy P I ci a).set k (iv x) = fobj cy P (up I a k x) ci a := fobj_set hk (by simp [fval, hr, up_s]) (fun j hj => by simp [fval, up_k I a a x hj])
  have he := fl_set (g := fcell cy K P J (up I a k x)) hF.2.1 (hF.2.2.2.1 a hka) hk1 (fcell_obj hlt hci) (fun b hb => fcell_up hb)
  rw [hset, he] at h1 h2
  exact kk H1 locs1 ⟨h1, h2, h3, hF.2.2.2.1, hF.2.2.2.2.1, hF.2.2.2.2.2.1, rgI_up hF.2.2.2.2.2.2 a k hrx⟩
theorem farr_int (cy : Nat → ClassId) (P : PT) (J I : IT) (a : Nat) : farr cy P J I 0 a = .inl (fun j => Int32.ofInt (I a j)) := rfl
theorem farr_bool (cy : Nat → ClassId) (P : PT) (J I : IT) (a : Nat) : farr cy P J I 1 a = .inl (fun j => Int32.ofInt (I a j)) := rfl
theorem farr_ref (cy : Nat → ClassId) (P : PT) (J I : IT) (a : Nat) : farr cy P J I 2 a = .inr (.inr (.inr (.inr (fun j => rfo cy (P a j))))) := rfl
theorem farr_long (cy : Nat → ClassId) (P : PT) (J I : IT) (a : Nat) : farr cy P J I 3 a = .inr (.inl (fun j => Int64.ofInt (J a j))) := rfl
theorem fl_iald {a n : Nat} {i : Int} (C0 : FC D cy B p s m meth c own cc nL) (hF : FS D cy B L K P J H0 I H locs) (hka : K a = 100 + 4 * n) (hri : rg i) (hi : 0 ≤ i ∧ i < n) (hdg : decode cc pc = .ok (.iaload, 1))
    (kk : W p l e R s m args below meth c H locs cells slots Q (F0 m (pc + 1) ls (iv (I a i.toNat) :: rest))) : W p l e R s m args below meth c H locs cells slots Q (F0 m pc ls (iv i :: .ref a :: rest)) := by
  obtain ⟨hx, hb, -, hown, -, hFK, -⟩ := C0
  obtain ⟨k0, hk0⟩ := hF.get (a := a) (by omega)
  rw [fcell_arr (kd := 0) hka (by decide), farr_int] at hk0
  refine va_iald hx hb hFK.1 hF.1 k0 0 hk0 rfl (of_in hri hi) hdg ?_
  rw [of_clamp hri]
  exact kk
theorem fl_zald {a n : Nat} {i : Int} (C0 : FC D cy B p s m meth c own cc nL) (hF : FS D cy B L K P J H0 I H locs) (hka : K a = 101 + 4 * n) (hri : rg i) (hi : 0 ≤ i ∧ i < n) (hdg : decode cc pc = .ok (.baload, 1))
    (kk : W p l e R s m args below meth c H locs cells slots Q (F0 m (pc + 1) ls (iv (I a i.toNat) :: rest))) : W p l e R s m args below meth c H locs cells slots Q (F0 m pc ls (iv i :: .ref a :: rest)) := by
  obtain ⟨hx, hb, -, hown, -, hFK, -⟩ := C0
  obtain ⟨k0, hk0⟩ := hF.get (a := a) (by omega)
  rw [fcell_arr (kd := 1) (n := n) (by omega) (by decide), farr_bool] at hk0
  refine va_zald hx hb hFK.1 hF.1 k0 1 hk0 rfl (of_in hri hi) hdg ?_
  rw [of_clamp hri]
  exact kk
theorem fl_alen {a n kd : Nat} (C0 : FC D cy B p s m meth c own cc nL) (hF : FS D cy B L K P J H0 I H locs) (hka : K a = 100 + 4 * n + kd) (hkd : kd < 3) (hdg : decode cc pc = .ok (.arraylength, 1))
    (kk : W p l e R s m args below meth c H locs cells slots Q (F0 m (pc + 1) ls (iv (n : Int) :: rest))) : W p l e R s m args below meth c H locs cells slots Q (F0 m pc ls (.ref a :: rest)) := by
  obtain ⟨hx, hb, -, hown, -, hFK, -⟩ := C0
  obtain ⟨k0, hk0⟩ := hF.get (a := a) (by omega)
  rw [fcell_arr (kd := kd) hka (by omega)] at hk0
  have ht : ∃ ty, (ctys cy)[kd]? = some (cy kd, ty) := by
    rcases kd with _ | _ | _ | kd
    · exact ⟨_, rfl⟩
    · exact ⟨_, rfl⟩
    · exact ⟨_, rfl⟩
    · omega
  obtain ⟨ty, ht⟩ := ht
  refine va_alen hx hb hFK.1 hF.1 k0 kd hk0 ht (v := Int32.ofInt (n : Int)) ?_ hdg kk
  simp [Int32.ofInt, Int32.ofNat]
theorem fl_iast {a n : Nat} {i x : Int} (C0 : FC D cy B p s m meth c own cc nL) (hF : FS D cy B L K P J H0 I H locs) (hka : K a = 100 + 4 * n) (hri : rg i) (hrx : rg x) (hi : 0 ≤ i ∧ i < n) (hdg : decode cc pc = .ok (.iastore, 1))
    (kk : ∀ (H1 : Heap) (locs1 : List Loc), FS D cy B L K P J H0 (up I a i.toNat x) H1 locs1 → W p l e R s m args below meth c H1 locs1 cells slots Q (F0 m (pc + 1) ls rest)) : W p l e R s m args below meth c H locs cells slots Q (F0 m pc ls (iv x :: iv i :: .ref a :: rest)) := by
  obtain ⟨hx, hb, -, hown, -, hFK, -⟩ := C0
  obtain ⟨k0, hk0⟩ := hF.get (a := a) (by omega)
  have hk1 := hk0
  have hcell : ∀ I' : IT, fcell cy K P J I' a = .inl (cy 0, (n, .inl (fun j => Int32.ofInt (I' a j)))) := fun I' => by rw [fcell_arr (kd := 0) hka (by decide), farr_int]
  rw [hcell] at hk0
  refine va_iast hx hb hFK.1 hF.1 hF.2.1 hF.2.2.1 k0 0 hk0 rfl (of_in hri hi) hdg ?_
  intro H1 locs1 h1 h2 h3
  have he := fl_set (g := fcell cy K P J (up I a i.toNat x)) hF.2.1 (hF.2.2.2.1 a (by omega)) hk1 (hcell _) (fun b hb => fcell_up hb)
  have hf : (upd (fun j => Int32.ofInt (I a j)) (Int32.ofInt i).toNatClampNeg (Int32.ofInt x)) = fun j => Int32.ofInt (up I a i.toNat x a j) := by
    funext j
    rw [of_clamp hri]
    by_cases hj : j = i.toNat
    · subst hj; simp [upd, up_s]
    · simp [upd, hj, up_k I a a x hj]
  rw [hf, he] at h1 h2
  exact kk H1 locs1 ⟨h1, h2, h3, hF.2.2.2.1, hF.2.2.2.2.1, hF.2.2.2.2.2.1, rgI_up hF.2.2.2.2.2.2 a _ hrx⟩
theorem fl_zast {a n : Nat} {i x : Int} (C0 : FC D cy B p s m meth c own cc nL) (hF : FS D cy B L K P J H0 I H locs) (hka : K a = 101 + 4 * n) (hri : rg i) (hx01 : x = 0 ∨ x = 1) (hi : 0 ≤ i ∧ i < n) (hdg : decode cc pc = .ok (.bastore, 1))
    (kk : ∀ (H1 : Heap) (locs1 : List Loc), FS D cy B L K P J H0 (up I a i.toNat x) H1 locs1 → W p l e R s m args below meth c H1 locs1 cells slots Q (F0 m (pc + 1) ls rest)) : W p l e R s m args below meth c H locs cells slots Q (F0 m pc ls (iv x :: iv i :: .ref a :: rest)) := by
  obtain ⟨hx, hb, -, hown, -, hFK, -⟩ := C0
  obtain ⟨k0, hk0⟩ := hF.get (a := a) (by omega)
  have hk1 := hk0
  have hcell : ∀ I' : IT, fcell cy K P J I' a = .inl (cy 1, (n, .inl (fun j => Int32.ofInt (I' a j)))) := fun I' => by rw [fcell_arr (kd := 1) (n := n) (by omega) (by decide), farr_bool]
  rw [hcell] at hk0
  refine va_zast hx hb hFK.1 hF.1 hF.2.1 hF.2.2.1 k0 1 hk0 rfl (of_in hri hi) hdg ?_
  intro H1 locs1 h1 h2 h3
  have he := fl_set (g := fcell cy K P J (up I a i.toNat x)) hF.2.1 (hF.2.2.2.1 a (by omega)) hk1 (hcell _) (fun b hb => fcell_up hb)
  have hrx : rg x := by rcases hx01 with rfl | rfl <;> exact ⟨by decide, by decide⟩
  have hn : vp_nar .boolean (Int32.ofInt x) = Int32.ofInt x := by rcases hx01 with rfl | rfl <;> decide
  have hf : (upd (fun j => Int32.ofInt (I a j)) (Int32.ofInt i).toNatClampNeg (vp_nar .boolean (Int32.ofInt x))) = fun j => Int32.ofInt (up I a i.toNat x a j) := by
    funext j
    rw [of_clamp hri, hn]
    by_cases hj : j = i.toNat
    · subst hj; simp [upd, up_s]
    · simp [upd, hj, up_k I a a x hj]
  rw [hf, he] at h1 h2
  exact kk H1 locs1 ⟨h1, h2, h3, hF.2.2.2.1, hF.2.2.2.2.1, hF.2.2.2.2.2.1, rgI_up hF.2.2.2.2.2.2 a _ hrx⟩
end FR
