/-! making: the pool grows -/
def clrN (P : PT) (q : Nat) : PT := fun b j => if b = q then 0 else P b j
def cpyP (P : PT) (b a sp dp n : Nat) : PT := fun c j => if c = a ∧ dp ≤ j ∧ j < dp + n then P b (sp + (j - dp)) else P c j
theorem va_up_s {α : Type} (f : Nat → α) (k : Nat) (v : α) : va_up f k v k = v := va_up_self f k v
section FA
variable {p : Program} {l : Launch} {e : Env} {R : Room} {s : State} {m : MethodId} {args : Array Value} {below : List Frame} {meth : Method} {c : Code} {H : Heap} {locs : List Loc} {cells slots : Nat} {Q : State → Prop}
variable {D : va_G} {cy : Nat → ClassId} {B : Nat} {L : List Nat} {K : KT} {P : PT} {J I : IT} {own : String} {cc : ByteArray} {nL pc : Nat} {ls : Array Slot} {rest st0 As : List Value} {H0 : Heap}
variable {ci k a b idx co t n : Nat} {C nm ds host : String} {T : u_T} {ty : Nat → FieldType} {x : Int}
/-- the pool with a new cell q -/
theorem fcell_new {q co : Nat} {b : Nat} (h : b ≠ q) : fcell cy (va_up K q co) (clrN P q) J (clr I q) b = fcell cy K P J I b := by
  have h0 : va_up K q co b = K b := va_up_ne _ _ h
  have h1 : ∀ j, clrN P q b j = P b j := fun j => by simp [clrN, h]
  have h2 : ∀ j, clr I q b j = I b j := fun j => by simp [clr, h]
  have h3 : fobj cy (clrN P q) (clr I q) (kci (K b)) b = fobj cy P I (kci (K b)) b := by
    unfold fobj
    apply List.map_congr_left
    intro j _
    simp only [fval, h1, h2]
  have h4 : farr cy (clrN P q) J (clr I q) (K b % 4) b = farr cy P J I (K b % 4) b := by
    unfold farr
    simp only [h1, h2]
  simp only [fcell, h0, h3, h4]
theorem FS.grow (hF : FS D cy B L K P J H0 I H locs) {q co : Nat} {e1 : va_E} {H1 : Heap} (hp : va_P D vwCl (va_pl L (fcell cy K P J I) ++ [(q, e1)]) H1) (hd : va_D (fun q : Nat => B ≤ q) (va_pl L (fcell cy K P J I) ++ [(q, e1)])) (hs : va_S (fun q : Nat => B ≤ q) H0 H1 locs) (he : fcell cy (va_up K q co) (clrN P q) J (clr I q) q = e1) : q ∉ L ∧ FS D cy B (L ++ [q]) (va_up K q co) (clrN P q) J H0 (clr I q) H1 locs := by
  have hq : q ∉ L := va_pl_fresh2 (X := []) (by rw [List.nil_append]; exact hd)
  have h1 : va_pl L (fcell cy K P J I) ++ [(q, e1)] = va_pl (L ++ [q]) (fcell cy (va_up K q co) (clrN P q) J (clr I q)) := by
    rw [va_pl_push hq]
    apply va_pl_congr
    intro b
    by_cases hb : b = q
    · subst hb
      rw [va_up_self, he]
    · rw [va_up_ne _ _ hb, fcell_new hb]
  rw [h1] at hp hd
  refine ⟨hq, hp, hd, hs, fun b hb => ?_, hF.2.2.2.2.1, hF.2.2.2.2.2.1, rgI_clr hF.2.2.2.2.2.2 q⟩
  by_cases hbq : b = q
  · subst hbq
    exact List.mem_append_right _ List.mem_cons_self
  · exact List.mem_append_left _ (hF.2.2.2.1 b (by rwa [va_up_ne _ _ hbq] at hb))
theorem fl_new (hC : Cls ci C T ty) (hdef : ∀ j, j < knf ci → defaultValue (ty j) = if krf ci j = true then .null else .int 0) (C0 : FC D cy B p s m meth c own cc nL) (hF : FS D cy B L K P J s.heap I H locs) (ho : cok co ci = true) (w1 : Cond.classLink own idx C ∈ AW) (w2 : Cond.instantiable C (knf ci) ∈ AW) (w3 : Cond.initialized C ∈ AW) (hc : cells + 1 ≤ R.cells) (hs : slots + knf ci ≤ R.slots) (hdg : decode cc pc = .ok (.new idx, 3))
    (kk : ∀ (q : Nat) (H1 : Heap), q ∉ L → FS D cy B (L ++ [q]) (va_up K q co) (clrN P q) J s.heap (clr I q) H1 locs → W p l e R s m args below meth c H1 locs (cells + 1) (slots + knf ci) Q (F0 m (pc + 3) ls (.ref q :: rest))) : W p l e R s m args below meth c H locs cells slots Q (F0 m pc ls rest) := by
  obtain ⟨h1, h2, h3⟩ := cok_of ho
  obtain ⟨hx, hb, hml, hown, -, hFK, hFZ⟩ := C0
  have hfs : ∀ q, fcell cy (va_up K q co) (clrN P q) J (clr I q) q = .inr (ci, fobj cy (clrN P q) (clr I q) ci q) := fun q => fcell_obj (by rw [va_up_self]; exact h2) (by rw [va_up_self]; exact h3)
  have hfo : ∀ q, fobj cy (clrN P q) (clr I q) ci q = fobj cy (fun _ _ => 0) (fun _ _ => 0) ci 0 := fun q => by
    unfold fobj
    apply List.map_congr_left
    intro j _
    simp [fval, clrN, clr]
  refine va_new hx hb hFK.use hC.2.1 ty hC.2.2.1 hown (hFK.use _ w1) (hFK.use _ w2) (hFK.use _ w3) hFK.1 hF.1 hF.2.1 hF.2.2.1 (fun q hq => Nat.le_trans hF.2.2.2.2.2.1 hq) hC.1 (fs := fobj cy (fun _ _ => 0) (fun _ _ => 0) ci 0) ?_ hc hs hdg ?_
  · intro j hj
    rw [hdef j hj]
    unfold vp_V
    rw [List.getD_eq_getElem?_getD, fobj_at _ _ _ _ _ _ hj]
    unfold fval
    split
    · rfl
    · rfl
  · intro q H1 g1 g2 g3
    obtain ⟨g4, g5⟩ := hF.grow g1 g2 g3 (by rw [hfs, hfo])
    exact kk q H1 g4 g5
theorem cy_of {cA : ClassId} {ty : FieldType} {k : Nat} (hK : va_K D vwCl (ctys cy ++ [(cA, ty)]) s) (h : (ctys cy)[k]? = some (cy k, ty)) : cA = cy k := by
  have h1 := (hK.2 3 (cA, ty) rfl).2
  have hl : k < 3 := (List.getElem?_eq_some_iff.mp h).1
  have h2 := (hK.2 k (cy k, ty) (by rw [List.getElem?_append_left hl]; exact h)).2
  cases ty with
  | object C =>
    obtain ⟨_, _, -, -, -, e1⟩ := h1
    obtain ⟨_, _, -, -, -, e2⟩ := h2
    exact Option.some.inj (e1.symm.trans e2)
  | _ => exact Option.some.inj (Eq.trans (Eq.symm (show s.vm.findClass _ = some cA from h1)) h2)
theorem fl_newi (C0 : FC D cy B p s m meth c own cc nL) (hF : FS D cy B L K P J s.heap I H locs) (rx : rg x) (hx0 : 0 ≤ x) (hxn : x.toNat ≤ 100000) (w1 : Cond.arrayClass .int ∈ AW) (hc : cells + 1 ≤ R.cells) (hs : slots + x.toNat ≤ R.slots) (hdg : decode cc pc = .ok (.newarray .int, 2))
    (kk : ∀ (q : Nat) (H1 : Heap), q ∉ L → FS D cy B (L ++ [q]) (va_up K q (100 + 4 * x.toNat)) (clrN P q) J s.heap (clr I q) H1 locs → W p l e R s m args below meth c H1 locs (cells + 1) (slots + x.toNat) Q (F0 m (pc + 2) ls (.ref q :: rest))) : W p l e R s m args below meth c H locs cells slots Q (F0 m pc ls (iv x :: rest)) := by
  obtain ⟨hx, hb, hml, hown, -, hFK, hFZ⟩ := C0
  refine va_newa (atype := .int) hx hb (hFK.use _ w1) rfl hFK.1 hF.1 hF.2.1 hF.2.2.1 (fun q hq => Nat.le_trans hF.2.2.2.2.2.1 hq) (a0 := (x.toNat, .inl (fun _ => 0))) (N' := x.toNat) (fun cA => rfl) ?_ (of_clamp rx) ?_ hc hs hdg ?_
  · intro h9
    have := (of_lt rx ⟨by decide, by decide⟩ (y := 0)).mp h9
    omega
  · show x.toNat * 4 ≤ _
    omega
  · intro q cA H1 g0 g1 g2 g3
    have hcA := cy_of (k := 0) g0 rfl
    subst hcA
    obtain ⟨g4, g5⟩ := hF.grow (co := 100 + 4 * x.toNat) g1 g2 g3 ((fcell_arr (n := x.toNat) (kd := 0) (va_up_self _ _ _) (by decide)).trans (by rw [farr_int]; simp [clr]))
    exact kk q H1 g4 g5
theorem fl_newz (C0 : FC D cy B p s m meth c own cc nL) (hF : FS D cy B L K P J s.heap I H locs) (rx : rg x) (hx0 : 0 ≤ x) (hxn : x.toNat ≤ 100000) (w1 : Cond.arrayClass .boolean ∈ AW) (hc : cells + 1 ≤ R.cells) (hs : slots + x.toNat ≤ R.slots) (hdg : decode cc pc = .ok (.newarray .boolean, 2))
    (kk : ∀ (q : Nat) (H1 : Heap), q ∉ L → FS D cy B (L ++ [q]) (va_up K q (101 + 4 * x.toNat)) (clrN P q) J s.heap (clr I q) H1 locs → W p l e R s m args below meth c H1 locs (cells + 1) (slots + x.toNat) Q (F0 m (pc + 2) ls (.ref q :: rest))) : W p l e R s m args below meth c H locs cells slots Q (F0 m pc ls (iv x :: rest)) := by
  obtain ⟨hx, hb, hml, hown, -, hFK, hFZ⟩ := C0
  refine va_newa (atype := .boolean) hx hb (hFK.use _ w1) rfl hFK.1 hF.1 hF.2.1 hF.2.2.1 (fun q hq => Nat.le_trans hF.2.2.2.2.2.1 hq) (a0 := (x.toNat, .inl (fun _ => 0))) (N' := x.toNat) (fun cA => rfl) ?_ (of_clamp rx) ?_ hc hs hdg ?_
  · intro h9
    have := (of_lt rx ⟨by decide, by decide⟩ (y := 0)).mp h9
    omega
  · show x.toNat * 1 ≤ _
    omega
  · intro q cA H1 g0 g1 g2 g3
    have hcA := cy_of (k := 1) g0 rfl
    subst hcA
    obtain ⟨g4, g5⟩ := hF.grow (co := 101 + 4 * x.toNat) g1 g2 g3 ((fcell_arr (n := x.toNat) (kd := 1) ((va_up_self _ _ _).trans (by omega)) (by decide)).trans (by rw [farr_bool]; simp [clr]))
    exact kk q H1 g4 g5
theorem fl_newr (C0 : FC D cy B p s m meth c own cc nL) (hF : FS D cy B L K P J s.heap I H locs) (rx : rg x) (hx0 : 0 ≤ x) (hxn : x.toNat ≤ 100000) (w1 : Cond.classLink own idx "java/lang/Object" ∈ AW) (hc : cells + 1 ≤ R.cells) (hs : slots + x.toNat ≤ R.slots) (hdg : decode cc pc = .ok (.anewarray idx, 3))
    (kk : ∀ (q : Nat) (H1 : Heap), q ∉ L → FS D cy B (L ++ [q]) (va_up K q (102 + 4 * x.toNat)) (clrN P q) J s.heap (clr I q) H1 locs → W p l e R s m args below meth c H1 locs (cells + 1) (slots + x.toNat) Q (F0 m (pc + 3) ls (.ref q :: rest))) : W p l e R s m args below meth c H locs cells slots Q (F0 m pc ls (iv x :: rest)) := by
  obtain ⟨hx, hb, hml, hown, -, hFK, hFZ⟩ := C0
  refine va_newq hx hb hown (hFK.use _ w1) hFK.2.2.2.1 hFK.1 hF.1 hF.2.1 hF.2.2.1 (fun q hq => Nat.le_trans hF.2.2.2.2.2.1 hq) (N' := x.toNat) ?_ (of_clamp rx) ?_ hc hs hdg ?_
  · intro h9
    have := (of_lt rx ⟨by decide, by decide⟩ (y := 0)).mp h9
    omega
  · omega
  · intro q cA H1 g0 g1 g2 g3
    have hcA := cy_of (k := 2) g0 rfl
    subst hcA
    obtain ⟨g4, g5⟩ := hF.grow (co := 102 + 4 * x.toNat) g1 g2 g3 ((fcell_arr (n := x.toNat) (kd := 2) ((va_up_self _ _ _).trans (by omega)) (by decide)).trans (by rw [farr_ref]; simp [clrN, rfo]))
    exact kk q H1 g4 g5
/-- a reference of an object, or of a row, is set -/
theorem fcell_upP {b2 : Nat} {v : Nat} (h : b2 ≠ a) : fcell cy K (up P a k v) J I b2 = fcell cy K P J I b2 := by
  have h1 : ∀ j, up P a k v b2 j = P b2 j := fun j => up_a P k j v h
  have h2 : fobj cy (up P a k v) I (kci (K b2)) b2 = fobj cy P I (kci (K b2)) b2 := by
    unfold fobj
    apply List.map_congr_left
    intro j _
    simp only [fval, h1]
  have h3 : farr cy (up P a k v) J I (K b2 % 4) b2 = farr cy P J I (K b2 % 4) b2 := by
    unfold farr
    simp only [h1]
  simp only [fcell, h2, h3]
theorem fl_putFr {v : Nat} (hC : Cls ci C T ty) (C0 : FC D cy B p s m meth c own cc nL) (hF : FS D cy B L K P J H0 I H locs) (hin : meth.name = "<init>") (h : K a = co) (ho : gok co ci k true = true) (hv : 1 < v) (hT : (T k).2.2.2 = true ∧ (T k).2.1 = nm ∧ (T k).2.2.1 = ds ∧ (T k).1 = own) (hfit : narrow (ty k) (.ref v) = .ref v ∧ fits (ty k) (.ref v) = true) (hw : Cond.fieldLink own idx (T k).1 nm ds ∈ AW) (hdg : decode cc pc = .ok (.putfield idx, 3))
    (kk : ∀ (H1 : Heap) (locs1 : List Loc), FS D cy B L K (up P a k v) J H0 I H1 locs1 → W p l e R s m args below meth c H1 locs1 cells slots Q (F0 m (pc + 3) ls rest)) : W p l e R s m args below meth c H locs cells slots Q (F0 m pc ls (.ref v :: .ref a :: rest)) := by
  obtain ⟨h1, h2, h3, h4, h5⟩ := gok_of ho
  subst h
  obtain ⟨hx, hb, -, hown, -, hFK, -⟩ := C0
  obtain ⟨k0, hk0⟩ := hF.get h1
  have hk1 := hk0
  rw [fcell_obj h2 h3] at hk0
  obtain ⟨hfin, rfl, rfl, hdecl⟩ := hT
  refine va_putF hx hb hFK.use hC.2.1 ty hC.2.2.1 hC.2.2.2 hown hFK.1 hF.1 hF.2.1 hF.2.2.1 k0 hk0 hC.1 k h4 (hFK.use _ hw) (fun _ h => h) hfin hin hdecl (hC.2.2.1 k h4) hfit.1 hfit.2 (by rw [fobj_len]; exact h4) hdg ?_
  intro H1 locs1 g1 g2 g3
  have hset : (fobj cy P I ci a).set k (.ref v) = fobj cy (up P a k v) I ci a := fobj_set h4 (by simp only [fval, h5, if_true, up_s, rfo_ne hv]) (fun j hj => by simp [fval, up_k P a a v hj])
  have he := fl_set (g := fcell cy K (up P a k v) J I) hF.2.1 (hF.2.2.2.1 a h1) hk1 (fcell_obj h2 h3) (fun b hb => fcell_upP hb)
  rw [hset, he] at g1 g2
  exact kk H1 locs1 ⟨g1, g2, g3, hF.2.2.2⟩
theorem fl_putr {v : Nat} (hC : Cls ci C T ty) (C0 : FC D cy B p s m meth c own cc nL) (hF : FS D cy B L K P J H0 I H locs) (h : K a = co) (ho : gok co ci k true = true) (hv : 1 < v) (hT : (T k).2.2.2 = false ∧ (T k).2.1 = nm ∧ (T k).2.2.1 = ds) (hfit : narrow (ty k) (.ref v) = .ref v ∧ fits (ty k) (.ref v) = true) (hw : Cond.fieldLink own idx (T k).1 nm ds ∈ AW) (hdg : decode cc pc = .ok (.putfield idx, 3))
    (kk : ∀ (H1 : Heap) (locs1 : List Loc), FS D cy B L K (up P a k v) J H0 I H1 locs1 → W p l e R s m args below meth c H1 locs1 cells slots Q (F0 m (pc + 3) ls rest)) : W p l e R s m args below meth c H locs cells slots Q (F0 m pc ls (.ref v :: .ref a :: rest)) := by
  obtain ⟨h1, h2, h3, h4, h5⟩ := gok_of ho
  subst h
  obtain ⟨hx, hb, -, hown, -, hFK, -⟩ := C0
  obtain ⟨k0, hk0⟩ := hF.get h1
  have hk1 := hk0
  rw [fcell_obj h2 h3] at hk0
  obtain ⟨hfin, rfl, rfl⟩ := hT
  refine va_put hx hb hFK.use hC.2.1 ty hC.2.2.1 hC.2.2.2 hown hFK.1 hF.1 hF.2.1 hF.2.2.1 k0 hk0 hC.1 k h4 (hFK.use _ hw) (fun _ h => h) hfin (hC.2.2.1 k h4) hfit.1 hfit.2 (by rw [fobj_len]; exact h4) hdg ?_
  intro H1 locs1 g1 g2 g3
  have hset : (fobj cy P I ci a).set k (.ref v) = fobj cy (up P a k v) I ci a := fobj_set h4 (by simp only [fval, h5, if_true, up_s, rfo_ne hv]) (fun j hj => by simp [fval, up_k P a a v hj])
  have he := fl_set (g := fcell cy K (up P a k v) J I) hF.2.1 (hF.2.2.2.1 a h1) hk1 (fcell_obj h2 h3) (fun b hb => fcell_upP hb)
  rw [hset, he] at g1 g2
  exact kk H1 locs1 ⟨g1, g2, g3, hF.2.2.2⟩
theorem fl_putFi (hC : Cls ci C T ty) (C0 : FC D cy B p s m meth c own cc nL) (hF : FS D cy B L K P J H0 I H locs) (hin : meth.name = "<init>") (h : K a = co) (ho : gok co ci k false = true) (hrx : rg x) (hT : (T k).2.2.2 = true ∧ (T k).2.1 = nm ∧ (T k).2.2.1 = "I" ∧ (T k).1 = own) (hw : Cond.fieldLink own idx (T k).1 nm "I" ∈ AW) (hdg : decode cc pc = .ok (.putfield idx, 3))
    (kk : ∀ (H1 : Heap) (locs1 : List Loc), FS D cy B L K P J H0 (up I a k x) H1 locs1 → W p l e R s m args below meth c H1 locs1 cells slots Q (F0 m (pc + 3) ls rest)) : W p l e R s m args below meth c H locs cells slots Q (F0 m pc ls (iv x :: .ref a :: rest)) := by
  obtain ⟨h1, h2, h3, h4, h5⟩ := gok_of ho
  subst h
  obtain ⟨hx, hb, -, hown, -, hFK, -⟩ := C0
  obtain ⟨k0, hk0⟩ := hF.get h1
  have hk1 := hk0
  rw [fcell_obj h2 h3] at hk0
  obtain ⟨hfin, rfl, hds, hdecl⟩ := hT
  refine va_putF hx hb hFK.use hC.2.1 ty hC.2.2.1 hC.2.2.2 hown hFK.1 hF.1 hF.2.1 hF.2.2.1 k0 hk0 hC.1 k h4 (by rw [hds]; exact hFK.use _ hw) (fun _ h => h) hfin hin hdecl (ty := .int) (by rw [hds]; rfl) rfl rfl (by rw [fobj_len]; exact h4) hdg ?_
  intro H1 locs1 g1 g2 g3
  have hset : (fobj cy P I ci a).set k (iv x) = fobj cy P (up I a k x) ci a := fobj_set h4 (by simp [fval, h5, up_s]) (fun j hj => by simp [fval, up_k I a a x hj])
  have he := fl_set (g := fcell cy K P J (up I a k x)) hF.2.1 (hF.2.2.2.1 a h1) hk1 (fcell_obj h2 h3) (fun b hb => fcell_up hb)
  rw [hset, he] at g1 g2
  exact kk H1 locs1 ⟨g1, g2, g3, hF.2.2.2.1, hF.2.2.2.2.1, hF.2.2.2.2.2.1, rgI_up hF.2.2.2.2.2.2 a k hrx⟩
/-- an object that is made becomes one of its kind -/
theorem FS.done (hF : FS D cy B L K P J H0 I H locs) {co2 : Nat} (h1 : K a = co) (h2 : cok co ci = true) (h3 : cok co2 ci = true) : FS D cy B L (va_up K a co2) P J H0 I H locs := by
  obtain ⟨g1, g2, g3⟩ := cok_of h2
  obtain ⟨g4, g5, g6⟩ := cok_of h3
  have hc : ∀ b, fcell cy (va_up K a co2) P J I b = fcell cy K P J I b := fun b => by
    by_cases hb : b = a
    · subst hb
      rw [fcell_obj (ci := ci) (by rw [va_up_self]; exact g5) (by rw [va_up_self]; exact g6), fcell_obj (ci := ci) (by rw [h1]; exact g2) (by rw [h1]; exact g3)]
    · unfold fcell
      rw [va_up_ne _ _ hb]
  have he := va_pl_congr (L := L) hc
  refine ⟨by rw [he]; exact hF.1, by rw [he]; exact hF.2.1, hF.2.2.1, fun b hb => ?_, hF.2.2.2.2⟩
  by_cases hba : b = a
  · subst hba
    exact hF.2.2.2.1 b (by rw [h1]; exact g1)
  · exact hF.2.2.2.1 b (by rwa [va_up_ne _ _ hba] at hb)
theorem fl_objInit {nm0 : MethodName} (C0 : FC D cy B p s m meth c own cc nL) (hsz : ls.size = nL) (w1 : Cond.methodLink own idx Lib.objectInit ∈ AW) (w2 : Cond.instanceMethod Lib.objectInit ∈ AW) (w3 : Cond.code Lib.objectInit ⟨#[0xb1]⟩ 1 none ∈ AW) (hd : decode cc pc = .ok (.invokespecial idx, 3)) (hfr : 1 ≤ R.frames) (hlo : (rest.map fun v => v.category).sum + 12 ≤ R.locals)
    (kk : W p l e R s m args below meth c H locs cells slots Q (F0 m (pc + 3) ls rest)) : W p l e R s m args below meth c H locs cells slots Q (F0 m pc ls (.ref a :: rest)) := by
  obtain ⟨hx, hb, hml, hown, -, hFK, hFZ⟩ := C0
  refine W.objInit hx hb hown (hFK.use _ w1) (hFK.use _ w2) (hFK.use _ w3) rfl (hsz.trans hml.symm) rfl hd hfr ?_ kk
  show 2 * 0 + _ + 12 ≤ _
  omega
end FA
