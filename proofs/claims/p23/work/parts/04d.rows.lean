/-! the pieces that the methods' own functions are made of -/
def ck {α : Type} (c : Prop) [Decidable c] (x : Option α) : Option α := if c then x else none
def bnd {α β : Type} (v : β) (f : β → Option α) : Option α := f v
def bp {α β : Type} (x : Option β) (f : β → Option α) : Option α := match x with | none => none | some r => f r
def bi {α β : Type} (x : Option (β × IT)) (f : β → IT → Option α) : Option α := match x with | none => none | some q => f q.1 q.2
theorem ck_f {α : Type} {c : Prop} [Decidable c] {x : Option α} {r : α} (h : ck c x = some r) : c ∧ x = some r := by
  unfold ck at h
  split at h
  · exact ⟨‹c›, h⟩
  · cases h
theorem bnd_f {α β : Type} {v : β} {f : β → Option α} {r : α} (h : bnd v f = some r) : ∃ z, v = z ∧ f z = some r := ⟨v, rfl, h⟩
theorem bp_f {α β : Type} {x : Option β} {f : β → Option α} {r : α} (h : bp x f = some r) : ∃ q, x = some q ∧ f q = some r := by
  cases x with
  | none => cases h
  | some q => exact ⟨q, rfl, h⟩
theorem bi_f {α β : Type} {x : Option (β × IT)} {f : β → IT → Option α} {r : α} (h : bi x f = some r) : ∃ (q : β) (I' : IT), x = some (q, I') ∧ f q I' = some r := by
  cases x with
  | none => cases h
  | some q => exact ⟨q.1, q.2, rfl, h⟩
theorem ck_t {α : Type} {c : Prop} [Decidable c] {x : Option α} (h : c) : ck c x = x := if_pos h
theorem bnd_e {α β : Type} (v : β) (f : β → Option α) : bnd v f = f v := rfl
theorem bp_s {α β : Type} (q : β) (f : β → Option α) : bp (some q) f = f q := rfl
theorem bi_s {α β : Type} (q : β) (I : IT) (f : β → IT → Option α) : bi (some (q, I)) f = f q I := rfl
def FU : Nat := 1000
/-- the codes of what the objects' references lead to -/
def tt (c k : Nat) : Nat := match c with
  | 1 => if k = 1 then 3 else if k = 3 then 4 else 0
  | 2 => if k = 0 then 5 else if k = 1 then 5 else 0
  | 3 => if k = 2 then 4 else if k = 3 then 12 else if k = 4 then 116 else 0
  | 4 => if k = 0 then 164 else if k = 1 then 164 else 0
  | 5 => if k = 0 then 132 else 0
  | 6 => if k = 0 then 132 else if k = 1 then 132 else if k = 2 then 132 else if k = 3 then 292 else if k = 4 then 293 else 0
  | 7 => if k = 0 then 5 else if k = 1 then 5 else 0
  | 8 => if k = 0 then 4 else if k = 1 then 5 else if k = 2 then 2 else if k = 3 then 10 else if k = 4 then 11 else if k = 5 then 6 else if k = 6 then 132 else if k = 7 then 132 else if k = 8 then 293 else if k = 9 then 168 else 0
  | 9 => if k = 1 then 368 else if k = 2 then 4388 else if k = 3 then 4388 else if k = 4 then 392 else if k = 5 then 1268 else if k = 7 then 124 else if k = 8 then 124 else if k = 9 then 124 else if k = 10 then 124 else if k = 11 then 388 else if k = 12 then 196 else if k = 14 then 340 else if k = 15 then 340 else if k = 16 then 340 else if k = 17 then 340 else if k = 18 then 340 else if k = 19 then 340 else if k = 20 then 340 else if k = 21 then 132 else if k = 22 then 132 else if k = 28 then 132 else if k = 29 then 132 else if k = 32 then 132 else if k = 33 then 340 else if k = 34 then 132 else if k = 35 then 132 else if k = 36 then 132 else if k = 37 then 168 else if k = 24 then 293 else 0
  | _ => 0
def WT (K : KT) (P : PT) : Prop := ∀ a k, tt (K a) k ≠ 0 → K (P a k) = tt (K a) k
theorem wt_at {K : KT} {P : PT} (h : WT K P) {a c k t : Nat} (hk : K a = c) (ht : (tt c k == t && t != 0) = true) : K (P a k) = t := by
  simp only [Bool.and_eq_true, beq_iff_eq, bne_iff_ne] at ht
  have h1 := h a k
  rw [hk] at h1
  rw [h1 (by rw [ht.1]; exact ht.2), ht.1]
section FG
variable {p : Program} {l : Launch} {e : Env} {R : Room} {s : State} {m : MethodId} {args : Array Value} {below : List Frame} {meth : Method} {c : Code} {H : Heap} {locs : List Loc} {cells slots : Nat} {Q : State → Prop}
variable {D : va_G} {cy : Nat → ClassId} {B : Nat} {L : List Nat} {K : KT} {P : PT} {J I : IT} {own : String} {cc : ByteArray} {nL pc : Nat} {ls : Array Slot} {rest : List Value} {H0 : Heap}
variable {ci k a idx co t : Nat} {C nm ds host : String} {T : u_T} {ty : Nat → FieldType} {x : Int}
theorem FS.rI (hF : FS D cy B L K P J H0 I H locs) (a k : Nat) : rg (I a k) := hF.2.2.2.2.2.2 a k
theorem FS.ne0 (hF : FS D cy B L K P J H0 I H locs) {a : Nat} (h : K a ≠ 0) : 1 < a := by
  obtain ⟨k, hk⟩ := hF.get h
  have h1 : B ≤ a := hF.2.1.2 k _ hk
  have h2 := hF.2.2.2.2.1
  omega
theorem fl_geti (hC : Cls ci C T ty) (C0 : FC D cy B p s m meth c own cc nL) (hF : FS D cy B L K P J H0 I H locs) (h : K a = co) (ho : gok co ci k false = true) (hT : (T k).2.1 = nm ∧ (T k).2.2.1 = ds) (hw : Cond.fieldLink own idx (T k).1 nm ds ∈ AW) (hdg : decode cc pc = .ok (.getfield idx, 3))
    (kk : W p l e R s m args below meth c H locs cells slots Q (F0 m (pc + 3) ls (iv (I a k) :: rest))) : W p l e R s m args below meth c H locs cells slots Q (F0 m pc ls (.ref a :: rest)) := by
  obtain ⟨h1, h2, h3, h4, h5⟩ := gok_of ho
  subst h
  exact fl_get hC C0 hF h1 h2 h3 h4 (by simp [fval, h5]) hT hw hdg kk
theorem fl_getiN (hC : Cls ci C T ty) (C0 : FC D cy B p s m meth c own cc nL) (hF : FS D cy B L K P J H0 I H locs) (h : K a = co) (ho : gok co ci k false = true) (hT : (T k).2.1 = nm ∧ (T k).2.2.1 = ds) (hw : Cond.fieldLinkNest own idx (T k).1 nm ds host ∈ AW) (hdg : decode cc pc = .ok (.getfield idx, 3))
    (kk : W p l e R s m args below meth c H locs cells slots Q (F0 m (pc + 3) ls (iv (I a k) :: rest))) : W p l e R s m args below meth c H locs cells slots Q (F0 m pc ls (.ref a :: rest)) := by
  obtain ⟨h1, h2, h3, h4, h5⟩ := gok_of ho
  subst h
  exact fl_getN hC C0 hF h1 h2 h3 h4 (by simp [fval, h5]) hT hw hdg kk
theorem fl_getr (hC : Cls ci C T ty) (C0 : FC D cy B p s m meth c own cc nL) (hF : FS D cy B L K P J H0 I H locs) (h : K a = co) (ho : gok co ci k true = true) (hz : K (P a k) = t) (ht : (t != 0) = true) (hT : (T k).2.1 = nm ∧ (T k).2.2.1 = ds) (hw : Cond.fieldLink own idx (T k).1 nm ds ∈ AW) (hdg : decode cc pc = .ok (.getfield idx, 3))
    (kk : W p l e R s m args below meth c H locs cells slots Q (F0 m (pc + 3) ls (.ref (P a k) :: rest))) : W p l e R s m args below meth c H locs cells slots Q (F0 m pc ls (.ref a :: rest)) := by
  obtain ⟨h1, h2, h3, h4, h5⟩ := gok_of ho
  subst h
  have h6 : 1 < P a k := hF.ne0 (by rw [hz]; exact bne_iff_ne.mp ht)
  exact fl_get hC C0 hF h1 h2 h3 h4 (by simp only [fval, h5, if_true, rfo_ne h6]) hT hw hdg kk
theorem fl_getrN (hC : Cls ci C T ty) (C0 : FC D cy B p s m meth c own cc nL) (hF : FS D cy B L K P J H0 I H locs) (h : K a = co) (ho : gok co ci k true = true) (hz : K (P a k) = t) (ht : (t != 0) = true) (hT : (T k).2.1 = nm ∧ (T k).2.2.1 = ds) (hw : Cond.fieldLinkNest own idx (T k).1 nm ds host ∈ AW) (hdg : decode cc pc = .ok (.getfield idx, 3))
    (kk : W p l e R s m args below meth c H locs cells slots Q (F0 m (pc + 3) ls (.ref (P a k) :: rest))) : W p l e R s m args below meth c H locs cells slots Q (F0 m pc ls (.ref a :: rest)) := by
  obtain ⟨h1, h2, h3, h4, h5⟩ := gok_of ho
  subst h
  have h6 : 1 < P a k := hF.ne0 (by rw [hz]; exact bne_iff_ne.mp ht)
  exact fl_getN hC C0 hF h1 h2 h3 h4 (by simp only [fval, h5, if_true, rfo_ne h6]) hT hw hdg kk
theorem fl_puti (hC : Cls ci C T ty) (C0 : FC D cy B p s m meth c own cc nL) (hF : FS D cy B L K P J H0 I H locs) (h : K a = co) (ho : gok co ci k false = true) (hrx : rg x) (hT : (T k).2.2.2 = false ∧ (T k).2.1 = nm ∧ (T k).2.2.1 = "I") (hw : Cond.fieldLink own idx (T k).1 nm "I" ∈ AW) (hdg : decode cc pc = .ok (.putfield idx, 3))
    (kk : ∀ (H1 : Heap) (locs1 : List Loc), FS D cy B L K P J H0 (up I a k x) H1 locs1 → W p l e R s m args below meth c H1 locs1 cells slots Q (F0 m (pc + 3) ls rest)) : W p l e R s m args below meth c H locs cells slots Q (F0 m pc ls (iv x :: .ref a :: rest)) := by
  obtain ⟨h1, h2, h3, h4, h5⟩ := gok_of ho
  subst h
  exact fl_put hC C0 hF h1 h2 h3 h4 h5 hrx hT.1 ⟨hT.2.1, hT.2.2, rfl⟩ hw hdg kk
theorem fl_putiN (hC : Cls ci C T ty) (C0 : FC D cy B p s m meth c own cc nL) (hF : FS D cy B L K P J H0 I H locs) (h : K a = co) (ho : gok co ci k false = true) (hrx : rg x) (hT : (T k).2.2.2 = false ∧ (T k).2.1 = nm ∧ (T k).2.2.1 = "I") (hw : Cond.fieldLinkNest own idx (T k).1 nm "I" host ∈ AW) (hdg : decode cc pc = .ok (.putfield idx, 3))
    (kk : ∀ (H1 : Heap) (locs1 : List Loc), FS D cy B L K P J H0 (up I a k x) H1 locs1 → W p l e R s m args below meth c H1 locs1 cells slots Q (F0 m (pc + 3) ls rest)) : W p l e R s m args below meth c H locs cells slots Q (F0 m pc ls (iv x :: .ref a :: rest)) := by
  obtain ⟨h1, h2, h3, h4, h5⟩ := gok_of ho
  subst h
  exact fl_putN hC C0 hF h1 h2 h3 h4 h5 hrx hT.1 ⟨hT.2.1, hT.2.2, rfl⟩ hw hdg kk
end FG
/-- a method's walk, from its entry: the contract -/
theorem fl_body {l : Launch} {D : va_G} {cy : Nat → ClassId} {B : Nat} {L : List Nat} {K : KT} {P : PT} {J I : IT} {y : MethodName} {cc : ByteArray} {maxL : Nat} {ret : Option FieldType} {rm : Room} {Qc : Array Value → State → Outcome → State → Prop} {mc ms : Nat} {own : String} (av : List Value) (hy : plainName y.cls = true) (ho : y.cls = own) (hn : (lg_sl av).length ≤ maxL)
    (body : ∀ (p : Program) (e : Env) (s : State) (m : MethodId) (args : Array Value) (below : List Frame) (meth : Method) (c : Code) (ls : Array Slot), FC D cy B p s m meth c own cc maxL → meth.sig.returnType = ret → FS D cy B L K P J s.heap I s.heap [] → lv_has ls maxL (lv_args 0 av) →
      W p l e rm s m args below meth c s.heap [] 0 0 (MQ below Qc args s mc ms (fun q => B ≤ q)) (F0 m 0 ls [])) : Met l y [.code y cc maxL ret] rm (va_Pc av (FW D cy B L K P J I)) Qc mc ms (fun q => B ≤ q) := by
  refine Met.ofW (cc := cc) (maxL := maxL) (ret := ret) hy rfl ?_
  intro p e s m args below meth c s₁ B0 hml hv
  obtain ⟨rfl, hF, hFK, hFZ⟩ := hv
  subst ho
  have hl := lv_entry av (n := maxL) hn
  rw [lg_entry_eq]
  generalize (lg_sl av ++ List.replicate (maxL - (lg_sl av).length) Slot.unset).toArray = ls at hl ⊢
  exact body p e s m _ below meth c ls (FC.ofB B0 hml hFK hFZ) B0.returns hF hl
theorem rgk (n : Int) (h : (decide (-2147483648 ≤ n) && decide (n < 2147483648)) = true) : rg n := by
  simp only [Bool.and_eq_true, decide_eq_true_eq] at h
  exact h
