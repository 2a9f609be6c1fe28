abbrev SA : Type := List Nat × KT × PT × IT
abbrev PO : Type := List Nat → KT → PT → IT → Prop
def ckP (c x : Prop) : Prop := c ∧ x
def bndP {β : Type} (v : β) (f : β → Prop) : Prop := f v
def bpP {β : Type} (x : Option β) (f : β → Prop) : Prop := ∃ q, x = some q ∧ f q
def biP {β : Type} (x : Option (β × IT)) (f : β → IT → Prop) : Prop := ∃ q I', x = some (q, I') ∧ f q I'
def bxP {β : Type} (x : Option (Nat × β × IT)) (g : Nat → IT → Prop) (f : β → IT → Prop) : Prop := ∃ c q I', x = some (c, q, I') ∧ (c ≠ 0 → g c I') ∧ (c = 0 → f q I')
def nwP (L : List Nat) (K : KT) (P : PT) (I : IT) (co : Nat) (f : Nat → List Nat → KT → PT → IT → Prop) : Prop := ∀ q, q ∉ L → q ≠ 0 → f q (L ++ [q]) (va_up K q co) (clrN P q) (clr I q)
theorem bndP_f {β : Type} {v : β} {f : β → Prop} (h : bndP v f) : ∃ z, v = z ∧ f z := ⟨v, rfl, h⟩
theorem nwP_f {L : List Nat} {K : KT} {P : PT} {I : IT} {co : Nat} {f : Nat → List Nat → KT → PT → IT → Prop} (h : nwP L K P I co f) {q : Nat} (hq : q ∉ L) (h0 : q ≠ 0) : ∃ L1 K1 P1 I1, L ++ [q] = L1 ∧ va_up K q co = K1 ∧ clrN P q = P1 ∧ clr I q = I1 ∧ f q L1 K1 P1 I1 := ⟨_, _, _, _, rfl, rfl, rfl, rfl, h q hq h0⟩
/-- all that was there is as it was, but a -/
def EX (K : KT) (P : PT) (K1 : KT) (P1 : PT) (a : Nat) : Prop := ∀ b, K b ≠ 0 → b ≠ a → K1 b = K b ∧ P1 b = P b
def EK (K K1 : KT) : Prop := ∀ b, K b ≠ 0 → K1 b = K b
theorem EK.rf {K : KT} : EK K K := fun _ _ => rfl
theorem EK.tr {K K1 K2 : KT} (h : EK K K1) (h2 : EK K1 K2) : EK K K2 := fun b hb => (h2 b (by rw [h b hb]; exact hb)).trans (h b hb)
theorem EX.rf {K : KT} {P : PT} {a : Nat} : EX K P K P a := fun _ _ _ => ⟨rfl, rfl⟩
abbrev AVc (D : va_G) (cy : Nat → ClassId) (B : Nat) (J : IT) (K : KT) (P : PT) (a co : Nat) (post : PO) : Array Value → State → Outcome → State → Prop := va_Qv (fun u : SA => post u.1 u.2.1 u.2.2.1 u.2.2.2 ∧ WT u.2.1 u.2.2.1 ∧ EX K P u.2.1 u.2.2.1 a ∧ u.2.1 a = co) (fun u t => FW D cy B u.1 u.2.1 u.2.2.1 J u.2.2.2 t) (fun q => B ≤ q)
abbrev AVm (D : va_G) (cy : Nat → ClassId) (B : Nat) (J : IT) (K : KT) (post : PO) : Array Value → State → Outcome → State → Prop := va_Qv (fun u : SA => post u.1 u.2.1 u.2.2.1 u.2.2.2 ∧ WT u.2.1 u.2.2.1 ∧ EK K u.2.1) (fun u t => FW D cy B u.1 u.2.1 u.2.2.1 J u.2.2.2 t) (fun q => B ≤ q)
abbrev AIm (D : va_G) (cy : Nat → ClassId) (B : Nat) (J : IT) (K : KT) (post : Int → PO) : Array Value → State → Outcome → State → Prop := va_Qi (fun (r : Int32) (u : Int × SA) => (r = Int32.ofInt u.1 ∧ rg u.1) ∧ post u.1 u.2.1 u.2.2.1 u.2.2.2.1 u.2.2.2.2 ∧ WT u.2.2.1 u.2.2.2.1 ∧ EK K u.2.2.1) (fun u t => FW D cy B u.2.1 u.2.2.1 u.2.2.2.1 J u.2.2.2.2 t) (fun q => B ≤ q)
abbrev AXm (D : va_G) (cy : Nat → ClassId) (B : Nat) (J : IT) (K : KT) (post : Nat → PO) : String → State → State → Prop := vx_X (fun u : Nat × SA => u.1 ≠ 0 ∧ post u.1 u.2.1 u.2.2.1 u.2.2.2.1 u.2.2.2.2 ∧ WT u.2.2.1 u.2.2.2.1 ∧ EK K u.2.2.1) (fun E u t => E = exn u.1 ∧ FX D cy B u.2.1 u.2.2.1 u.2.2.2.1 J u.2.2.2.2 t) (fun q => B ≤ q)
section FB
variable {p : Program} {l : Launch} {e : Env} {R : Room} {s : State} {m : MethodId} {args : Array Value} {below : List Frame} {meth : Method} {c : Code} {H : Heap} {locs : List Loc} {cells slots mc ms : Nat} {Q : State → Prop}
variable {D : va_G} {cy : Nat → ClassId} {B : Nat} {L L1 : List Nat} {K K1 K0 : KT} {P P1 P0 : PT} {J I I1 : IT} {own : String} {cc : ByteArray} {nL pc : Nat} {ls : Array Slot} {rest st0 As : List Value} {H0 : Heap}
variable {ci k a b q idx co t n maxL a0 : Nat} {C nm ds host : String} {T : u_T} {ty : Nat → FieldType} {y : MethodName} {bytes : ByteArray} {rm : Room} {Qc : Array Value → State → Outcome → State → Prop} {XC : String → State → State → Prop}
theorem kn (hF : FS D cy B L K P J H0 I H locs) (hq : q ∉ L) (h : K a = co) (hc : (co != 0) = true) : va_up K q t a = co := by
  have h1 : a ∈ L := hF.2.2.2.1 a (by rw [h]; exact bne_iff_ne.mp hc)
  have h2 : a ≠ q := fun e => hq (e ▸ h1)
  rw [va_up_ne _ _ h2, h]
theorem nn (hF : FS D cy B L K P J H0 I H locs) (hq : q ∉ L) (h : K a = co) (hc : (co != 0) = true) : a ≠ q := by
  have h1 : a ∈ L := hF.2.2.2.1 a (by rw [h]; exact bne_iff_ne.mp hc)
  exact fun e => hq (e ▸ h1)
theorem FS.k0 (hF : FS D cy B L K P J H0 I H locs) (hq : q ∉ L) : K q = 0 := Classical.byContradiction (fun h => hq (hF.2.2.2.1 q h))
theorem wn (hF : FS D cy B L K P J H0 I H locs) (hq : q ∉ L) (hWT : WT K P) (ht : ∀ k, tt t k = 0) : WT (va_up K q t) (clrN P q) := by
  intro b k hb
  by_cases hbq : b = q
  · subst hbq
    rw [va_up_self] at hb
    exact absurd (ht k) hb
  · rw [va_up_ne _ _ hbq] at hb ⊢
    have h1 := hWT b k hb
    have h2 : clrN P q b k = P b k := by simp [clrN, hbq]
    rw [h2]
    have h3 : P b k ∈ L := hF.2.2.2.1 _ (by rw [h1]; exact hb)
    have h4 : P b k ≠ q := fun e => hq (e ▸ h3)
    rw [va_up_ne _ _ h4, h1]
/-- a made object's reference is set: what is typed stays so -/
theorem wu (hWT : WT K P) (h : K a = co) (ht : ∀ k, tt co k = 0) {v : Nat} : WT K (up P a k v) := by
  intro b j hb
  have h1 : b ≠ a := by
    intro e
    subst e
    rw [h] at hb
    exact hb (ht j)
  rw [up_a P k j v h1]
  exact hWT b j hb
theorem en (hE : EX K0 P0 K P a0) (hF : FS D cy B L K P J H0 I H locs) (hq : q ∉ L) : EX K0 P0 (va_up K q t) (clrN P q) a0 := by
  intro b hb hba
  obtain ⟨h1, h2⟩ := hE b hb hba
  have h3 : b ∈ L := hF.2.2.2.1 b (by rw [h1]; exact hb)
  have h4 : b ≠ q := fun e => hq (e ▸ h3)
  rw [va_up_ne _ _ h4]
  exact ⟨h1, by rw [← h2]; funext j; simp [clrN, h4]⟩
theorem eu (hE : EX K0 P0 K P a0) {v : Nat} : EX K0 P0 K (up P a0 k v) a0 := by
  intro b hb hba
  obtain ⟨h1, h2⟩ := hE b hb hba
  refine ⟨h1, ?_⟩
  rw [← h2]
  funext j
  exact up_a P k j v hba
/-- behind the constructor of a cell q that is new since K0 -/
theorem ec (hE : EX K0 P0 K P a0) (h : EX K P K1 P1 q) (hq : K0 q = 0) : EX K0 P0 K1 P1 a0 := by
  intro b hb hba
  obtain ⟨h1, h2⟩ := hE b hb hba
  have h3 : b ≠ q := fun e => hb (e ▸ hq)
  obtain ⟨h4, h5⟩ := h b (by rw [h1]; exact hb) h3
  exact ⟨h4.trans h1, h5.trans h2⟩
/-- K0 has nothing at a new cell -/
theorem k00 (hE : EX K0 P0 K P a0) (hF : FS D cy B L K P J H0 I H locs) (hq : q ∉ L) (ha : a0 ≠ q) : K0 q = 0 := by
  refine Classical.byContradiction (fun h => ?_)
  have h1 := (hE q h (Ne.symm ha)).1
  rw [hF.k0 hq] at h1
  exact h h1.symm
theorem ked (hE : EX K0 P0 K P a0) (hco : K a0 = co) : EX K0 P0 (va_up K a0 t) P a0 := by
  intro b hb hba
  obtain ⟨h1, h2⟩ := hE b hb hba
  exact ⟨by rw [va_up_ne _ _ hba]; exact h1, h2⟩
theorem kx (h : EX K P K1 P1 q) (hk : K a = co) (hc : (co != 0) = true) (hn : a ≠ q) : K1 a = co := ((h a (by rw [hk]; exact bne_iff_ne.mp hc) hn).1).trans hk
theorem px (h : EX K P K1 P1 q) (hk : K a = co) (hc : (co != 0) = true) (hn : a ≠ q) {v : Nat} (hp : P a k = v) : P1 a k = v := by rw [(h a (by rw [hk]; exact bne_iff_ne.mp hc) hn).2, hp]
theorem pn (hF : FS D cy B L K P J H0 I H locs) (hq : q ∉ L) (hk : K a = co) (hc : (co != 0) = true) {v : Nat} (hp : P a k = v) : clrN P q a k = v := by
  have h1 := nn hF hq hk hc
  simp only [clrN, if_neg h1, hp]
/-- the made object is one of its kind: the tables hold -/
theorem wd (hWT : WT K P) (h : K a = co) (ht : ∀ k, tt t k ≠ 0 → K (P a k) = tt t k ∧ P a k ≠ a) (hn : ∀ b k, K b ≠ 0 → tt (K b) k ≠ 0 → P b k ≠ a) : WT (va_up K a t) P := by
  intro b k hb
  by_cases hba : b = a
  · subst hba
    rw [va_up_self] at hb ⊢
    obtain ⟨h1, h2⟩ := ht k hb
    rw [va_up_ne _ _ h2, h1]
  · rw [va_up_ne _ _ hba] at hb ⊢
    have h1 : K b ≠ 0 := fun e => by rw [e] at hb; exact hb rfl
    rw [va_up_ne _ _ (hn b k h1 hb)]
    exact hWT b k hb
theorem tb_if {c : Prop} [Decidable c] {x y : Nat} (hx : x < 20 ∨ 100 ≤ x) (hy : y < 20 ∨ 100 ≤ y) : (if c then x else y) < 20 ∨ 100 ≤ (if c then x else y) := by split <;> assumption
theorem wraw (hWT : WT K P) (h : K a = co) (hr : (decide (20 ≤ co) && decide (co < 30)) = true) : ∀ b k, K b ≠ 0 → tt (K b) k ≠ 0 → P b k ≠ a := by
  intro b k _ hb he
  have h1 := hWT b k hb
  rw [he, h] at h1
  simp only [Bool.and_eq_true, decide_eq_true_eq] at hr
  have h2 : ∀ c k, tt c k < 20 ∨ 100 ≤ tt c k := by
    intro c k
    unfold tt
    split <;> (repeat' (first | refine tb_if ?_ ?_ | omega))
  have := h2 (K b) k
  omega
theorem fl_runI (C0 : FC D cy B p s m meth c own cc nL) (hF : FS D cy B L K P J s.heap I H locs) (hsz : ls.size = nL)
    (hM : Met l y [.code y bytes maxL none] rm (va_Pc (.ref b :: As) (FW D cy B L K P J I)) Qc mc ms (fun q => B ≤ q)) (w1 : Cond.methodLink own idx y ∈ AW) (w2 : Cond.instanceMethod y ∈ AW) (w4 : Cond.initialized y.cls ∈ AW) (w5 : Cond.code y bytes maxL none ∈ AW)
    (hy1 : y.name = "<init>") (hn : As.length = n) (hd : plainM y n) (hrc : rm.cells = mc) (hrs : rm.slots = ms) (hR : rooms R rm maxL) (hst : st0 = As.reverse ++ .ref b :: rest) (hW : (rest.map fun v => v.category).sum ≤ 8) (hdg : decode cc pc = .ok (.invokespecial idx, 3)) (hf : cells + mc ≤ R.cells ∧ slots + ms ≤ R.slots) :
    va_Run p l e R s m args below meth c H locs cells slots mc ms (F0 m pc ls st0) rest (Qc (Value.ref b :: As).toArray) (fun q => B ≤ q) := by
  obtain ⟨hx, hb, hml, hown, -, hFK, hFZ⟩ := C0
  exact va_runI (Ts := AW) ⟨hx, hb, hml, hown, hFK.use⟩ hM (cwI n hFK.use (gi_1 w5 rfl) rfl hrc hrs (hFK.use _ w4) (hFK.use _ w1) (hFK.use _ w2) hy1 hd hR) ⟨FW.blind, hF.pre hFK hFZ _⟩ rfl hn hsz hst (lv_room hW) hdg hf
theorem fl_runIN (C0 : FC D cy B p s m meth c own cc nL) (hF : FS D cy B L K P J s.heap I H locs) (hsz : ls.size = nL)
    (hM : Met l y [.code y bytes maxL none] rm (va_Pc (.ref b :: As) (FW D cy B L K P J I)) Qc mc ms (fun q => B ≤ q)) (w1 : Cond.methodLinkNest own idx y host ∈ AW) (w2 : Cond.instanceMethod y ∈ AW) (w4 : Cond.initialized y.cls ∈ AW) (w5 : Cond.code y bytes maxL none ∈ AW)
    (hy1 : y.name = "<init>") (hn : As.length = n) (hd : plainM y n) (hrc : rm.cells = mc) (hrs : rm.slots = ms) (hR : rooms R rm maxL) (hst : st0 = As.reverse ++ .ref b :: rest) (hW : (rest.map fun v => v.category).sum ≤ 8) (hdg : decode cc pc = .ok (.invokespecial idx, 3)) (hf : cells + mc ≤ R.cells ∧ slots + ms ≤ R.slots) :
    va_Run p l e R s m args below meth c H locs cells slots mc ms (F0 m pc ls st0) rest (Qc (Value.ref b :: As).toArray) (fun q => B ≤ q) := by
  obtain ⟨hx, hb, hml, hown, -, hFK, hFZ⟩ := C0
  exact va_runIN (Ts := AW) ⟨hx, hb, hml, hown, hFK.use⟩ hM ⟨va_cnB n hFK.use (gi_1 w5 rfl) rfl hrc hrs (hFK.2.1 _ w1) (hFK.use _ w4) hd hR, hy1, hFK.use _ w2⟩ ⟨FW.blind, hF.pre hFK hFZ _⟩ rfl hn hsz hst (lv_room hW) hdg hf
theorem FS.afterA {t : State} {H1 : Heap} {locs1 : List Loc} (hF : FS D cy B L K P J s.heap I H locs) (ht : t.heap = H1) (hS : va_S (fun q => B ≤ q) s.heap H1 locs1) (hw : FX D cy B L1 K1 P1 J I1 t) : FS D cy B L1 K1 P1 J s.heap I1 H1 locs1 := by
  subst ht
  exact ⟨hw.1, hw.2.1, hS, hw.2.2.2.1, hF.2.2.2.2.1, hF.2.2.2.2.2.1, hw.2.2.2.2.2.2⟩
theorem fl_avc {post : PO} {ar : Array Value} (hF : FS D cy B L K P J s.heap I H locs) (hr : va_Run p l e R s m args below meth c H locs cells slots mc ms (F0 m pc ls st0) rest (AVc D cy B J K P a co post ar) (fun q => B ≤ q))
    (kk : ∀ (L1 : List Nat) (K1 : KT) (P1 : PT) (I1 : IT) (H1 : Heap) (locs1 : List Loc), FS D cy B L1 K1 P1 J s.heap I1 H1 locs1 → post L1 K1 P1 I1 → WT K1 P1 → EX K P K1 P1 a → K1 a = co → W p l e R s m args below meth c H1 locs1 (cells + mc) (slots + ms) Q (F0 m (pc + 3) ls rest)) : W p l e R s m args below meth c H locs cells slots Q (F0 m pc ls st0) :=
  va_callv hr hF.2.2.1 (fun _ _ h => h) (fun _ h => h) (fun u t H1 locs1 ht _ hp hw _ _ hS => kk u.1 u.2.1 u.2.2.1 u.2.2.2 H1 locs1 (hF.afterA ht hS hw.1) hp.1 hp.2.1 hp.2.2.1 hp.2.2.2)
theorem fl_avm {post : PO} {ar : Array Value} (hF : FS D cy B L K P J s.heap I H locs) (hr : va_Run p l e R s m args below meth c H locs cells slots mc ms (F0 m pc ls st0) rest (AVm D cy B J K post ar) (fun q => B ≤ q))
    (kk : ∀ (L1 : List Nat) (K1 : KT) (P1 : PT) (I1 : IT) (H1 : Heap) (locs1 : List Loc), FS D cy B L1 K1 P1 J s.heap I1 H1 locs1 → post L1 K1 P1 I1 → WT K1 P1 → EK K K1 → W p l e R s m args below meth c H1 locs1 (cells + mc) (slots + ms) Q (F0 m (pc + 3) ls rest)) : W p l e R s m args below meth c H locs cells slots Q (F0 m pc ls st0) :=
  va_callv hr hF.2.2.1 (fun _ _ h => h) (fun _ h => h) (fun u t H1 locs1 ht _ hp hw _ _ hS => kk u.1 u.2.1 u.2.2.1 u.2.2.2 H1 locs1 (hF.afterA ht hS hw.1) hp.1 hp.2.1 hp.2.2)
theorem fl_aim {post : Int → PO} {ar : Array Value} (hF : FS D cy B L K P J s.heap I H locs) (hr : va_Run p l e R s m args below meth c H locs cells slots mc ms (F0 m pc ls st0) rest (AIm D cy B J K post ar) (fun q => B ≤ q))
    (kk : ∀ (r : Int) (L1 : List Nat) (K1 : KT) (P1 : PT) (I1 : IT) (H1 : Heap) (locs1 : List Loc), FS D cy B L1 K1 P1 J s.heap I1 H1 locs1 → rg r → post r L1 K1 P1 I1 → WT K1 P1 → EK K K1 → W p l e R s m args below meth c H1 locs1 (cells + mc) (slots + ms) Q (F0 m (pc + 3) ls (iv r :: rest))) : W p l e R s m args below meth c H locs cells slots Q (F0 m pc ls st0) :=
  va_calli hr hF.2.2.1 (fun _ _ h => h) (fun _ h => h) (fun r0 u t H1 locs1 ht _ hp hw _ _ hS => by obtain ⟨⟨rfl, h1⟩, h2, h3, h4⟩ := hp; exact kk u.1 u.2.1 u.2.2.1 u.2.2.2.1 u.2.2.2.2 H1 locs1 (hF.afterA ht hS hw.1) h1 h2 h3 h4)
theorem fl_vretC {post : PO} (C0 : FC D cy B p s m meth c own cc nL) (hF : FS D cy B L1 K1 P1 J s.heap I1 H locs) (hr : meth.sig.returnType = none) (h1 : post L1 K1 P1 I1) (h2 : WT K1 P1) (h3 : EX K P K1 P1 a) (h4 : K1 a = co) (hdg : decode cc pc = .ok (.return_, 1)) (hmc : cells ≤ mc) (hms : slots ≤ ms) : W p l e R s m args below meth c H locs cells slots (MQ below (AVc D cy B J K P a co post) args s mc ms (fun q => B ≤ q)) (F0 m pc ls []) := by
  obtain ⟨hx, hb, -, -, hlocks, hFK, hFZ⟩ := C0
  exact W.widen hmc hms (W.vret hx hb hr (fun t ht hW => ⟨⟨(L1, K1, P1, I1), rfl, ⟨h1, h2, h3, h4⟩, hF.world hFK hFZ ht hW⟩, hF.2.2.1.F ht⟩) (fun q hq => hF.2.2.1.2.2 q hq) hdg (hlocks := hlocks))
theorem fl_vretM {post : PO} (C0 : FC D cy B p s m meth c own cc nL) (hF : FS D cy B L1 K1 P1 J s.heap I1 H locs) (hr : meth.sig.returnType = none) (h1 : post L1 K1 P1 I1) (h2 : WT K1 P1) (h3 : EK K K1) (hdg : decode cc pc = .ok (.return_, 1)) (hmc : cells ≤ mc) (hms : slots ≤ ms) : W p l e R s m args below meth c H locs cells slots (MQ below (AVm D cy B J K post) args s mc ms (fun q => B ≤ q)) (F0 m pc ls []) := by
  obtain ⟨hx, hb, -, -, hlocks, hFK, hFZ⟩ := C0
  exact W.widen hmc hms (W.vret hx hb hr (fun t ht hW => ⟨⟨(L1, K1, P1, I1), rfl, ⟨h1, h2, h3⟩, hF.world hFK hFZ ht hW⟩, hF.2.2.1.F ht⟩) (fun q hq => hF.2.2.1.2.2 q hq) hdg (hlocks := hlocks))
theorem fl_zretM {r : Int} {post : Int → PO} (C0 : FC D cy B p s m meth c own cc nL) (hF : FS D cy B L1 K1 P1 J s.heap I1 H locs) (hr : meth.sig.returnType = some .boolean) (rr : rg r) (h01 : r = 0 ∨ r = 1) (h1 : post r L1 K1 P1 I1) (h2 : WT K1 P1) (h3 : EK K K1) (hdg : decode cc pc = .ok (.ireturn, 1)) (hmc : cells ≤ mc) (hms : slots ≤ ms) : W p l e R s m args below meth c H locs cells slots (MQ below (AIm D cy B J K post) args s mc ms (fun q => B ≤ q)) (F0 m pc ls [iv r]) := by
  obtain ⟨hx, hb, -, -, hlocks, hFK, hFZ⟩ := C0
  exact W.widen hmc hms (W.zret hx hb hr (by rcases h01 with rfl | rfl <;> rfl) (fun t ht hW => ⟨⟨_, (r, L1, K1, P1, I1), rfl, ⟨⟨rfl, rr⟩, h1, h2, h3⟩, hF.world hFK hFZ ht hW⟩, hF.2.2.1.F ht⟩) (fun q hq => hF.2.2.1.2.2 q hq) hdg (hlocks := hlocks))
theorem fl_iretM {r : Int} {post : Int → PO} (C0 : FC D cy B p s m meth c own cc nL) (hF : FS D cy B L1 K1 P1 J s.heap I1 H locs) (hr : meth.sig.returnType = some .int) (rr : rg r) (h1 : post r L1 K1 P1 I1) (h2 : WT K1 P1) (h3 : EK K K1) (hdg : decode cc pc = .ok (.ireturn, 1)) (hmc : cells ≤ mc) (hms : slots ≤ ms) : W p l e R s m args below meth c H locs cells slots (MQ below (AIm D cy B J K post) args s mc ms (fun q => B ≤ q)) (F0 m pc ls [iv r]) := by
  obtain ⟨hx, hb, -, -, hlocks, hFK, hFZ⟩ := C0
  exact W.widen hmc hms (W.iret hx hb hr (fun t ht hW => ⟨⟨_, (r, L1, K1, P1, I1), rfl, ⟨⟨rfl, rr⟩, h1, h2, h3⟩, hF.world hFK hFZ ht hW⟩, hF.2.2.1.F ht⟩) (fun q hq => hF.2.2.1.2.2 q hq) hdg (hlocks := hlocks))
theorem fl_throwA {post : Nat → PO} {ik is ic : Nat} {text : String} (C0 : FC D cy B p s m meth c "RejudgeHall" cc nL) (hF : FS D cy B L1 K1 P1 J s.heap I1 H locs) (hst : l.stackTraces = false) (hx0 : ∀ x ∈ c.exceptionTable.toList, False) (hsz : ls.size = nL) (hE : Exc (exn k) ik ic) (hk : k ≠ 0) (ht : (is, text) ∈ txts) (h1 : post k L1 K1 P1 I1) (h2 : WT K1 P1) (h3 : EK K K1)
    (d0 : decode cc pc = .ok (.new ik, 3)) (d3 : decode cc (pc + 3) = .ok (.dup, 1)) (d4 : decode cc (pc + 4) = .ok (.ldc is, 2)) (d6 : decode cc (pc + 6) = .ok (.invokespecial ic, 3)) (d9 : decode cc (pc + 9) = .ok (.athrow, 1))
    (hfr : 5 < R.frames) (hlo : (rest.map fun v => v.category).sum + 82 ≤ R.locals) (hc : cells + 1 ≤ R.cells) (hs : slots + 6 ≤ R.slots) (hmc : cells + 1 ≤ mc) (hms : slots + 6 ≤ ms) :
    W p l e R s m args below meth c H locs cells slots (vx_MQ below Qc (AXm D cy B J K post) args s mc ms (fun q => B ≤ q)) (F0 m pc ls rest) := by
  obtain ⟨hx, hb, hml, hown, hlocks, hFK, hFZ⟩ := C0
  obtain ⟨w1, w2, w3, hfit, hgood⟩ := hE
  obtain ⟨sa, hsa⟩ := hFK.2.2.1 _ ht
  refine vx_throwS hx hb hst hown hfit (by decide +kernel) (hFK.use _ w1) (hFK.use _ w2) hsa (fun w hw => hFK.use _ (w3 w hw)) hgood hFZ.1.1 hFZ.1.2 hF.2.2.1 (hsz.trans hml.symm) d0 d3 d4 d6 d9 (fun x hx => absurd hx (fun h => hx0 x h)) hfr (by simpa using hlo) hc hs hlocks ?_ (fun z hz => hF.2.2.1.2.2 z hz) hmc hms
  intro t _ g3 g4
  obtain ⟨g1, g2⟩ := hF.thrown g3 g4
  exact ⟨(k, L1, K1, P1, I1), ⟨hk, h1, h2, h3⟩, ⟨rfl, g1⟩, g2⟩
theorem fl_throwAW {post : Nat → PO} {ik is ic : Nat} {text : String} (C0 : FC D cy B p s m meth c "RejudgeHall" cc nL) (hF : FS D cy B L1 K1 P1 J s.heap I1 H locs) (hst : l.stackTraces = false) (hx0 : ∀ x ∈ c.exceptionTable.toList, False) (hsz : ls.size = nL) (hE : Exc (exn k) ik ic) (hk : k ≠ 0) (ht : (is, text) ∈ txts) (h1 : post k L1 K1 P1 I1) (h2 : WT K1 P1) (h3 : EK K K1)
    (d0 : decode cc pc = .ok (.new ik, 3)) (d3 : decode cc (pc + 3) = .ok (.dup, 1)) (d4 : decode cc (pc + 4) = .ok (.ldc_w is, 3)) (d7 : decode cc (pc + 7) = .ok (.invokespecial ic, 3)) (d10 : decode cc (pc + 10) = .ok (.athrow, 1))
    (hfr : 5 < R.frames) (hlo : (rest.map fun v => v.category).sum + 82 ≤ R.locals) (hc : cells + 1 ≤ R.cells) (hs : slots + 6 ≤ R.slots) (hmc : cells + 1 ≤ mc) (hms : slots + 6 ≤ ms) :
    W p l e R s m args below meth c H locs cells slots (vx_MQ below Qc (AXm D cy B J K post) args s mc ms (fun q => B ≤ q)) (F0 m pc ls rest) := by
  obtain ⟨hx, hb, hml, hown, hlocks, hFK, hFZ⟩ := C0
  obtain ⟨w1, w2, w3, hfit, hgood⟩ := hE
  obtain ⟨sa, hsa⟩ := hFK.2.2.1 _ ht
  refine vx_throwSW hx hb hst hown hfit (by decide +kernel) (hFK.use _ w1) (hFK.use _ w2) hsa (fun w hw => hFK.use _ (w3 w hw)) hgood hFZ.1.1 hFZ.1.2 hF.2.2.1 (hsz.trans hml.symm) d0 d3 d4 d7 d10 (fun x hx => absurd hx (fun h => hx0 x h)) hfr (by simpa using hlo) hc hs hlocks ?_ (fun z hz => hF.2.2.1.2.2 z hz) hmc hms
  intro t _ g3 g4
  obtain ⟨g1, g2⟩ := hF.thrown g3 g4
  exact ⟨(k, L1, K1, P1, I1), ⟨hk, h1, h2, h3⟩, ⟨rfl, g1⟩, g2⟩
theorem fl_propA {post : Nat → PO} {q : Addr} {ce : Cell} (C0 : FC D cy B p s m meth c own cc nL) (hF : FS D cy B L1 K1 P1 J s.heap I1 H locs) (hx0 : ∀ x ∈ c.exceptionTable.toList, False) (hk : k ≠ 0) (e1 : H[q]? = some ce) (e2 : ce.vm = .none) (e3 : s.vm.findClass (exn k) = some ce.cls) (h1 : post k L1 K1 P1 I1) (h2 : WT K1 P1) (h3 : EK K K1) (hmc : cells ≤ mc) (hms : slots ≤ ms) :
    vx_W p l e R s m args below meth c H locs cells slots (vx_MQ below Qc (AXm D cy B J K post) args s mc ms (fun q => B ≤ q)) (F0 m pc ls rest) q := by
  refine vx_out (fun x hx => absurd hx (fun h => hx0 x h)) C0.2.2.2.2.1 e1 e2 e3 ?_ (fun z hz => hF.2.2.1.2.2 z hz) hmc hms
  intro t ht _
  obtain ⟨g1, g2⟩ := hF.thrown (t := t) (by rw [ht]; exact Nat.le_refl _) (fun q _ => by rw [ht])
  exact ⟨(k, L1, K1, P1, I1), ⟨hk, h1, h2, h3⟩, ⟨rfl, g1⟩, g2⟩
end FB
/-- a constructor's walk -/
theorem fl_bodyI {l : Launch} {D : va_G} {cy : Nat → ClassId} {B : Nat} {L : List Nat} {K : KT} {P : PT} {J I : IT} {y : MethodName} {cc : ByteArray} {maxL : Nat} {rm : Room} {Qc : Array Value → State → Outcome → State → Prop} {mc ms : Nat} {own : String} (av : List Value) (hy : plainName y.cls = true) (ho : y.cls = own) (hi : y.name = "<init>") (hn : (lg_sl av).length ≤ maxL)
    (body : ∀ (p : Program) (e : Env) (s : State) (m : MethodId) (args : Array Value) (below : List Frame) (meth : Method) (c : Code) (ls : Array Slot), FC D cy B p s m meth c own cc maxL → meth.sig.returnType = none → meth.name = "<init>" → FS D cy B L K P J s.heap I s.heap [] → lv_has ls maxL (lv_args 0 av) →
      W p l e rm s m args below meth c s.heap [] 0 0 (MQ below Qc args s mc ms (fun q => B ≤ q)) (F0 m 0 ls [])) : Met l y [.code y cc maxL none] rm (va_Pc av (FW D cy B L K P J I)) Qc mc ms (fun q => B ≤ q) := by
  refine Met.ofW (cc := cc) (maxL := maxL) (ret := none) hy rfl ?_
  intro p e s m args below meth c s₁ B0 hml hv
  obtain ⟨rfl, hF, hFK, hFZ⟩ := hv
  subst ho
  have hl := lv_entry av (n := maxL) hn
  rw [lg_entry_eq]
  generalize (lg_sl av ++ List.replicate (maxL - (lg_sl av).length) Slot.unset).toArray = ls at hl ⊢
  exact body p e s m _ below meth c ls (FC.ofB B0 hml hFK hFZ) B0.returns ((name_of_methodNamed B0.named B0.method).1.trans hi) hF hl
