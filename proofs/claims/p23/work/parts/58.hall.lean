/-! THE LAW'S CALLS: a hall at x holds S -/
/-- what stands all the while a method of the law runs -/
def LC (p : Program) (s : State) (m : MethodId) (meth : Method) (c : Code) (D : va_G) (cy : Nat → ClassId) (B : Nat) (cc : ByteArray) (nL : Nat) : Prop := FC D cy B p s m meth c "RejudgeHallLaw" cc nL ∧ NC s
/-- the hall at x holds S -/
def HI (D : va_G) (cy : Nat → ClassId) (B : Nat) (H0 H : Heap) (locs : List Loc) (x : Nat) (S : Hl) : Prop := ∃ (tg : Tg) (L : List Nat) (K : KT) (P : PT) (J I : IT), FS D cy B L K P J H0 I H locs ∧ WT K P ∧ HR tg K P I x S ∧ S.ok ∧ TL tg L ∧ K x = 8
/-- a state that a method of the law finds or leaves -/
def HW (D : va_G) (cy : Nat → ClassId) (B : Nat) (x : Nat) (S : Hl) (U : State) : Prop := HI D cy B U.heap U.heap [] x S ∧ FK D cy U ∧ FZ cy B U U.heap ∧ NC U
theorem HI.ok {D : va_G} {cy : Nat → ClassId} {B : Nat} {H0 H : Heap} {locs : List Loc} {x : Nat} {S : Hl} (h : HI D cy B H0 H locs x S) : S.ok := by
  obtain ⟨tg, L, K, P, J, I, h1, h2, h3, h4, h5⟩ := h
  exact h4
theorem HI.va {D : va_G} {cy : Nat → ClassId} {B : Nat} {H0 H : Heap} {locs : List Loc} {x : Nat} {S : Hl} (h : HI D cy B H0 H locs x S) : va_S (fun q : Nat => B ≤ q) H0 H locs ∧ 1 < B ∧ B ≤ H0.size := by
  obtain ⟨tg, L, K, P, J, I, h1, h2⟩ := h
  exact ⟨h1.2.2.1, h1.2.2.2.2.1, h1.2.2.2.2.2.1⟩
theorem HW.blind {D : va_G} {cy : Nat → ClassId} {B : Nat} {x : Nat} {S : Hl} {av : List Value} : FrameBlind (va_Pc av (HW D cy B x S)) := fun a U g mk h => ⟨h.1, h.2.1, FK.same (s := U) (U := U.calling g mk a) rfl h.2.2.1, FZ.moved (u := U) (U := U.calling g mk a) (Vm.Alike.refl U.vm) h.2.2.2.1, h.2.2.2.2⟩
abbrev okR (R : Room) : Prop := 9 ≤ R.frames ∧ 250 ≤ R.locals
abbrev HQ (D : va_G) (cy : Nat → ClassId) (B : Nat) (x : Nat) (v : Int) (S : Hl) : Array Value → State → Outcome → State → Prop := va_Qi (fun (r : Int32) (_ : Unit) => r = Int32.ofInt v ∧ rg v) (fun _ t => HW D cy B x S t) (fun q => B ≤ q)
section HCalls
variable {p : Program} {l : Launch} {e : Env} {R : Room} {s : State} {m : MethodId} {args : Array Value} {below : List Frame} {meth : Method} {c : Code} {H : Heap} {locs : List Loc} {cells slots mc ms : Nat} {Q : State → Prop}
variable {D : va_G} {cy : Nat → ClassId} {B : Nat} {cc : ByteArray} {nL pc : Nat} {ls : Array Slot} {rest st0 As : List Value} {x : Nat} {S S' : Hl} {v : Int}
variable {y : MethodName} {bytes : ByteArray} {maxL idx n : Nat} {ret : Option FieldType} {rm : Room} {hh : List (Nat × Nat × Nat × Nat)}
theorem HI.world (C : LC p s m meth c D cy B cc nL) (hI : HI D cy B s.heap H locs x S) {t : State} (ht : t.heap = H) (hW : s.WarmedH t.vm) : HW D cy B x S t := by
  obtain ⟨tg, L, K, P, J, I, hF, h2⟩ := hI
  have h := hF.world C.1.2.2.2.2.2.1 C.1.2.2.2.2.2.2 ht hW
  exact ⟨⟨tg, L, K, P, J, I, h.1, h2⟩, h.2.1, h.2.2, NC.same hW.alike C.2⟩
theorem HI.pre (C : LC p s m meth c D cy B cc nL) (hI : HI D cy B s.heap H locs x S) (av : List Value) : ∀ U : State, U.heap = H → s.WarmedH U.vm → va_Pc av (HW D cy B x S) av.toArray U := fun U h1 h2 => ⟨rfl, hI.world C h1 h2⟩
theorem HI.after {t : State} {H1 : Heap} {locs1 : List Loc} (hI : HI D cy B s.heap H locs x S) (ht : t.heap = H1) (hS : va_S (fun q => B ≤ q) s.heap H1 locs1) (hw : HI D cy B t.heap t.heap [] x S') : HI D cy B s.heap H1 locs1 x S' := by
  subst ht
  obtain ⟨-, h2, h3⟩ := hI.va
  obtain ⟨tg, L, K, P, J, I, hF, h⟩ := hw
  exact ⟨tg, L, K, P, J, I, ⟨hF.1, hF.2.1, hS, hF.2.2.2.1, h2, h3, hF.2.2.2.2.2.2⟩, h⟩
/-- a call of another method of the law -/
theorem k_call (C : LC p s m meth c D cy B cc nL) (hI : HI D cy B s.heap H locs x S) (hsz : ls.size = nL) (hM : Met l y [.code y bytes maxL ret] rm (va_Pc As (HW D cy B x S)) (HQ D cy B x v S') mc ms (fun q => B ≤ q)) (w1 : Cond.methodLink "RejudgeHallLaw" idx y ∈ AW) (w2 : Cond.static y ∈ AW) (w4 : Cond.initialized y.cls ∈ AW) (w5 : Cond.code y bytes maxL ret ∈ AW)
    (hn : As.length = n) (hd : plainM y n) (hrc : rm.cells = mc) (hrs : rm.slots = ms) (hR : rooms R rm maxL) (hst : st0 = As.reverse ++ rest) (hW : (rest.map fun v => v.category).sum ≤ 8) (hdg : decode cc pc = .ok (.invokestatic idx, 3)) (hf : cells + mc ≤ R.cells ∧ slots + ms ≤ R.slots)
    (kk : ∀ (H : Heap) (locs : List Loc), HI D cy B s.heap H locs x S' → rg v → W p l e R s m args below meth c H locs (cells + mc) (slots + ms) Q (F0 m (pc + 3) ls (iv v :: rest))) : W p l e R s m args below meth c H locs cells slots Q (F0 m pc ls st0) := by
  have hp := hI.pre C As
  obtain ⟨⟨hx, hb, hml, hown, -, hFK, hFZ⟩, hN⟩ := C
  exact va_calli (va_runS (Ts := AW) ⟨hx, hb, hml, hown, hFK.use⟩ hM ⟨callB_of n hFK.use (gi_1 w5 rfl) rfl hrc hrs (hFK.use _ w4) (hFK.use _ w1) hd hR, hFK.use _ w2⟩ ⟨HW.blind, hp⟩ rfl hn hsz hst (lv_room hW) hdg hf) hI.va.1 (fun _ _ h => h) (fun _ h => h) (fun r0 u t H1 locs1 ht _ hp hw _ _ hS => by obtain ⟨rfl, hp⟩ := hp; exact kk H1 locs1 (hI.after ht hS hw.1) hp)
/-- of one that catches -/
theorem k_callH (C : LC p s m meth c D cy B cc nL) (hI : HI D cy B s.heap H locs x S) (hsz : ls.size = nL) (hM : Met l y [.codeWith y bytes maxL ret hh] rm (va_Pc As (HW D cy B x S)) (HQ D cy B x v S') mc ms (fun q => B ≤ q)) (w1 : Cond.methodLink "RejudgeHallLaw" idx y ∈ AW) (w2 : Cond.static y ∈ AW) (w4 : Cond.initialized y.cls ∈ AW) (w5 : Cond.codeWith y bytes maxL ret hh ∈ AW)
    (hn : As.length = n) (hd : plainM y n) (hrc : rm.cells = mc) (hrs : rm.slots = ms) (hR : rooms R rm maxL) (hst : st0 = As.reverse ++ rest) (hW : (rest.map fun v => v.category).sum ≤ 8) (hdg : decode cc pc = .ok (.invokestatic idx, 3)) (hf : cells + mc ≤ R.cells ∧ slots + ms ≤ R.slots)
    (kk : ∀ (H : Heap) (locs : List Loc), HI D cy B s.heap H locs x S' → rg v → W p l e R s m args below meth c H locs (cells + mc) (slots + ms) Q (F0 m (pc + 3) ls (iv v :: rest))) : W p l e R s m args below meth c H locs cells slots Q (F0 m pc ls st0) := by
  have hp := hI.pre C As
  obtain ⟨⟨hx, hb, hml, hown, -, hFK, hFZ⟩, hN⟩ := C
  exact va_calli (vx_runSW (Ts := AW) ⟨hx, hb, hml, hown, hFK.use⟩ hM (vx_cwSW n hFK.use (gi_c w1 rfl (gi_c w2 rfl (gi_c w4 rfl (gi_1 w5 rfl)))) rfl hrc hrs hd hR) ⟨HW.blind, hp⟩ rfl hn hsz hst (lv_room hW) hdg hf) hI.va.1 (fun _ _ h => h) (fun _ h => h) (fun r0 u t H1 locs1 ht _ hp hw _ _ hS => by obtain ⟨rfl, hp⟩ := hp; exact kk H1 locs1 (hI.after ht hS hw.1) hp)
/-- a method of the law returns -/
theorem k_iret (C : LC p s m meth c D cy B cc nL) (hI : HI D cy B s.heap H locs x S) (hr : meth.sig.returnType = some .int) (rv : rg v) (hdg : decode cc pc = .ok (.ireturn, 1)) (hmc : cells ≤ mc) (hms : slots ≤ ms) : W p l e R s m args below meth c H locs cells slots (MQ below (HQ D cy B x v S) args s mc ms (fun q => B ≤ q)) (F0 m pc ls [iv v]) := by
  obtain ⟨hx, hb, -, -, hlocks, hFK, hFZ⟩ := C.1
  exact W.widen hmc hms (W.iret hx hb hr (fun t ht hW => ⟨⟨_, (), rfl, ⟨rfl, rv⟩, hI.world C ht hW⟩, hI.va.1.F ht⟩) (fun q hq => hI.va.1.2.2 q hq) hdg (hlocks := hlocks))
theorem k_zret (C : LC p s m meth c D cy B cc nL) (hI : HI D cy B s.heap H locs x S) (hr : meth.sig.returnType = some .boolean) (rv : rg v) (h01 : v = 0 ∨ v = 1) (hdg : decode cc pc = .ok (.ireturn, 1)) (hmc : cells ≤ mc) (hms : slots ≤ ms) : W p l e R s m args below meth c H locs cells slots (MQ below (HQ D cy B x v S) args s mc ms (fun q => B ≤ q)) (F0 m pc ls [iv v]) := by
  obtain ⟨hx, hb, -, -, hlocks, hFK, hFZ⟩ := C.1
  exact W.widen hmc hms (W.zret hx hb hr (by rcases h01 with rfl | rfl <;> rfl) (fun t ht hW => ⟨⟨_, (), rfl, ⟨rfl, rv⟩, hI.world C ht hW⟩, hI.va.1.F ht⟩) (fun q hq => hI.va.1.2.2 q hq) hdg (hlocks := hlocks))
theorem k_code {a b : Int} (hst : l.stackTraces = false) (C : LC p s m meth c D cy B cc nL) (hR : okR R) (hI : HI D cy B s.heap H locs x S) (hsz : ls.size = nL) (ra : rg a) (rb : rg b) (hW : (rest.map fun v => v.category).sum ≤ 8) (hf : cells + 3 ≤ R.cells ∧ slots + 18 ≤ R.slots) (hdg : decode cc pc = .ok (.invokevirtual 13, 3))
    (kk : (codeS S a b).1 = 0 → ∀ (H : Heap) (locs : List Loc), HI D cy B s.heap H locs x (codeS S a b).2.2 → rg (codeS S a b).2.1 → W p l e R s m args below meth c H locs (cells + 3) (slots + 18) Q (F0 m (pc + 3) ls (iv (codeS S a b).2.1 :: rest)))
    (kx : (codeS S a b).1 ≠ 0 → ∀ (H : Heap) (locs : List Loc) (q : Addr) (ce : Cell), HI D cy B s.heap H locs x (codeS S a b).2.2 → H[q]? = some ce → ce.vm = .none → s.vm.findClass (exn (codeS S a b).1) = some ce.cls → vx_W p l e R s m args below meth c H locs (cells + 3) (slots + 18) Q (F0 m pc ls rest) q) : W p l e R s m args below meth c H locs cells slots Q (F0 m pc ls (iv b :: iv a :: .ref x :: rest)) := by
  obtain ⟨tg, L, K, P, J, I, hF, hWT, hH, hok, hTL, kx0⟩ := hI
  obtain ⟨r, I1, e1, e2, e3, e4⟩ := h_code (K := K) (w := a) (v := b) hH
  refine fl_xi hF (fl_runVX (As := [iv a, iv b]) (rest := rest) C.1 hF hsz ck_8 kx0 rfl (c_X7_code l hst D cy B L K P J hWT I x a b kx0 ra rb e1) aw_227 aw_228 aw_229 aw_45 aw_230 rfl rfl pm_X7_code rfl rfl ⟨Nat.le_trans (Nat.le_of_ble_eq_true rfl) hR.1, Nat.le_trans (Nat.le_of_ble_eq_true rfl) hR.2⟩ rfl hW hdg hf) (fun c1 H locs hF1 rr1 => ?_) (fun c1 H locs q ce hF1 e5 e6 e7 => ?_)
  · have h1 := e2 c1
    subst h1
    exact kk c1 H locs ⟨tg, L, K, P, J, I1, hF1, hWT, e3, codeS_ok hok, hTL, kx0⟩ rr1
  · exact kx c1 H locs q ce ⟨tg, L, K, P, J, I1, hF1, hWT, e3, codeS_ok hok, hTL, kx0⟩ e5 e6 e7
theorem j_code {a b : Int} (hst : l.stackTraces = false) (C : LC p s m meth c D cy B cc nL) (hR : okR R) (hI : HI D cy B s.heap H locs x S) (hsz : ls.size = nL) (ra : rg a) (rb : rg b) (hS : codeS S a b = (0, v, S')) (hW : (rest.map fun v => v.category).sum ≤ 8) (hf : cells + 3 ≤ R.cells ∧ slots + 18 ≤ R.slots) (hdg : decode cc pc = .ok (.invokevirtual 13, 3))
    (kk : ∀ (H : Heap) (locs : List Loc), HI D cy B s.heap H locs x S' → rg v → W p l e R s m args below meth c H locs (cells + 3) (slots + 18) Q (F0 m (pc + 3) ls (iv v :: rest))) : W p l e R s m args below meth c H locs cells slots Q (F0 m pc ls (iv b :: iv a :: .ref x :: rest)) := by
  refine k_code hst C hR hI hsz ra rb hW hf hdg (fun _ H locs hI2 rr => ?_) (fun h => absurd (by rw [hS]) h)
  rw [hS] at hI2 rr ⊢
  exact kk H locs hI2 rr
theorem k_input {a : Int} (hst : l.stackTraces = false) (C : LC p s m meth c D cy B cc nL) (hR : okR R) (hI : HI D cy B s.heap H locs x S) (hsz : ls.size = nL) (ra : rg a) (hW : (rest.map fun v => v.category).sum ≤ 8) (hf : cells + 2 ≤ R.cells ∧ slots + 12 ≤ R.slots) (hdg : decode cc pc = .ok (.invokevirtual 17, 3))
    (kk : (inputS S a).1 = 0 → ∀ (H : Heap) (locs : List Loc), HI D cy B s.heap H locs x (inputS S a).2.2 → rg (inputS S a).2.1 → W p l e R s m args below meth c H locs (cells + 2) (slots + 12) Q (F0 m (pc + 3) ls (iv (inputS S a).2.1 :: rest)))
    (kx : (inputS S a).1 ≠ 0 → ∀ (H : Heap) (locs : List Loc) (q : Addr) (ce : Cell), HI D cy B s.heap H locs x (inputS S a).2.2 → H[q]? = some ce → ce.vm = .none → s.vm.findClass (exn (inputS S a).1) = some ce.cls → vx_W p l e R s m args below meth c H locs (cells + 2) (slots + 12) Q (F0 m pc ls rest) q) : W p l e R s m args below meth c H locs cells slots Q (F0 m pc ls (iv a :: .ref x :: rest)) := by
  obtain ⟨tg, L, K, P, J, I, hF, hWT, hH, hok, hTL, kx0⟩ := hI
  obtain ⟨r, I1, e1, e2, e3, e4⟩ := h_input (K := K) (v := a) hH
  refine fl_xi hF (fl_runVX (As := [iv a]) (rest := rest) C.1 hF hsz ck_8 kx0 rfl (c_X7_input l hst D cy B L K P J hWT I x a kx0 ra e1) aw_322 aw_323 aw_324 aw_45 aw_325 rfl rfl pm_X7_input rfl rfl ⟨Nat.le_trans (Nat.le_of_ble_eq_true rfl) hR.1, Nat.le_trans (Nat.le_of_ble_eq_true rfl) hR.2⟩ rfl hW hdg hf) (fun c1 H locs hF1 rr1 => ?_) (fun c1 H locs q ce hF1 e5 e6 e7 => ?_)
  · have h1 := e2 c1
    subst h1
    exact kk c1 H locs ⟨tg, L, K, P, J, I1, hF1, hWT, e3, inputS_ok hok, hTL, kx0⟩ rr1
  · exact kx c1 H locs q ce ⟨tg, L, K, P, J, I1, hF1, hWT, e3, inputS_ok hok, hTL, kx0⟩ e5 e6 e7
theorem j_input {a : Int} (hst : l.stackTraces = false) (C : LC p s m meth c D cy B cc nL) (hR : okR R) (hI : HI D cy B s.heap H locs x S) (hsz : ls.size = nL) (ra : rg a) (hS : inputS S a = (0, v, S')) (hW : (rest.map fun v => v.category).sum ≤ 8) (hf : cells + 2 ≤ R.cells ∧ slots + 12 ≤ R.slots) (hdg : decode cc pc = .ok (.invokevirtual 17, 3))
    (kk : ∀ (H : Heap) (locs : List Loc), HI D cy B s.heap H locs x S' → rg v → W p l e R s m args below meth c H locs (cells + 2) (slots + 12) Q (F0 m (pc + 3) ls (iv v :: rest))) : W p l e R s m args below meth c H locs cells slots Q (F0 m pc ls (iv a :: .ref x :: rest)) := by
  refine k_input hst C hR hI hsz ra hW hf hdg (fun _ H locs hI2 rr => ?_) (fun h => absurd (by rw [hS]) h)
  rw [hS] at hI2 rr ⊢
  exact kk H locs hI2 rr
theorem k_run {a b : Int} (hst : l.stackTraces = false) (C : LC p s m meth c D cy B cc nL) (hR : okR R) (hI : HI D cy B s.heap H locs x S) (hsz : ls.size = nL) (ra : rg a) (rb : rg b) (hW : (rest.map fun v => v.category).sum ≤ 8) (hf : cells + 2 ≤ R.cells ∧ slots + 12 ≤ R.slots) (hdg : decode cc pc = .ok (.invokevirtual 21, 3))
    (kk : (callRun S a b).1 = 0 → ∀ (H : Heap) (locs : List Loc), HI D cy B s.heap H locs x (callRun S a b).2.2 → rg (callRun S a b).2.1 → W p l e R s m args below meth c H locs (cells + 2) (slots + 12) Q (F0 m (pc + 3) ls (iv (callRun S a b).2.1 :: rest)))
    (kx : (callRun S a b).1 ≠ 0 → ∀ (H : Heap) (locs : List Loc) (q : Addr) (ce : Cell), HI D cy B s.heap H locs x (callRun S a b).2.2 → H[q]? = some ce → ce.vm = .none → s.vm.findClass (exn (callRun S a b).1) = some ce.cls → vx_W p l e R s m args below meth c H locs (cells + 2) (slots + 12) Q (F0 m pc ls rest) q) : W p l e R s m args below meth c H locs cells slots Q (F0 m pc ls (iv b :: iv a :: .ref x :: rest)) := by
  obtain ⟨tg, L, K, P, J, I, hF, hWT, hH, hok, hTL, kx0⟩ := hI
  obtain ⟨r, I1, e1, e2, e3, e4⟩ := h_run (K := K) (lim := a) (w := b) hH hok
  refine fl_xi hF (fl_runVX (As := [iv a, iv b]) (rest := rest) C.1 hF hsz ck_8 kx0 rfl (c_X7_run l hst D cy B L K P J hWT I x a b kx0 ra rb e1) aw_564 aw_565 aw_566 aw_45 aw_567 rfl rfl pm_X7_run rfl rfl ⟨Nat.le_trans (Nat.le_of_ble_eq_true rfl) hR.1, Nat.le_trans (Nat.le_of_ble_eq_true rfl) hR.2⟩ rfl hW hdg hf) (fun c1 H locs hF1 rr1 => ?_) (fun c1 H locs q ce hF1 e5 e6 e7 => ?_)
  · have h1 := e2 c1
    subst h1
    exact kk c1 H locs ⟨tg, L, K, P, J, I1, hF1, hWT, e3, callRun_ok hok, hTL, kx0⟩ rr1
  · exact kx c1 H locs q ce ⟨tg, L, K, P, J, I1, hF1, hWT, e3, callRun_ok hok, hTL, kx0⟩ e5 e6 e7
theorem j_run {a b : Int} (hst : l.stackTraces = false) (C : LC p s m meth c D cy B cc nL) (hR : okR R) (hI : HI D cy B s.heap H locs x S) (hsz : ls.size = nL) (ra : rg a) (rb : rg b) (hS : callRun S a b = (0, v, S')) (hW : (rest.map fun v => v.category).sum ≤ 8) (hf : cells + 2 ≤ R.cells ∧ slots + 12 ≤ R.slots) (hdg : decode cc pc = .ok (.invokevirtual 21, 3))
    (kk : ∀ (H : Heap) (locs : List Loc), HI D cy B s.heap H locs x S' → rg v → W p l e R s m args below meth c H locs (cells + 2) (slots + 12) Q (F0 m (pc + 3) ls (iv v :: rest))) : W p l e R s m args below meth c H locs cells slots Q (F0 m pc ls (iv b :: iv a :: .ref x :: rest)) := by
  refine k_run hst C hR hI hsz ra rb hW hf hdg (fun _ H locs hI2 rr => ?_) (fun h => absurd (by rw [hS]) h)
  rw [hS] at hI2 rr ⊢
  exact kk H locs hI2 rr
theorem k_problem {a b : Int} (hst : l.stackTraces = false) (C : LC p s m meth c D cy B cc nL) (hR : okR R) (hI : HI D cy B s.heap H locs x S) (hsz : ls.size = nL) (ra : rg a) (rb : rg b) (hW : (rest.map fun v => v.category).sum ≤ 8) (hf : cells + 9 ≤ R.cells ∧ slots + 2061 ≤ R.slots) (hdg : decode cc pc = .ok (.invokevirtual 24, 3))
    (kk : (problemS S a b).1 = 0 → ∀ (H : Heap) (locs : List Loc), HI D cy B s.heap H locs x (problemS S a b).2.2 → rg (problemS S a b).2.1 → W p l e R s m args below meth c H locs (cells + 9) (slots + 2061) Q (F0 m (pc + 3) ls (iv (problemS S a b).2.1 :: rest)))
    (kx : (problemS S a b).1 ≠ 0 → ∀ (H : Heap) (locs : List Loc) (q : Addr) (ce : Cell), HI D cy B s.heap H locs x (problemS S a b).2.2 → H[q]? = some ce → ce.vm = .none → s.vm.findClass (exn (problemS S a b).1) = some ce.cls → vx_W p l e R s m args below meth c H locs (cells + 9) (slots + 2061) Q (F0 m pc ls rest) q) : W p l e R s m args below meth c H locs cells slots Q (F0 m pc ls (iv b :: iv a :: .ref x :: rest)) := by
  obtain ⟨tg, L, K, P, J, I, hF, hWT, hH, hok, hTL, kx0⟩ := hI
  refine fl_xim hF (fl_runVX (As := [iv a, iv b]) (rest := rest) C.1 hF hsz ck_8 kx0 rfl (a_X7_problem l hst D cy B L K P J I hWT x a b kx0 ra rb (KOut tg P I x (problemS S a b)) (h_problem hH hok hTL hF.kl)) aw_569 aw_570 aw_571 aw_45 aw_572 rfl rfl pm_X7_problem rfl rfl ⟨Nat.le_trans (Nat.le_of_ble_eq_true rfl) hR.1, Nat.le_trans (Nat.le_of_ble_eq_true rfl) hR.2⟩ rfl hW hdg hf) (fun r L1 K1 P1 I1 H locs hF1 rr1 hp1 hW1 hE1 => ?_) (fun co L1 K1 P1 I1 H locs q ce c1 hF1 hp1 hW1 hE1 e1 e2 e3 => ?_)
  · obtain ⟨⟨hco, hrq⟩, tg1, hH1, hTL1, hKL1, -⟩ := hp1
    have h1 := hrq rfl
    subst h1
    exact kk hco.symm H locs ⟨tg1, L1, K1, P1, J, I1, hF1, hW1, hH1, problemS_ok hok, hTL1, (hE1 x (by rw [kx0]; decide)).trans kx0⟩ rr1
  · obtain ⟨⟨hco, hrq⟩, tg1, hH1, hTL1, hKL1, -⟩ := hp1
    subst hco
    exact kx c1 H locs q ce ⟨tg1, L1, K1, P1, J, I1, hF1, hW1, hH1, problemS_ok hok, hTL1, (hE1 x (by rw [kx0]; decide)).trans kx0⟩ e1 e2 e3
theorem j_problem {a b : Int} (hst : l.stackTraces = false) (C : LC p s m meth c D cy B cc nL) (hR : okR R) (hI : HI D cy B s.heap H locs x S) (hsz : ls.size = nL) (ra : rg a) (rb : rg b) (hS : problemS S a b = (0, v, S')) (hW : (rest.map fun v => v.category).sum ≤ 8) (hf : cells + 9 ≤ R.cells ∧ slots + 2061 ≤ R.slots) (hdg : decode cc pc = .ok (.invokevirtual 24, 3))
    (kk : ∀ (H : Heap) (locs : List Loc), HI D cy B s.heap H locs x S' → rg v → W p l e R s m args below meth c H locs (cells + 9) (slots + 2061) Q (F0 m (pc + 3) ls (iv v :: rest))) : W p l e R s m args below meth c H locs cells slots Q (F0 m pc ls (iv b :: iv a :: .ref x :: rest)) := by
  refine k_problem hst C hR hI hsz ra rb hW hf hdg (fun _ H locs hI2 rr => ?_) (fun h => absurd (by rw [hS]) h)
  rw [hS] at hI2 rr ⊢
  exact kk H locs hI2 rr
theorem k_test {a b : Int} (hst : l.stackTraces = false) (C : LC p s m meth c D cy B cc nL) (hR : okR R) (hI : HI D cy B s.heap H locs x S) (hsz : ls.size = nL) (ra : rg a) (rb : rg b) (hW : (rest.map fun v => v.category).sum ≤ 8) (hf : cells + 8 ≤ R.cells ∧ slots + 2035 ≤ R.slots) (hdg : decode cc pc = .ok (.invokevirtual 27, 3))
    (kk : (testS S a b).1 = 0 → ∀ (H : Heap) (locs : List Loc), HI D cy B s.heap H locs x (testS S a b).2.2 → rg (testS S a b).2.1 → W p l e R s m args below meth c H locs (cells + 8) (slots + 2035) Q (F0 m (pc + 3) ls (iv (testS S a b).2.1 :: rest)))
    (kx : (testS S a b).1 ≠ 0 → ∀ (H : Heap) (locs : List Loc) (q : Addr) (ce : Cell), HI D cy B s.heap H locs x (testS S a b).2.2 → H[q]? = some ce → ce.vm = .none → s.vm.findClass (exn (testS S a b).1) = some ce.cls → vx_W p l e R s m args below meth c H locs (cells + 8) (slots + 2035) Q (F0 m pc ls rest) q) : W p l e R s m args below meth c H locs cells slots Q (F0 m pc ls (iv b :: iv a :: .ref x :: rest)) := by
  obtain ⟨tg, L, K, P, J, I, hF, hWT, hH, hok, hTL, kx0⟩ := hI
  refine fl_xim hF (fl_runVX (As := [iv a, iv b]) (rest := rest) C.1 hF hsz ck_8 kx0 rfl (a_X7_test l hst D cy B L K P J I hWT x a b kx0 ra rb (KOut tg P I x (testS S a b)) (h_test hH hok hTL hF.kl)) aw_673 aw_674 aw_675 aw_45 aw_676 rfl rfl pm_X7_test rfl rfl ⟨Nat.le_trans (Nat.le_of_ble_eq_true rfl) hR.1, Nat.le_trans (Nat.le_of_ble_eq_true rfl) hR.2⟩ rfl hW hdg hf) (fun r L1 K1 P1 I1 H locs hF1 rr1 hp1 hW1 hE1 => ?_) (fun co L1 K1 P1 I1 H locs q ce c1 hF1 hp1 hW1 hE1 e1 e2 e3 => ?_)
  · obtain ⟨⟨hco, hrq⟩, tg1, hH1, hTL1, hKL1, -⟩ := hp1
    have h1 := hrq rfl
    subst h1
    exact kk hco.symm H locs ⟨tg1, L1, K1, P1, J, I1, hF1, hW1, hH1, testS_ok hok, hTL1, (hE1 x (by rw [kx0]; decide)).trans kx0⟩ rr1
  · obtain ⟨⟨hco, hrq⟩, tg1, hH1, hTL1, hKL1, -⟩ := hp1
    subst hco
    exact kx c1 H locs q ce ⟨tg1, L1, K1, P1, J, I1, hF1, hW1, hH1, testS_ok hok, hTL1, (hE1 x (by rw [kx0]; decide)).trans kx0⟩ e1 e2 e3
theorem j_test {a b : Int} (hst : l.stackTraces = false) (C : LC p s m meth c D cy B cc nL) (hR : okR R) (hI : HI D cy B s.heap H locs x S) (hsz : ls.size = nL) (ra : rg a) (rb : rg b) (hS : testS S a b = (0, v, S')) (hW : (rest.map fun v => v.category).sum ≤ 8) (hf : cells + 8 ≤ R.cells ∧ slots + 2035 ≤ R.slots) (hdg : decode cc pc = .ok (.invokevirtual 27, 3))
    (kk : ∀ (H : Heap) (locs : List Loc), HI D cy B s.heap H locs x S' → rg v → W p l e R s m args below meth c H locs (cells + 8) (slots + 2035) Q (F0 m (pc + 3) ls (iv v :: rest))) : W p l e R s m args below meth c H locs cells slots Q (F0 m pc ls (iv b :: iv a :: .ref x :: rest)) := by
  refine k_test hst C hR hI hsz ra rb hW hf hdg (fun _ H locs hI2 rr => ?_) (fun h => absurd (by rw [hS]) h)
  rw [hS] at hI2 rr ⊢
  exact kk H locs hI2 rr
theorem k_points {a b d : Int} (hst : l.stackTraces = false) (C : LC p s m meth c D cy B cc nL) (hR : okR R) (hI : HI D cy B s.heap H locs x S) (hsz : ls.size = nL) (ra : rg a) (rb : rg b) (rd : rg d) (hW : (rest.map fun v => v.category).sum ≤ 8) (hf : cells + 3 ≤ R.cells ∧ slots + 18 ≤ R.slots) (hdg : decode cc pc = .ok (.invokevirtual 30, 3))
    (kk : (pointsS S a b d).1 = 0 → ∀ (H : Heap) (locs : List Loc), HI D cy B s.heap H locs x (pointsS S a b d).2.2 → rg (pointsS S a b d).2.1 → W p l e R s m args below meth c H locs (cells + 3) (slots + 18) Q (F0 m (pc + 3) ls (iv (pointsS S a b d).2.1 :: rest)))
    (kx : (pointsS S a b d).1 ≠ 0 → ∀ (H : Heap) (locs : List Loc) (q : Addr) (ce : Cell), HI D cy B s.heap H locs x (pointsS S a b d).2.2 → H[q]? = some ce → ce.vm = .none → s.vm.findClass (exn (pointsS S a b d).1) = some ce.cls → vx_W p l e R s m args below meth c H locs (cells + 3) (slots + 18) Q (F0 m pc ls rest) q) : W p l e R s m args below meth c H locs cells slots Q (F0 m pc ls (iv d :: iv b :: iv a :: .ref x :: rest)) := by
  obtain ⟨tg, L, K, P, J, I, hF, hWT, hH, hok, hTL, kx0⟩ := hI
  obtain ⟨r, I1, e1, e2, e3, e4⟩ := h_points (K := K) (p := a) (g := b) (v := d) hH
  refine fl_xi hF (fl_runVX (As := [iv a, iv b, iv d]) (rest := rest) C.1 hF hsz ck_8 kx0 rfl (c_X7_points l hst D cy B L K P J hWT I x a b d kx0 ra rb rd e1) aw_713 aw_714 aw_715 aw_45 aw_716 rfl rfl pm_X7_points rfl rfl ⟨Nat.le_trans (Nat.le_of_ble_eq_true rfl) hR.1, Nat.le_trans (Nat.le_of_ble_eq_true rfl) hR.2⟩ rfl hW hdg hf) (fun c1 H locs hF1 rr1 => ?_) (fun c1 H locs q ce hF1 e5 e6 e7 => ?_)
  · have h1 := e2 c1
    subst h1
    exact kk c1 H locs ⟨tg, L, K, P, J, I1, hF1, hWT, e3, pointsS_ok hok, hTL, kx0⟩ rr1
  · exact kx c1 H locs q ce ⟨tg, L, K, P, J, I1, hF1, hWT, e3, pointsS_ok hok, hTL, kx0⟩ e5 e6 e7
theorem j_points {a b d : Int} (hst : l.stackTraces = false) (C : LC p s m meth c D cy B cc nL) (hR : okR R) (hI : HI D cy B s.heap H locs x S) (hsz : ls.size = nL) (ra : rg a) (rb : rg b) (rd : rg d) (hS : pointsS S a b d = (0, v, S')) (hW : (rest.map fun v => v.category).sum ≤ 8) (hf : cells + 3 ≤ R.cells ∧ slots + 18 ≤ R.slots) (hdg : decode cc pc = .ok (.invokevirtual 30, 3))
    (kk : ∀ (H : Heap) (locs : List Loc), HI D cy B s.heap H locs x S' → rg v → W p l e R s m args below meth c H locs (cells + 3) (slots + 18) Q (F0 m (pc + 3) ls (iv v :: rest))) : W p l e R s m args below meth c H locs cells slots Q (F0 m pc ls (iv d :: iv b :: iv a :: .ref x :: rest)) := by
  refine k_points hst C hR hI hsz ra rb rd hW hf hdg (fun _ H locs hI2 rr => ?_) (fun h => absurd (by rw [hS]) h)
  rw [hS] at hI2 rr ⊢
  exact kk H locs hI2 rr
theorem k_mend {a b : Int} (hst : l.stackTraces = false) (C : LC p s m meth c D cy B cc nL) (hR : okR R) (hI : HI D cy B s.heap H locs x S) (hsz : ls.size = nL) (ra : rg a) (rb : rg b) (hW : (rest.map fun v => v.category).sum ≤ 8) (hf : cells + 3 ≤ R.cells ∧ slots + 18 ≤ R.slots) (hdg : decode cc pc = .ok (.invokevirtual 34, 3))
    (kk : (mendS S a b).1 = 0 → ∀ (H : Heap) (locs : List Loc), HI D cy B s.heap H locs x (mendS S a b).2.2 → rg (mendS S a b).2.1 → W p l e R s m args below meth c H locs (cells + 3) (slots + 18) Q (F0 m (pc + 3) ls (iv (mendS S a b).2.1 :: rest)))
    (kx : (mendS S a b).1 ≠ 0 → ∀ (H : Heap) (locs : List Loc) (q : Addr) (ce : Cell), HI D cy B s.heap H locs x (mendS S a b).2.2 → H[q]? = some ce → ce.vm = .none → s.vm.findClass (exn (mendS S a b).1) = some ce.cls → vx_W p l e R s m args below meth c H locs (cells + 3) (slots + 18) Q (F0 m pc ls rest) q) : W p l e R s m args below meth c H locs cells slots Q (F0 m pc ls (iv b :: iv a :: .ref x :: rest)) := by
  obtain ⟨tg, L, K, P, J, I, hF, hWT, hH, hok, hTL, kx0⟩ := hI
  obtain ⟨r, I1, e1, e2, e3, e4⟩ := h_mend (K := K) (v := a) (w := b) hH hok
  refine fl_xi hF (fl_runVX (As := [iv a, iv b]) (rest := rest) C.1 hF hsz ck_8 kx0 rfl (c_X7_mend l hst D cy B L K P J hWT I x a b kx0 ra rb e1) aw_717 aw_718 aw_719 aw_45 aw_720 rfl rfl pm_X7_mend rfl rfl ⟨Nat.le_trans (Nat.le_of_ble_eq_true rfl) hR.1, Nat.le_trans (Nat.le_of_ble_eq_true rfl) hR.2⟩ rfl hW hdg hf) (fun c1 H locs hF1 rr1 => ?_) (fun c1 H locs q ce hF1 e5 e6 e7 => ?_)
  · have h1 := e2 c1
    subst h1
    exact kk c1 H locs ⟨tg, L, K, P, J, I1, hF1, hWT, e3, mendS_ok hok, hTL, kx0⟩ rr1
  · exact kx c1 H locs q ce ⟨tg, L, K, P, J, I1, hF1, hWT, e3, mendS_ok hok, hTL, kx0⟩ e5 e6 e7
theorem j_mend {a b : Int} (hst : l.stackTraces = false) (C : LC p s m meth c D cy B cc nL) (hR : okR R) (hI : HI D cy B s.heap H locs x S) (hsz : ls.size = nL) (ra : rg a) (rb : rg b) (hS : mendS S a b = (0, v, S')) (hW : (rest.map fun v => v.category).sum ≤ 8) (hf : cells + 3 ≤ R.cells ∧ slots + 18 ≤ R.slots) (hdg : decode cc pc = .ok (.invokevirtual 34, 3))
    (kk : ∀ (H : Heap) (locs : List Loc), HI D cy B s.heap H locs x S' → rg v → W p l e R s m args below meth c H locs (cells + 3) (slots + 18) Q (F0 m (pc + 3) ls (iv v :: rest))) : W p l e R s m args below meth c H locs cells slots Q (F0 m pc ls (iv b :: iv a :: .ref x :: rest)) := by
  refine k_mend hst C hR hI hsz ra rb hW hf hdg (fun _ H locs hI2 rr => ?_) (fun h => absurd (by rw [hS]) h)
  rw [hS] at hI2 rr ⊢
  exact kk H locs hI2 rr
theorem k_answer {a b d : Int} (hst : l.stackTraces = false) (C : LC p s m meth c D cy B cc nL) (hR : okR R) (hI : HI D cy B s.heap H locs x S) (hsz : ls.size = nL) (ra : rg a) (rb : rg b) (rd : rg d) (hW : (rest.map fun v => v.category).sum ≤ 8) (hf : cells + 3 ≤ R.cells ∧ slots + 18 ≤ R.slots) (hdg : decode cc pc = .ok (.invokevirtual 37, 3))
    (kk : (answerS S a b d).1 = 0 → ∀ (H : Heap) (locs : List Loc), HI D cy B s.heap H locs x (answerS S a b d).2.2 → rg (answerS S a b d).2.1 → W p l e R s m args below meth c H locs (cells + 3) (slots + 18) Q (F0 m (pc + 3) ls (iv (answerS S a b d).2.1 :: rest)))
    (kx : (answerS S a b d).1 ≠ 0 → ∀ (H : Heap) (locs : List Loc) (q : Addr) (ce : Cell), HI D cy B s.heap H locs x (answerS S a b d).2.2 → H[q]? = some ce → ce.vm = .none → s.vm.findClass (exn (answerS S a b d).1) = some ce.cls → vx_W p l e R s m args below meth c H locs (cells + 3) (slots + 18) Q (F0 m pc ls rest) q) : W p l e R s m args below meth c H locs cells slots Q (F0 m pc ls (iv d :: iv b :: iv a :: .ref x :: rest)) := by
  obtain ⟨tg, L, K, P, J, I, hF, hWT, hH, hok, hTL, kx0⟩ := hI
  obtain ⟨r, I1, e1, e2, e3, e4⟩ := h_answer (K := K) (p := a) (t := b) (k := d) hH hok
  refine fl_xi hF (fl_runVX (As := [iv a, iv b, iv d]) (rest := rest) C.1 hF hsz ck_8 kx0 rfl (c_X7_answer l hst D cy B L K P J hWT I x a b d kx0 ra rb rd e1) aw_731 aw_732 aw_733 aw_45 aw_734 rfl rfl pm_X7_answer rfl rfl ⟨Nat.le_trans (Nat.le_of_ble_eq_true rfl) hR.1, Nat.le_trans (Nat.le_of_ble_eq_true rfl) hR.2⟩ rfl hW hdg hf) (fun c1 H locs hF1 rr1 => ?_) (fun c1 H locs q ce hF1 e5 e6 e7 => ?_)
  · have h1 := e2 c1
    subst h1
    exact kk c1 H locs ⟨tg, L, K, P, J, I1, hF1, hWT, e3, answerS_ok hok, hTL, kx0⟩ rr1
  · exact kx c1 H locs q ce ⟨tg, L, K, P, J, I1, hF1, hWT, e3, answerS_ok hok, hTL, kx0⟩ e5 e6 e7
theorem j_answer {a b d : Int} (hst : l.stackTraces = false) (C : LC p s m meth c D cy B cc nL) (hR : okR R) (hI : HI D cy B s.heap H locs x S) (hsz : ls.size = nL) (ra : rg a) (rb : rg b) (rd : rg d) (hS : answerS S a b d = (0, v, S')) (hW : (rest.map fun v => v.category).sum ≤ 8) (hf : cells + 3 ≤ R.cells ∧ slots + 18 ≤ R.slots) (hdg : decode cc pc = .ok (.invokevirtual 37, 3))
    (kk : ∀ (H : Heap) (locs : List Loc), HI D cy B s.heap H locs x S' → rg v → W p l e R s m args below meth c H locs (cells + 3) (slots + 18) Q (F0 m (pc + 3) ls (iv v :: rest))) : W p l e R s m args below meth c H locs cells slots Q (F0 m pc ls (iv d :: iv b :: iv a :: .ref x :: rest)) := by
  refine k_answer hst C hR hI hsz ra rb rd hW hf hdg (fun _ H locs hI2 rr => ?_) (fun h => absurd (by rw [hS]) h)
  rw [hS] at hI2 rr ⊢
  exact kk H locs hI2 rr
theorem k_enter {a b : Int} (hst : l.stackTraces = false) (C : LC p s m meth c D cy B cc nL) (hR : okR R) (hI : HI D cy B s.heap H locs x S) (hsz : ls.size = nL) (ra : rg a) (rb : rg b) (hW : (rest.map fun v => v.category).sum ≤ 8) (hf : cells + 7 ≤ R.cells ∧ slots + 2055 ≤ R.slots) (hdg : decode cc pc = .ok (.invokevirtual 40, 3))
    (kk : (enterS S a b).1 = 0 → ∀ (H : Heap) (locs : List Loc), HI D cy B s.heap H locs x (enterS S a b).2.2 → rg (enterS S a b).2.1 → W p l e R s m args below meth c H locs (cells + 7) (slots + 2055) Q (F0 m (pc + 3) ls (iv (enterS S a b).2.1 :: rest)))
    (kx : (enterS S a b).1 ≠ 0 → ∀ (H : Heap) (locs : List Loc) (q : Addr) (ce : Cell), HI D cy B s.heap H locs x (enterS S a b).2.2 → H[q]? = some ce → ce.vm = .none → s.vm.findClass (exn (enterS S a b).1) = some ce.cls → vx_W p l e R s m args below meth c H locs (cells + 7) (slots + 2055) Q (F0 m pc ls rest) q) : W p l e R s m args below meth c H locs cells slots Q (F0 m pc ls (iv b :: iv a :: .ref x :: rest)) := by
  obtain ⟨tg, L, K, P, J, I, hF, hWT, hH, hok, hTL, kx0⟩ := hI
  refine fl_xim hF (fl_runVX (As := [iv a, iv b]) (rest := rest) C.1 hF hsz ck_8 kx0 rfl (a_X7_enter l hst D cy B L K P J I hWT x a b kx0 ra rb (KOut tg P I x (enterS S a b)) (h_enter hH hok hTL hF.kl)) aw_736 aw_737 aw_738 aw_45 aw_739 rfl rfl pm_X7_enter rfl rfl ⟨Nat.le_trans (Nat.le_of_ble_eq_true rfl) hR.1, Nat.le_trans (Nat.le_of_ble_eq_true rfl) hR.2⟩ rfl hW hdg hf) (fun r L1 K1 P1 I1 H locs hF1 rr1 hp1 hW1 hE1 => ?_) (fun co L1 K1 P1 I1 H locs q ce c1 hF1 hp1 hW1 hE1 e1 e2 e3 => ?_)
  · obtain ⟨⟨hco, hrq⟩, tg1, hH1, hTL1, hKL1, -⟩ := hp1
    have h1 := hrq rfl
    subst h1
    exact kk hco.symm H locs ⟨tg1, L1, K1, P1, J, I1, hF1, hW1, hH1, enterS_ok hok, hTL1, (hE1 x (by rw [kx0]; decide)).trans kx0⟩ rr1
  · obtain ⟨⟨hco, hrq⟩, tg1, hH1, hTL1, hKL1, -⟩ := hp1
    subst hco
    exact kx c1 H locs q ce ⟨tg1, L1, K1, P1, J, I1, hF1, hW1, hH1, enterS_ok hok, hTL1, (hE1 x (by rw [kx0]; decide)).trans kx0⟩ e1 e2 e3
theorem j_enter {a b : Int} (hst : l.stackTraces = false) (C : LC p s m meth c D cy B cc nL) (hR : okR R) (hI : HI D cy B s.heap H locs x S) (hsz : ls.size = nL) (ra : rg a) (rb : rg b) (hS : enterS S a b = (0, v, S')) (hW : (rest.map fun v => v.category).sum ≤ 8) (hf : cells + 7 ≤ R.cells ∧ slots + 2055 ≤ R.slots) (hdg : decode cc pc = .ok (.invokevirtual 40, 3))
    (kk : ∀ (H : Heap) (locs : List Loc), HI D cy B s.heap H locs x S' → rg v → W p l e R s m args below meth c H locs (cells + 7) (slots + 2055) Q (F0 m (pc + 3) ls (iv v :: rest))) : W p l e R s m args below meth c H locs cells slots Q (F0 m pc ls (iv b :: iv a :: .ref x :: rest)) := by
  refine k_enter hst C hR hI hsz ra rb hW hf hdg (fun _ H locs hI2 rr => ?_) (fun h => absurd (by rw [hS]) h)
  rw [hS] at hI2 rr ⊢
  exact kk H locs hI2 rr
theorem k_pass {a : Int} (hst : l.stackTraces = false) (C : LC p s m meth c D cy B cc nL) (hR : okR R) (hI : HI D cy B s.heap H locs x S) (hsz : ls.size = nL) (ra : rg a) (hW : (rest.map fun v => v.category).sum ≤ 8) (hf : cells + 2 ≤ R.cells ∧ slots + 12 ≤ R.slots) (hdg : decode cc pc = .ok (.invokevirtual 43, 3))
    (kk : (passS S a).1 = 0 → ∀ (H : Heap) (locs : List Loc), HI D cy B s.heap H locs x (passS S a).2.2 → rg (passS S a).2.1 → W p l e R s m args below meth c H locs (cells + 2) (slots + 12) Q (F0 m (pc + 3) ls (iv (passS S a).2.1 :: rest)))
    (kx : (passS S a).1 ≠ 0 → ∀ (H : Heap) (locs : List Loc) (q : Addr) (ce : Cell), HI D cy B s.heap H locs x (passS S a).2.2 → H[q]? = some ce → ce.vm = .none → s.vm.findClass (exn (passS S a).1) = some ce.cls → vx_W p l e R s m args below meth c H locs (cells + 2) (slots + 12) Q (F0 m pc ls rest) q) : W p l e R s m args below meth c H locs cells slots Q (F0 m pc ls (iv a :: .ref x :: rest)) := by
  obtain ⟨tg, L, K, P, J, I, hF, hWT, hH, hok, hTL, kx0⟩ := hI
  obtain ⟨r, I1, e1, e2, e3, e4⟩ := h_pass (K := K) (v := a) hH hok
  refine fl_xi hF (fl_runVX (As := [iv a]) (rest := rest) C.1 hF hsz ck_8 kx0 rfl (c_X7_pass l hst D cy B L K P J hWT I x a kx0 ra e1) aw_335 aw_336 aw_337 aw_45 aw_338 rfl rfl pm_X7_pass rfl rfl ⟨Nat.le_trans (Nat.le_of_ble_eq_true rfl) hR.1, Nat.le_trans (Nat.le_of_ble_eq_true rfl) hR.2⟩ rfl hW hdg hf) (fun c1 H locs hF1 rr1 => ?_) (fun c1 H locs q ce hF1 e5 e6 e7 => ?_)
  · have h1 := e2 c1
    subst h1
    exact kk c1 H locs ⟨tg, L, K, P, J, I1, hF1, hWT, e3, passS_ok hok, hTL, kx0⟩ rr1
  · exact kx c1 H locs q ce ⟨tg, L, K, P, J, I1, hF1, hWT, e3, passS_ok hok, hTL, kx0⟩ e5 e6 e7
theorem j_pass {a : Int} (hst : l.stackTraces = false) (C : LC p s m meth c D cy B cc nL) (hR : okR R) (hI : HI D cy B s.heap H locs x S) (hsz : ls.size = nL) (ra : rg a) (hS : passS S a = (0, v, S')) (hW : (rest.map fun v => v.category).sum ≤ 8) (hf : cells + 2 ≤ R.cells ∧ slots + 12 ≤ R.slots) (hdg : decode cc pc = .ok (.invokevirtual 43, 3))
    (kk : ∀ (H : Heap) (locs : List Loc), HI D cy B s.heap H locs x S' → rg v → W p l e R s m args below meth c H locs (cells + 2) (slots + 12) Q (F0 m (pc + 3) ls (iv v :: rest))) : W p l e R s m args below meth c H locs cells slots Q (F0 m pc ls (iv a :: .ref x :: rest)) := by
  refine k_pass hst C hR hI hsz ra hW hf hdg (fun _ H locs hI2 rr => ?_) (fun h => absurd (by rw [hS]) h)
  rw [hS] at hI2 rr ⊢
  exact kk H locs hI2 rr
theorem k_rejudge {a : Int} (hst : l.stackTraces = false) (C : LC p s m meth c D cy B cc nL) (hR : okR R) (hI : HI D cy B s.heap H locs x S) (hsz : ls.size = nL) (ra : rg a) (hW : (rest.map fun v => v.category).sum ≤ 8) (hf : cells + 1 ≤ R.cells ∧ slots + 6 ≤ R.slots) (hdg : decode cc pc = .ok (.invokevirtual 46, 3))
    (kk : (rejudgeS S a).1 = 0 → ∀ (H : Heap) (locs : List Loc), HI D cy B s.heap H locs x (rejudgeS S a).2.2 → rg (rejudgeS S a).2.1 → W p l e R s m args below meth c H locs (cells + 1) (slots + 6) Q (F0 m (pc + 3) ls (iv (rejudgeS S a).2.1 :: rest)))
    (kx : (rejudgeS S a).1 ≠ 0 → ∀ (H : Heap) (locs : List Loc) (q : Addr) (ce : Cell), HI D cy B s.heap H locs x (rejudgeS S a).2.2 → H[q]? = some ce → ce.vm = .none → s.vm.findClass (exn (rejudgeS S a).1) = some ce.cls → vx_W p l e R s m args below meth c H locs (cells + 1) (slots + 6) Q (F0 m pc ls rest) q) : W p l e R s m args below meth c H locs cells slots Q (F0 m pc ls (iv a :: .ref x :: rest)) := by
  obtain ⟨tg, L, K, P, J, I, hF, hWT, hH, hok, hTL, kx0⟩ := hI
  obtain ⟨r, I1, e1, e2, e3, e4⟩ := h_rejudge (K := K) (p := a) hH hok
  refine fl_xi hF (fl_runVX (As := [iv a]) (rest := rest) C.1 hF hsz ck_8 kx0 rfl (c_X7_rejudge l hst D cy B L K P J hWT I x a kx0 ra e1) aw_441 aw_442 aw_443 aw_45 aw_444 rfl rfl pm_X7_rejudge rfl rfl ⟨Nat.le_trans (Nat.le_of_ble_eq_true rfl) hR.1, Nat.le_trans (Nat.le_of_ble_eq_true rfl) hR.2⟩ rfl hW hdg hf) (fun c1 H locs hF1 rr1 => ?_) (fun c1 H locs q ce hF1 e5 e6 e7 => ?_)
  · have h1 := e2 c1
    subst h1
    exact kk c1 H locs ⟨tg, L, K, P, J, I1, hF1, hWT, e3, rejudgeS_ok hok, hTL, kx0⟩ rr1
  · exact kx c1 H locs q ce ⟨tg, L, K, P, J, I1, hF1, hWT, e3, rejudgeS_ok hok, hTL, kx0⟩ e5 e6 e7
theorem j_rejudge {a : Int} (hst : l.stackTraces = false) (C : LC p s m meth c D cy B cc nL) (hR : okR R) (hI : HI D cy B s.heap H locs x S) (hsz : ls.size = nL) (ra : rg a) (hS : rejudgeS S a = (0, v, S')) (hW : (rest.map fun v => v.category).sum ≤ 8) (hf : cells + 1 ≤ R.cells ∧ slots + 6 ≤ R.slots) (hdg : decode cc pc = .ok (.invokevirtual 46, 3))
    (kk : ∀ (H : Heap) (locs : List Loc), HI D cy B s.heap H locs x S' → rg v → W p l e R s m args below meth c H locs (cells + 1) (slots + 6) Q (F0 m (pc + 3) ls (iv v :: rest))) : W p l e R s m args below meth c H locs cells slots Q (F0 m pc ls (iv a :: .ref x :: rest)) := by
  refine k_rejudge hst C hR hI hsz ra hW hf hdg (fun _ H locs hI2 rr => ?_) (fun h => absurd (by rw [hS]) h)
  rw [hS] at hI2 rr ⊢
  exact kk H locs hI2 rr
theorem k_entry {a b : Int} (hst : l.stackTraces = false) (C : LC p s m meth c D cy B cc nL) (hR : okR R) (hI : HI D cy B s.heap H locs x S) (hsz : ls.size = nL) (ra : rg a) (rb : rg b) (hW : (rest.map fun v => v.category).sum ≤ 8) (hf : cells + 2 ≤ R.cells ∧ slots + 12 ≤ R.slots) (hdg : decode cc pc = .ok (.invokevirtual 49, 3))
    (kk : (entryS S a b).1 = 0 → ∀ (H : Heap) (locs : List Loc), HI D cy B s.heap H locs x (entryS S a b).2.2 → rg (entryS S a b).2.1 → W p l e R s m args below meth c H locs (cells + 2) (slots + 12) Q (F0 m (pc + 3) ls (iv (entryS S a b).2.1 :: rest)))
    (kx : (entryS S a b).1 ≠ 0 → ∀ (H : Heap) (locs : List Loc) (q : Addr) (ce : Cell), HI D cy B s.heap H locs x (entryS S a b).2.2 → H[q]? = some ce → ce.vm = .none → s.vm.findClass (exn (entryS S a b).1) = some ce.cls → vx_W p l e R s m args below meth c H locs (cells + 2) (slots + 12) Q (F0 m pc ls rest) q) : W p l e R s m args below meth c H locs cells slots Q (F0 m pc ls (iv b :: iv a :: .ref x :: rest)) := by
  obtain ⟨tg, L, K, P, J, I, hF, hWT, hH, hok, hTL, kx0⟩ := hI
  obtain ⟨r, I1, e1, e2, e3, e4⟩ := h_entry (K := K) (e := a) (w := b) hH hok
  refine fl_xi hF (fl_runVX (As := [iv a, iv b]) (rest := rest) C.1 hF hsz ck_8 kx0 rfl (c_X7_entry l hst D cy B L K P J hWT I x a b kx0 ra rb e1) aw_473 aw_474 aw_475 aw_45 aw_476 rfl rfl pm_X7_entry rfl rfl ⟨Nat.le_trans (Nat.le_of_ble_eq_true rfl) hR.1, Nat.le_trans (Nat.le_of_ble_eq_true rfl) hR.2⟩ rfl hW hdg hf) (fun c1 H locs hF1 rr1 => ?_) (fun c1 H locs q ce hF1 e5 e6 e7 => ?_)
  · have h1 := e2 c1
    subst h1
    exact kk c1 H locs ⟨tg, L, K, P, J, I1, hF1, hWT, e3, entryS_ok hok, hTL, kx0⟩ rr1
  · exact kx c1 H locs q ce ⟨tg, L, K, P, J, I1, hF1, hWT, e3, entryS_ok hok, hTL, kx0⟩ e5 e6 e7
theorem j_entry {a b : Int} (hst : l.stackTraces = false) (C : LC p s m meth c D cy B cc nL) (hR : okR R) (hI : HI D cy B s.heap H locs x S) (hsz : ls.size = nL) (ra : rg a) (rb : rg b) (hS : entryS S a b = (0, v, S')) (hW : (rest.map fun v => v.category).sum ≤ 8) (hf : cells + 2 ≤ R.cells ∧ slots + 12 ≤ R.slots) (hdg : decode cc pc = .ok (.invokevirtual 49, 3))
    (kk : ∀ (H : Heap) (locs : List Loc), HI D cy B s.heap H locs x S' → rg v → W p l e R s m args below meth c H locs (cells + 2) (slots + 12) Q (F0 m (pc + 3) ls (iv v :: rest))) : W p l e R s m args below meth c H locs cells slots Q (F0 m pc ls (iv b :: iv a :: .ref x :: rest)) := by
  refine k_entry hst C hR hI hsz ra rb hW hf hdg (fun _ H locs hI2 rr => ?_) (fun h => absurd (by rw [hS]) h)
  rw [hS] at hI2 rr ⊢
  exact kk H locs hI2 rr
theorem k_likeness {a b : Int} (hst : l.stackTraces = false) (C : LC p s m meth c D cy B cc nL) (hR : okR R) (hI : HI D cy B s.heap H locs x S) (hsz : ls.size = nL) (ra : rg a) (rb : rg b) (hW : (rest.map fun v => v.category).sum ≤ 8) (hf : cells + 2 ≤ R.cells ∧ slots + 12 ≤ R.slots) (hdg : decode cc pc = .ok (.invokevirtual 52, 3))
    (kk : (likenessS S a b).1 = 0 → ∀ (H : Heap) (locs : List Loc), HI D cy B s.heap H locs x (likenessS S a b).2.2 → rg (likenessS S a b).2.1 → W p l e R s m args below meth c H locs (cells + 2) (slots + 12) Q (F0 m (pc + 3) ls (iv (likenessS S a b).2.1 :: rest)))
    (kx : (likenessS S a b).1 ≠ 0 → ∀ (H : Heap) (locs : List Loc) (q : Addr) (ce : Cell), HI D cy B s.heap H locs x (likenessS S a b).2.2 → H[q]? = some ce → ce.vm = .none → s.vm.findClass (exn (likenessS S a b).1) = some ce.cls → vx_W p l e R s m args below meth c H locs (cells + 2) (slots + 12) Q (F0 m pc ls rest) q) : W p l e R s m args below meth c H locs cells slots Q (F0 m pc ls (iv b :: iv a :: .ref x :: rest)) := by
  obtain ⟨tg, L, K, P, J, I, hF, hWT, hH, hok, hTL, kx0⟩ := hI
  obtain ⟨r, I1, e1, e2, e3, e4⟩ := h_likeness (K := K) (e := a) (o := b) hH hok
  refine fl_xi hF (fl_runVX (As := [iv a, iv b]) (rest := rest) C.1 hF hsz ck_8 kx0 rfl (c_X7_likeness l hst D cy B L K P J hWT I x a b kx0 ra rb e1) aw_481 aw_482 aw_483 aw_45 aw_484 rfl rfl pm_X7_likeness rfl rfl ⟨Nat.le_trans (Nat.le_of_ble_eq_true rfl) hR.1, Nat.le_trans (Nat.le_of_ble_eq_true rfl) hR.2⟩ rfl hW hdg hf) (fun c1 H locs hF1 rr1 => ?_) (fun c1 H locs q ce hF1 e5 e6 e7 => ?_)
  · have h1 := e2 c1
    subst h1
    exact kk c1 H locs ⟨tg, L, K, P, J, I1, hF1, hWT, e3, likenessS_ok hok, hTL, kx0⟩ rr1
  · exact kx c1 H locs q ce ⟨tg, L, K, P, J, I1, hF1, hWT, e3, likenessS_ok hok, hTL, kx0⟩ e5 e6 e7
theorem j_likeness {a b : Int} (hst : l.stackTraces = false) (C : LC p s m meth c D cy B cc nL) (hR : okR R) (hI : HI D cy B s.heap H locs x S) (hsz : ls.size = nL) (ra : rg a) (rb : rg b) (hS : likenessS S a b = (0, v, S')) (hW : (rest.map fun v => v.category).sum ≤ 8) (hf : cells + 2 ≤ R.cells ∧ slots + 12 ≤ R.slots) (hdg : decode cc pc = .ok (.invokevirtual 52, 3))
    (kk : ∀ (H : Heap) (locs : List Loc), HI D cy B s.heap H locs x S' → rg v → W p l e R s m args below meth c H locs (cells + 2) (slots + 12) Q (F0 m (pc + 3) ls (iv v :: rest))) : W p l e R s m args below meth c H locs cells slots Q (F0 m pc ls (iv b :: iv a :: .ref x :: rest)) := by
  refine k_likeness hst C hR hI hsz ra rb hW hf hdg (fun _ H locs hI2 rr => ?_) (fun h => absurd (by rw [hS]) h)
  rw [hS] at hI2 rr ⊢
  exact kk H locs hI2 rr
theorem k_board {a b d : Int} (hst : l.stackTraces = false) (C : LC p s m meth c D cy B cc nL) (hR : okR R) (hI : HI D cy B s.heap H locs x S) (hsz : ls.size = nL) (ra : rg a) (rb : rg b) (rd : rg d) (hW : (rest.map fun v => v.category).sum ≤ 8) (hf : cells + 2 ≤ R.cells ∧ slots + 12 ≤ R.slots) (hdg : decode cc pc = .ok (.invokevirtual 60, 3))
    (kk : (boardS S a b d).1 = 0 → ∀ (H : Heap) (locs : List Loc), HI D cy B s.heap H locs x (boardS S a b d).2.2 → rg (boardS S a b d).2.1 → W p l e R s m args below meth c H locs (cells + 2) (slots + 12) Q (F0 m (pc + 3) ls (iv (boardS S a b d).2.1 :: rest)))
    (kx : (boardS S a b d).1 ≠ 0 → ∀ (H : Heap) (locs : List Loc) (q : Addr) (ce : Cell), HI D cy B s.heap H locs x (boardS S a b d).2.2 → H[q]? = some ce → ce.vm = .none → s.vm.findClass (exn (boardS S a b d).1) = some ce.cls → vx_W p l e R s m args below meth c H locs (cells + 2) (slots + 12) Q (F0 m pc ls rest) q) : W p l e R s m args below meth c H locs cells slots Q (F0 m pc ls (iv d :: iv b :: iv a :: .ref x :: rest)) := by
  obtain ⟨tg, L, K, P, J, I, hF, hWT, hH, hok, hTL, kx0⟩ := hI
  obtain ⟨r, I1, e1, e2, e3, e4⟩ := h_board (K := K) (t := a) (fz := b) (w := d) hH hok
  refine fl_xi hF (fl_runVX (As := [iv a, iv b, iv d]) (rest := rest) C.1 hF hsz ck_8 kx0 rfl (c_X7_board l hst D cy B L K P J hWT I x a b d kx0 ra rb rd e1) aw_541 aw_542 aw_543 aw_45 aw_544 rfl rfl pm_X7_board rfl rfl ⟨Nat.le_trans (Nat.le_of_ble_eq_true rfl) hR.1, Nat.le_trans (Nat.le_of_ble_eq_true rfl) hR.2⟩ rfl hW hdg hf) (fun c1 H locs hF1 rr1 => ?_) (fun c1 H locs q ce hF1 e5 e6 e7 => ?_)
  · have h1 := e2 c1
    subst h1
    exact kk c1 H locs ⟨tg, L, K, P, J, I1, hF1, hWT, e3, boardS_ok hok, hTL, kx0⟩ rr1
  · exact kx c1 H locs q ce ⟨tg, L, K, P, J, I1, hF1, hWT, e3, boardS_ok hok, hTL, kx0⟩ e5 e6 e7
theorem j_board {a b d : Int} (hst : l.stackTraces = false) (C : LC p s m meth c D cy B cc nL) (hR : okR R) (hI : HI D cy B s.heap H locs x S) (hsz : ls.size = nL) (ra : rg a) (rb : rg b) (rd : rg d) (hS : boardS S a b d = (0, v, S')) (hW : (rest.map fun v => v.category).sum ≤ 8) (hf : cells + 2 ≤ R.cells ∧ slots + 12 ≤ R.slots) (hdg : decode cc pc = .ok (.invokevirtual 60, 3))
    (kk : ∀ (H : Heap) (locs : List Loc), HI D cy B s.heap H locs x S' → rg v → W p l e R s m args below meth c H locs (cells + 2) (slots + 12) Q (F0 m (pc + 3) ls (iv v :: rest))) : W p l e R s m args below meth c H locs cells slots Q (F0 m pc ls (iv d :: iv b :: iv a :: .ref x :: rest)) := by
  refine k_board hst C hR hI hsz ra rb rd hW hf hdg (fun _ H locs hI2 rr => ?_) (fun h => absurd (by rw [hS]) h)
  rw [hS] at hI2 rr ⊢
  exact kk H locs hI2 rr
theorem k_placeAnew {a : Int} (hst : l.stackTraces = false) (C : LC p s m meth c D cy B cc nL) (hR : okR R) (hI : HI D cy B s.heap H locs x S) (hsz : ls.size = nL) (ra : rg a) (hW : (rest.map fun v => v.category).sum ≤ 8) (hf : cells + 1 ≤ R.cells ∧ slots + 6 ≤ R.slots) (hdg : decode cc pc = .ok (.invokevirtual 64, 3))
    (kk : (placeAnewS S a).1 = 0 → ∀ (H : Heap) (locs : List Loc), HI D cy B s.heap H locs x (placeAnewS S a).2.2 → rg (placeAnewS S a).2.1 → W p l e R s m args below meth c H locs (cells + 1) (slots + 6) Q (F0 m (pc + 3) ls (iv (placeAnewS S a).2.1 :: rest)))
    (kx : (placeAnewS S a).1 ≠ 0 → ∀ (H : Heap) (locs : List Loc) (q : Addr) (ce : Cell), HI D cy B s.heap H locs x (placeAnewS S a).2.2 → H[q]? = some ce → ce.vm = .none → s.vm.findClass (exn (placeAnewS S a).1) = some ce.cls → vx_W p l e R s m args below meth c H locs (cells + 1) (slots + 6) Q (F0 m pc ls rest) q) : W p l e R s m args below meth c H locs cells slots Q (F0 m pc ls (iv a :: .ref x :: rest)) := by
  obtain ⟨tg, L, K, P, J, I, hF, hWT, hH, hok, hTL, kx0⟩ := hI
  obtain ⟨r, I1, e1, e2, e3, e4⟩ := h_placeAnew (K := K) (t := a) hH hok
  refine fl_xi hF (fl_runVX (As := [iv a]) (rest := rest) C.1 hF hsz ck_8 kx0 rfl (c_X7_placeAnew l hst D cy B L K P J hWT I x a kx0 ra e1) aw_550 aw_551 aw_552 aw_45 aw_553 rfl rfl pm_X7_placeAnew rfl rfl ⟨Nat.le_trans (Nat.le_of_ble_eq_true rfl) hR.1, Nat.le_trans (Nat.le_of_ble_eq_true rfl) hR.2⟩ rfl hW hdg hf) (fun c1 H locs hF1 rr1 => ?_) (fun c1 H locs q ce hF1 e5 e6 e7 => ?_)
  · have h1 := e2 c1
    subst h1
    exact kk c1 H locs ⟨tg, L, K, P, J, I1, hF1, hWT, e3, placeAnewS_ok hok, hTL, kx0⟩ rr1
  · exact kx c1 H locs q ce ⟨tg, L, K, P, J, I1, hF1, hWT, e3, placeAnewS_ok hok, hTL, kx0⟩ e5 e6 e7
theorem j_placeAnew {a : Int} (hst : l.stackTraces = false) (C : LC p s m meth c D cy B cc nL) (hR : okR R) (hI : HI D cy B s.heap H locs x S) (hsz : ls.size = nL) (ra : rg a) (hS : placeAnewS S a = (0, v, S')) (hW : (rest.map fun v => v.category).sum ≤ 8) (hf : cells + 1 ≤ R.cells ∧ slots + 6 ≤ R.slots) (hdg : decode cc pc = .ok (.invokevirtual 64, 3))
    (kk : ∀ (H : Heap) (locs : List Loc), HI D cy B s.heap H locs x S' → rg v → W p l e R s m args below meth c H locs (cells + 1) (slots + 6) Q (F0 m (pc + 3) ls (iv v :: rest))) : W p l e R s m args below meth c H locs cells slots Q (F0 m pc ls (iv a :: .ref x :: rest)) := by
  refine k_placeAnew hst C hR hI hsz ra hW hf hdg (fun _ H locs hI2 rr => ?_) (fun h => absurd (by rw [hS]) h)
  rw [hS] at hI2 rr ⊢
  exact kk H locs hI2 rr
theorem k_hack {a b : Int} (hst : l.stackTraces = false) (C : LC p s m meth c D cy B cc nL) (hR : okR R) (hI : HI D cy B s.heap H locs x S) (hsz : ls.size = nL) (ra : rg a) (rb : rg b) (hW : (rest.map fun v => v.category).sum ≤ 8) (hf : cells + 8 ≤ R.cells ∧ slots + 2035 ≤ R.slots) (hdg : decode cc pc = .ok (.invokevirtual 67, 3))
    (kk : (hackS S a b).1 = 0 → ∀ (H : Heap) (locs : List Loc), HI D cy B s.heap H locs x (hackS S a b).2.2 → rg (hackS S a b).2.1 → W p l e R s m args below meth c H locs (cells + 8) (slots + 2035) Q (F0 m (pc + 3) ls (iv (hackS S a b).2.1 :: rest)))
    (kx : (hackS S a b).1 ≠ 0 → ∀ (H : Heap) (locs : List Loc) (q : Addr) (ce : Cell), HI D cy B s.heap H locs x (hackS S a b).2.2 → H[q]? = some ce → ce.vm = .none → s.vm.findClass (exn (hackS S a b).1) = some ce.cls → vx_W p l e R s m args below meth c H locs (cells + 8) (slots + 2035) Q (F0 m pc ls rest) q) : W p l e R s m args below meth c H locs cells slots Q (F0 m pc ls (iv b :: iv a :: .ref x :: rest)) := by
  obtain ⟨tg, L, K, P, J, I, hF, hWT, hH, hok, hTL, kx0⟩ := hI
  refine fl_xim hF (fl_runVX (As := [iv a, iv b]) (rest := rest) C.1 hF hsz ck_8 kx0 rfl (a_X7_hack l hst D cy B L K P J I hWT x a b kx0 ra rb (KOut tg P I x (hackS S a b)) (h_hack hH hok hTL hF.kl)) aw_790 aw_791 aw_792 aw_45 aw_793 rfl rfl pm_X7_hack rfl rfl ⟨Nat.le_trans (Nat.le_of_ble_eq_true rfl) hR.1, Nat.le_trans (Nat.le_of_ble_eq_true rfl) hR.2⟩ rfl hW hdg hf) (fun r L1 K1 P1 I1 H locs hF1 rr1 hp1 hW1 hE1 => ?_) (fun co L1 K1 P1 I1 H locs q ce c1 hF1 hp1 hW1 hE1 e1 e2 e3 => ?_)
  · obtain ⟨⟨hco, hrq⟩, tg1, hH1, hTL1, hKL1, -⟩ := hp1
    have h1 := hrq rfl
    subst h1
    exact kk hco.symm H locs ⟨tg1, L1, K1, P1, J, I1, hF1, hW1, hH1, hackS_ok hok, hTL1, (hE1 x (by rw [kx0]; decide)).trans kx0⟩ rr1
  · obtain ⟨⟨hco, hrq⟩, tg1, hH1, hTL1, hKL1, -⟩ := hp1
    subst hco
    exact kx c1 H locs q ce ⟨tg1, L1, K1, P1, J, I1, hF1, hW1, hH1, hackS_ok hok, hTL1, (hE1 x (by rw [kx0]; decide)).trans kx0⟩ e1 e2 e3
theorem j_hack {a b : Int} (hst : l.stackTraces = false) (C : LC p s m meth c D cy B cc nL) (hR : okR R) (hI : HI D cy B s.heap H locs x S) (hsz : ls.size = nL) (ra : rg a) (rb : rg b) (hS : hackS S a b = (0, v, S')) (hW : (rest.map fun v => v.category).sum ≤ 8) (hf : cells + 8 ≤ R.cells ∧ slots + 2035 ≤ R.slots) (hdg : decode cc pc = .ok (.invokevirtual 67, 3))
    (kk : ∀ (H : Heap) (locs : List Loc), HI D cy B s.heap H locs x S' → rg v → W p l e R s m args below meth c H locs (cells + 8) (slots + 2035) Q (F0 m (pc + 3) ls (iv v :: rest))) : W p l e R s m args below meth c H locs cells slots Q (F0 m pc ls (iv b :: iv a :: .ref x :: rest)) := by
  refine k_hack hst C hR hI hsz ra rb hW hf hdg (fun _ H locs hI2 rr => ?_) (fun h => absurd (by rw [hS]) h)
  rw [hS] at hI2 rr ⊢
  exact kk H locs hI2 rr
theorem j_clear (C : LC p s m meth c D cy B cc nL) (hR : okR R) (hI : HI D cy B s.heap H locs x S) (hsz : ls.size = nL) (hS : (clearS S) = (0, v, S')) (hW : (rest.map fun v => v.category).sum ≤ 8) (hf : cells + 0 ≤ R.cells ∧ slots + 0 ≤ R.slots) (hdg : decode cc pc = .ok (.invokevirtual 94, 3))
    (kk : ∀ (H : Heap) (locs : List Loc), HI D cy B s.heap H locs x S' → rg v → W p l e R s m args below meth c H locs (cells + 0) (slots + 0) Q (F0 m (pc + 3) ls (iv v :: rest))) : W p l e R s m args below meth c H locs cells slots Q (F0 m pc ls (.ref x :: rest)) := by
  obtain ⟨tg, L, K, P, J, I, hF, hWT, hH, hok, hTL, kx0⟩ := hI
  obtain ⟨I1, e1, e3, e4⟩ := h_clear (K := K) hH
  have hok1 := clearS_ok hok
  rw [hS] at e1 e3 hok1
  exact fl_ri hF (fl_runV (As := []) (rest := rest) C.1 hF hsz ck_8 kx0 rfl (c_X7_clear l D cy B L K P J hWT I x kx0 e1) aw_331 aw_332 aw_333 aw_45 aw_334 rfl rfl pm_X7_clear rfl rfl ⟨Nat.le_trans (Nat.le_of_ble_eq_true rfl) hR.1, Nat.le_trans (Nat.le_of_ble_eq_true rfl) hR.2⟩ rfl hW hdg hf) (fun H locs hF1 rr1 => kk H locs ⟨tg, L, K, P, J, I1, hF1, hWT, e3, hok1, hTL, kx0⟩ rr1)
theorem j_judge (C : LC p s m meth c D cy B cc nL) (hR : okR R) (hI : HI D cy B s.heap H locs x S) (hsz : ls.size = nL) (hS : (judgeS S) = (0, v, S')) (hW : (rest.map fun v => v.category).sum ≤ 8) (hf : cells + 0 ≤ R.cells ∧ slots + 0 ≤ R.slots) (hdg : decode cc pc = .ok (.invokevirtual 107, 3))
    (kk : ∀ (H : Heap) (locs : List Loc), HI D cy B s.heap H locs x S' → rg v → W p l e R s m args below meth c H locs (cells + 0) (slots + 0) Q (F0 m (pc + 3) ls (iv v :: rest))) : W p l e R s m args below meth c H locs cells slots Q (F0 m pc ls (.ref x :: rest)) := by
  obtain ⟨tg, L, K, P, J, I, hF, hWT, hH, hok, hTL, kx0⟩ := hI
  obtain ⟨I1, e1, e3, e4⟩ := h_judge (K := K) hH hok
  have hok1 := judgeS_ok hok
  rw [hS] at e1 e3 hok1
  exact fl_ri hF (fl_runV (As := []) (rest := rest) C.1 hF hsz ck_8 kx0 rfl (c_X7_judge l D cy B L K P J hWT I x kx0 e1) aw_340 aw_341 aw_342 aw_45 aw_343 rfl rfl pm_X7_judge rfl rfl ⟨Nat.le_trans (Nat.le_of_ble_eq_true rfl) hR.1, Nat.le_trans (Nat.le_of_ble_eq_true rfl) hR.2⟩ rfl hW hdg hf) (fun H locs hF1 rr1 => kk H locs ⟨tg, L, K, P, J, I1, hF1, hWT, e3, hok1, hTL, kx0⟩ rr1)
theorem j_reveal (C : LC p s m meth c D cy B cc nL) (hR : okR R) (hI : HI D cy B s.heap H locs x S) (hsz : ls.size = nL) (hS : (revealS S) = (0, v, S')) (hW : (rest.map fun v => v.category).sum ≤ 8) (hf : cells + 0 ≤ R.cells ∧ slots + 0 ≤ R.slots) (hdg : decode cc pc = .ok (.invokevirtual 110, 3))
    (kk : ∀ (H : Heap) (locs : List Loc), HI D cy B s.heap H locs x S' → rg v → W p l e R s m args below meth c H locs (cells + 0) (slots + 0) Q (F0 m (pc + 3) ls (iv v :: rest))) : W p l e R s m args below meth c H locs cells slots Q (F0 m pc ls (.ref x :: rest)) := by
  obtain ⟨tg, L, K, P, J, I, hF, hWT, hH, hok, hTL, kx0⟩ := hI
  obtain ⟨I1, e1, e3, e4⟩ := h_reveal (K := K) hH hok
  have hok1 := revealS_ok hok
  rw [hS] at e1 e3 hok1
  exact fl_ri hF (fl_runV (As := []) (rest := rest) C.1 hF hsz ck_8 kx0 rfl (c_X7_reveal l D cy B L K P J hWT I x kx0 e1) aw_503 aw_504 aw_505 aw_45 aw_506 rfl rfl pm_X7_reveal rfl rfl ⟨Nat.le_trans (Nat.le_of_ble_eq_true rfl) hR.1, Nat.le_trans (Nat.le_of_ble_eq_true rfl) hR.2⟩ rfl hW hdg hf) (fun H locs hF1 rr1 => kk H locs ⟨tg, L, K, P, J, I1, hF1, hWT, e3, hok1, hTL, kx0⟩ rr1)
end HCalls
