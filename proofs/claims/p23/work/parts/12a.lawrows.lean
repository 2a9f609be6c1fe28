/-! the law's own methods: their call of the class, their catchers, what they note in the row of longs -/
section FLW
variable {p : Program} {l : Launch} {e : Env} {R : Room} {s : State} {m : MethodId} {args : Array Value} {below : List Frame} {meth : Method} {c : Code} {H : Heap} {locs : List Loc} {cells slots mc ms mc' ms' : Nat} {Q : State → Prop}
variable {D : va_G} {cy : Nat → ClassId} {B : Nat} {L : List Nat} {K : KT} {P : PT} {J I : IT} {own : String} {cc : ByteArray} {nL pc : Nat} {ls : Array Slot} {rest st0 As : List Value} {H0 : Heap}
variable {Qc : Array Value → State → Outcome → State → Prop} {XC : String → State → State → Prop}
theorem fcell_upJ {a k b : Nat} {x : Int} (h : b ≠ a) : fcell cy K P (up J a k x) I b = fcell cy K P J I b := by
  have h1 : ∀ j, up J a k x b j = J b j := fun j => up_a J k j x h
  have h3 : farr cy P (up J a k x) I (K b % 4) b = farr cy P J I (K b % 4) b := by
    unfold farr
    simp only [h1]
  simp only [fcell, h3]
/-- of the three exceptions, none is a kind of another -/
def NC (U : State) : Prop := ∀ k k' : Nat, (k = 1 ∨ k = 2 ∨ k = 3) → (k' = 1 ∨ k' = 2 ∨ k' = 3) → k ≠ k' → va_Nc (exn k) (exn k') U
theorem NC.same {U V : State} (h : U.vm.Alike V.vm) (hN : NC U) : NC V := fun k k' h1 h2 h3 => va_Nc.moved h (hN k k' h1 h2 h3)
abbrev FL (D : va_G) (cy : Nat → ClassId) (B : Nat) (L : List Nat) (K : KT) (P : PT) (J I : IT) (U : State) : Prop := FW D cy B L K P J I U ∧ NC U
theorem FL.blind {av : List Value} : FrameBlind (va_Pc av (FL D cy B L K P J I)) := fun a U g mk h => ⟨h.1, (FW.blind a U g mk ⟨h.1, h.2.1⟩).2, h.2.2⟩
/-- a catcher of the law: the exception's code and its place in the law's pool -/
def Hdl (k i : Nat) : Prop := (k = 1 ∨ k = 2 ∨ k = 3) ∧ i ≠ 0 ∧ Cond.classLink "RejudgeHallLaw" i (exn k) ∈ AW ∧ Cond.castable (exn k) (exn k) ∈ AW
theorem hd_1 : Hdl 1 74 := ⟨by decide, by decide, aw_562, aw_236⟩
theorem hd_2 : Hdl 2 77 := ⟨by decide, by decide, aw_563, aw_304⟩
theorem hd_3 : Hdl 3 71 := ⟨by decide, by decide, aw_561, aw_454⟩
theorem fl_catch {k : Nat} {q : Addr} {ce : Cell} {pre suf : List ExceptionTableEntry} {x : ExceptionTableEntry} (C0 : FC D cy B p s m meth c "RejudgeHallLaw" cc nL) (hN : NC s) (hs : c.exceptionTable.toList = pre ++ x :: suf) (hp : ∀ z ∈ pre, ∃ k', k' ≠ k ∧ Hdl k' z.catchType) (hx : covers x pc = true) (hk : Hdl k x.catchType)
    (e1 : H[q]? = some ce) (e2 : ce.vm = .none) (e3 : s.vm.findClass (exn k) = some ce.cls) (kk : W p l e R s m args below meth c H locs cells slots Q (F0 m x.handlerPc ls [.ref q])) : vx_W p l e R s m args below meth c H locs cells slots Q (F0 m pc ls rest) q := by
  obtain ⟨-, -, -, hown, -, hFK, -⟩ := C0
  refine vx_catch hown pre x suf hs (fun z hz => ?_) hx hk.2.1 (hFK.use _ hk.2.2.1) (hFK.use _ hk.2.2.2) e1 e2 e3 kk
  obtain ⟨k', h1, h2⟩ := hp z hz
  exact Or.inr ⟨h2.2.1, _, hFK.use _ h2.2.2.1, hN k k' hk.1 h2.1 (Ne.symm h1)⟩
variable {y : MethodName} {bytes : ByteArray} {maxL idx co n b ci : Nat} {ret : Option FieldType} {rm : Room} {hh : List (Nat × Nat × Nat × Nat)}
theorem FS.preL (hF : FS D cy B L K P J s.heap I H locs) (hFK : FK D cy s) (hFZ : FZ cy B s s.heap) (hN : NC s) (av : List Value) : ∀ U : State, U.heap = H → s.WarmedH U.vm → va_Pc av (FL D cy B L K P J I) av.toArray U := fun U h1 h2 => ⟨rfl, (hF.pre hFK hFZ av U h1 h2).2, NC.same h2.alike hN⟩
theorem fl_runSW (C0 : FC D cy B p s m meth c own cc nL) (hF : FS D cy B L K P J s.heap I H locs) (hN : NC s) (hsz : ls.size = nL)
    (hM : Met l y [.codeWith y bytes maxL ret hh] rm (va_Pc As (FL D cy B L K P J I)) Qc mc ms (fun q => B ≤ q)) (w1 : Cond.methodLink own idx y ∈ AW) (w2 : Cond.static y ∈ AW) (w4 : Cond.initialized y.cls ∈ AW) (w5 : Cond.codeWith y bytes maxL ret hh ∈ AW)
    (hn : As.length = n) (hd : plainM y n) (hrc : rm.cells = mc) (hrs : rm.slots = ms) (hR : rooms R rm maxL) (hst : st0 = As.reverse ++ rest) (hW : (rest.map fun v => v.category).sum ≤ 8) (hdg : decode cc pc = .ok (.invokestatic idx, 3)) (hf : cells + mc ≤ R.cells ∧ slots + ms ≤ R.slots) :
    va_Run p l e R s m args below meth c H locs cells slots mc ms (F0 m pc ls st0) rest (Qc As.toArray) (fun q => B ≤ q) := by
  obtain ⟨hx, hb, hml, hown, -, hFK, hFZ⟩ := C0
  exact vx_runSW (Ts := AW) ⟨hx, hb, hml, hown, hFK.use⟩ hM (vx_cwSW n hFK.use (gi_c w1 rfl (gi_c w2 rfl (gi_c w4 rfl (gi_1 w5 rfl)))) rfl hrc hrs hd hR) ⟨FL.blind, hF.preL hFK hFZ hN _⟩ rfl hn hsz hst (lv_room hW) hdg hf
theorem FS.afterJ {L1 : List Nat} {K1 : KT} {P1 : PT} {J1 I1 : IT} {t : State} {H1 : Heap} {locs1 : List Loc} (hF : FS D cy B L K P J s.heap I H locs) (ht : t.heap = H1) (hS : va_S (fun q => B ≤ q) s.heap H1 locs1) (hw : FX D cy B L1 K1 P1 J1 I1 t) : FS D cy B L1 K1 P1 J1 s.heap I1 H1 locs1 := by
  subst ht
  exact ⟨hw.1, hw.2.1, hS, hw.2.2.2.1, hF.2.2.2.2.1, hF.2.2.2.2.2.1, hw.2.2.2.2.2.2⟩
theorem fl_riJ {r : Int} {J1 I1 : IT} {a : Array Value} (hF : FS D cy B L K P J s.heap I H locs) (hr : va_Run p l e R s m args below meth c H locs cells slots mc ms (F0 m pc ls st0) rest (QI D cy B L K P J1 (r, I1) a) (fun q => B ≤ q))
    (kk : ∀ (H1 : Heap) (locs1 : List Loc), FS D cy B L K P J1 s.heap I1 H1 locs1 → rg r → W p l e R s m args below meth c H1 locs1 (cells + mc) (slots + ms) Q (F0 m (pc + 3) ls (iv r :: rest))) : W p l e R s m args below meth c H locs cells slots Q (F0 m pc ls st0) :=
  va_calli hr hF.2.2.1 (fun _ _ h => h) (fun _ h => h) (fun r0 u t H1 locs1 ht _ hp hw _ _ hS => by obtain ⟨rfl, h1⟩ := hp; exact kk H1 locs1 (hF.afterJ ht hS hw.1) h1)
/-- what a maker of the law leaves -/
abbrev ALm (D : va_G) (cy : Nat → ClassId) (B : Nat) (K : KT) (hn : Nat → Int) (Jw : Nat → Int → IT) (post : Nat → Int → PO) : Array Value → State → Outcome → State → Prop := va_Qi (fun (r : Int32) (u : Nat × Int × SA) => (r = Int32.ofInt (hn u.1) ∧ rg (hn u.1)) ∧ rg u.2.1 ∧ post u.1 u.2.1 u.2.2.1 u.2.2.2.1 u.2.2.2.2.1 u.2.2.2.2.2 ∧ WT u.2.2.2.1 u.2.2.2.2.1 ∧ EK K u.2.2.2.1) (fun u t => FW D cy B u.2.2.1 u.2.2.2.1 u.2.2.2.2.1 (Jw u.1 u.2.1) u.2.2.2.2.2 t) (fun q => B ≤ q)
theorem fl_alm {hn : Nat → Int} {Jw : Nat → Int → IT} {post : Nat → Int → PO} {ar : Array Value} (hF : FS D cy B L K P J s.heap I H locs) (hr : va_Run p l e R s m args below meth c H locs cells slots mc ms (F0 m pc ls st0) rest (ALm D cy B K hn Jw post ar) (fun q => B ≤ q))
    (kk : ∀ (co : Nat) (r : Int) (L1 : List Nat) (K1 : KT) (P1 : PT) (I1 : IT) (H1 : Heap) (locs1 : List Loc), FS D cy B L1 K1 P1 (Jw co r) s.heap I1 H1 locs1 → rg (hn co) → rg r → post co r L1 K1 P1 I1 → WT K1 P1 → EK K K1 → W p l e R s m args below meth c H1 locs1 (cells + mc) (slots + ms) Q (F0 m (pc + 3) ls (iv (hn co) :: rest))) : W p l e R s m args below meth c H locs cells slots Q (F0 m pc ls st0) :=
  va_calli hr hF.2.2.1 (fun _ _ h => h) (fun _ h => h) (fun r0 u t H1 locs1 ht _ hp hw _ _ hS => by obtain ⟨⟨rfl, h1⟩, h2, h3, h4, h5⟩ := hp; exact kk u.1 u.2.1 u.2.2.1 u.2.2.2.1 u.2.2.2.2.1 u.2.2.2.2.2 H1 locs1 (hF.afterJ ht hS hw.1) h1 h2 h3 h4 h5)
theorem fl_iretL {r0 r : Int} {hn : Nat → Int} {Jw : Nat → Int → IT} {L1 : List Nat} {K1 : KT} {P1 : PT} {J1 I1 : IT} {post : Nat → Int → PO} (C0 : FC D cy B p s m meth c own cc nL) (hF : FS D cy B L1 K1 P1 J1 s.heap I1 H locs) (hr : meth.sig.returnType = some .int) (h0 : hn co = r0) (hJ : Jw co r = J1) (rr : rg r0) (rr2 : rg r) (h1 : post co r L1 K1 P1 I1) (h2 : WT K1 P1) (h3 : EK K K1) (hdg : decode cc pc = .ok (.ireturn, 1)) (hmc : cells ≤ mc) (hms : slots ≤ ms) : W p l e R s m args below meth c H locs cells slots (MQ below (ALm D cy B K hn Jw post) args s mc ms (fun q => B ≤ q)) (F0 m pc ls [iv r0]) := by
  subst h0
  subst hJ
  obtain ⟨hx, hb, -, -, hlocks, hFK, hFZ⟩ := C0
  exact W.widen hmc hms (W.iret hx hb hr (fun t ht hW => ⟨⟨_, (co, r, L1, K1, P1, I1), rfl, ⟨⟨rfl, rr⟩, rr2, h1, h2, h3⟩, hF.world hFK hFZ ht hW⟩, hF.2.2.1.F ht⟩) (fun q hq => hF.2.2.1.2.2 q hq) hdg (hlocks := hlocks))
theorem fl_xim {post : Nat → Int → PO} {a : Array Value} (hF : FS D cy B L K P J s.heap I H locs) (hr : vx_Run p l e R s m args below meth c H locs cells slots mc ms (F0 m pc ls st0) rest (AIm D cy B J K (post 0) a) (AXm D cy B J K (fun c => post c 0)) (fun q => B ≤ q))
    (kk : ∀ (r : Int) (L1 : List Nat) (K1 : KT) (P1 : PT) (I1 : IT) (H1 : Heap) (locs1 : List Loc), FS D cy B L1 K1 P1 J s.heap I1 H1 locs1 → rg r → post 0 r L1 K1 P1 I1 → WT K1 P1 → EK K K1 → W p l e R s m args below meth c H1 locs1 (cells + mc) (slots + ms) Q (F0 m (pc + 3) ls (iv r :: rest)))
    (kx : ∀ (co : Nat) (L1 : List Nat) (K1 : KT) (P1 : PT) (I1 : IT) (H1 : Heap) (locs1 : List Loc) (q : Addr) (ce : Cell), co ≠ 0 → FS D cy B L1 K1 P1 J s.heap I1 H1 locs1 → post co 0 L1 K1 P1 I1 → WT K1 P1 → EK K K1 → H1[q]? = some ce → ce.vm = .none → s.vm.findClass (exn co) = some ce.cls → vx_W p l e R s m args below meth c H1 locs1 (cells + mc) (slots + ms) Q (F0 m pc ls rest) q) : W p l e R s m args below meth c H locs cells slots Q (F0 m pc ls st0) :=
  vx_calli hr hF.2.2.1 (fun _ _ h => h) (fun _ h => h) (fun _ _ h => h) (fun E ce q9 u t H1 locs1 ht _ hp hw _ _ hS e1 e2 e3 => by obtain ⟨rfl, hw⟩ := hw; exact kx u.1 u.2.1 u.2.2.1 u.2.2.2.1 u.2.2.2.2 H1 locs1 q9 ce hp.1 (hF.afterJ ht hS hw) hp.2.1 hp.2.2.1 hp.2.2.2 e1 e2 e3) (fun r0 u t H1 locs1 ht _ hp hw _ _ hS => by obtain ⟨⟨rfl, h1⟩, h2, h3, h4⟩ := hp; exact kk u.1 u.2.1 u.2.2.1 u.2.2.2.1 u.2.2.2.2 H1 locs1 (hF.afterJ ht hS hw.1) h1 h2 h3 h4)
end FLW
theorem met_ofWH {l : Launch} {y : MethodName} {ws ws' : List Cond} {rm : Room} {Pc : Array Value → State → Prop} {Qc : Array Value → State → Outcome → State → Prop} {mc ms : Nat} {free : Addr → Prop} {cc : ByteArray} {maxL : Nat} {ret : Option FieldType} {hh : List (Nat × Nat × Nat × Nat)}
    (hy : plainName y.cls = true) (hw : ws = Cond.codeWith y cc maxL ret hh :: ws')
    (body : ∀ p e s m args below meth c s₁, BodyLoose p l y (headSpec ws rm) cc maxL ret e s m args below meth c s₁ → c.maxLocals = maxL → c.exceptionTable.toList = tableOf hh → Pc args s →
      W p l e (headSpec ws rm).room s m args below meth c s.heap [] 0 0 (MQ below Qc args s mc ms free) (entryFrame m args maxL)) : Met l y ws rm Pc Qc mc ms free := by
  refine MetFree.of_bodyS (code := cc) (maxLocals := maxL) (ret := ret) hy ?_ ?_
  · intro args s m h hn
    obtain ⟨m9, meth, c, hn9, h1, h2, h3, h4, -, h5, h6, -⟩ := Cond.codeWith_spec (atoms_spec (ws := ws) h _ (by rw [hw]; exact List.mem_cons_self))
    cases hn.symm.trans hn9
    exact ⟨meth, c, h1, h2, h3, h4, h5, h6⟩
  · intro p e s m args below meth c s₁ B hml hP _
    have hh0 : s₁.heap = s.heap := by rw [B.state]; rfl
    have ht := vx_table (x := y) B (atoms_spec (ws := ws) B.pre _ (by rw [hw]; exact List.mem_cons_self))
    obtain ⟨t, a1, o, b1, b2, b3⟩ := body p e s m args below meth c s₁ B hml ht hP s₁ hh0 (Stand.of_body B)
    exact ⟨t, o, a1, b1, b2, ⟨b3.1, b3.2⟩⟩
theorem fl_bodyH {l : Launch} {D : va_G} {cy : Nat → ClassId} {B : Nat} {L : List Nat} {K : KT} {P : PT} {J I : IT} {y : MethodName} {cc : ByteArray} {maxL : Nat} {ret : Option FieldType} {rm : Room} {Qc : Array Value → State → Outcome → State → Prop} {mc ms : Nat} {own : String} {hh : List (Nat × Nat × Nat × Nat)} (av : List Value) (hy : plainName y.cls = true) (ho : y.cls = own) (hn : (lg_sl av).length ≤ maxL)
    (body : ∀ (p : Program) (e : Env) (s : State) (m : MethodId) (args : Array Value) (below : List Frame) (meth : Method) (c : Code) (ls : Array Slot), FC D cy B p s m meth c own cc maxL → NC s → meth.sig.returnType = ret → c.exceptionTable.toList = tableOf hh → FS D cy B L K P J s.heap I s.heap [] → lv_has ls maxL (lv_args 0 av) →
      W p l e rm s m args below meth c s.heap [] 0 0 (MQ below Qc args s mc ms (fun q => B ≤ q)) (F0 m 0 ls [])) : Met l y [.codeWith y cc maxL ret hh] rm (va_Pc av (FL D cy B L K P J I)) Qc mc ms (fun q => B ≤ q) := by
  refine met_ofWH (cc := cc) (maxL := maxL) (ret := ret) hy rfl ?_
  intro p e s m args below meth c s₁ B0 hml ht hv
  obtain ⟨rfl, ⟨hF, hFK, hFZ⟩, hN⟩ := hv
  subst ho
  have hl := lv_entry av (n := maxL) hn
  rw [lg_entry_eq]
  generalize (lg_sl av ++ List.replicate (maxL - (lg_sl av).length) Slot.unset).toArray = ls at hl ⊢
  exact body p e s m _ below meth c ls (FC.ofB B0 hml hFK hFZ) hN B0.returns ht hF hl
